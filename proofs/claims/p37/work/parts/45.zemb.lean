/-! ===== heaps by shapes; a run on a part of the cells is one on all of them ===== -/
abbrev q_Sh : Type := (Nat × Nat) ⊕ ((Nat × List Nat) ⊕ List Nat)
def q_evc (g : Nat → Int32) (h : Nat → Int64) (k c : Nat) : Value := match c with
  | 0 => .int (g k)
  | 1 => .long (h k)
  | 2 => .null
  | 3 => .int 0
  | c + 4 => .ref (c + 4)
def q_evf (g : Nat → Int32) (h : Nat → Int64) : Nat → List Nat → List Value
  | _, [] => []
  | k, c :: r => q_evc g h k c :: q_evf g h (k + 1) r
def q_rfs : List Nat → Nat → Option Nat
  | [] => fun _ => none
  | a :: r => va_up (q_rfs r) r.length (some a)
def q_ev1 (f g : Nat → Int32) (h : Nat → Int64) (c : q_Sh) : q_C := match c with
  | .inl (t, n) => cond (Nat.beq t 2) (.inl (2, n, .inr (.inl h))) (.inl (t, n, .inl f))
  | .inr (.inl (ci, fs)) => .inr (ci, q_evf g h 0 fs)
  | .inr (.inr l) => .inl (5, l.length, .inr (.inr (.inr (.inr (q_rfs l)))))
def q_evs (S : q_S) : Nat → List q_Sh → List q_C
  | _, [] => []
  | i, c :: r => q_ev1 (S.1 i) (S.2.1 i) (S.2.2 i) c :: q_evs S (i + 1) r
theorem q_evs_len (S : q_S) : ∀ (l : List q_Sh) (i : Nat), (q_evs S i l).length = l.length := by
  intro l
  induction l with
  | nil => intro i; rfl
  | cons c r ih =>
    intro i
    show (q_evs S (i + 1) r).length + 1 = r.length + 1
    rw [ih]
theorem q_evs_at (S : q_S) : ∀ (l : List q_Sh) (i j : Nat), (q_evs S i l)[j]? = (l[j]?).map (q_ev1 (S.1 (i + j)) (S.2.1 (i + j)) (S.2.2 (i + j))) := by
  intro l
  induction l with
  | nil => intro i j; rfl
  | cons c r ih =>
    intro i j
    cases j with
    | zero => rfl
    | succ j =>
      show (q_evs S (i + 1) r)[j]? = (r[j]?).map _
      rw [ih, show i + 1 + j = i + (j + 1) by omega]
theorem q_evs_at0 (S : q_S) (l : List q_Sh) (j : Nat) : (q_evs S 0 l)[j]? = (l[j]?).map (q_ev1 (S.1 j) (S.2.1 j) (S.2.2 j)) := by
  rw [q_evs_at, Nat.zero_add]
def q_eN (n b1 b2 j : Nat) : Nat := cond (Nat.blt j n) (b1 + j) (b2 + (j - n))
def q_eb (n b1 b2 a : Nat) : Nat := cond (Nat.blt a 64) a (64 + q_eN n b1 b2 (a - 64))
def q_vw (n b1 b2 : Nat) (S : q_S) : q_S := (fun j => S.1 (q_eN n b1 b2 j), fun j => S.2.1 (q_eN n b1 b2 j), fun j => S.2.2 (q_eN n b1 b2 j))
def q_ps {T : Type} (n n2 b1 b2 k : Nat) (f : Nat → T) (d : T) : T := cond (Nat.ble b1 k && Nat.blt k (b1 + n)) (f (k - b1)) (cond (Nat.ble b2 k && Nat.blt k (b2 + n2)) (f (n + (k - b2))) d)
def q_pt (n n2 b1 b2 : Nat) (S s : q_S) : q_S := (fun k => q_ps n n2 b1 b2 k s.1 (S.1 k), fun k => q_ps n n2 b1 b2 k s.2.1 (S.2.1 k), fun k => q_ps n n2 b1 b2 k s.2.2 (S.2.2 k))
theorem q_bleT {a b : Nat} (h : a ≤ b) : Nat.ble a b = true := Nat.ble_eq_true_of_le h
theorem q_bltT {a b : Nat} (h : a < b) : Nat.blt a b = true := Nat.ble_eq_true_of_le h
theorem q_bleF {a b : Nat} (h : b < a) : Nat.ble a b = false := by
  cases e : Nat.ble a b with
  | false => rfl
  | true => exact absurd (Nat.le_of_ble_eq_true e) (Nat.not_le.mpr h)
theorem q_bltF {a b : Nat} (h : b ≤ a) : Nat.blt a b = false := q_bleF (Nat.lt_succ_of_le h)
theorem q_eN1 {n b1 b2 j : Nat} (h : j < n) : q_eN n b1 b2 j = b1 + j := by
  unfold q_eN
  rw [q_bltT h]; rfl
theorem q_eN2 {n b1 b2 j : Nat} (h : n ≤ j) : q_eN n b1 b2 j = b2 + (j - n) := by
  unfold q_eN
  rw [q_bltF h]; rfl
theorem q_eb1 {n b1 b2 a : Nat} (h : a < 64) : q_eb n b1 b2 a = a := by
  unfold q_eb
  rw [q_bltT h]; rfl
theorem q_eb2 {n b1 b2 j : Nat} : q_eb n b1 b2 (64 + j) = 64 + q_eN n b1 b2 j := by
  unfold q_eb
  rw [q_bltF (Nat.le_add_right 64 j), Nat.add_sub_cancel_left]; rfl
theorem q_eN_inj {n n2 b1 b2 : Nat} (hd : b1 + n ≤ b2 ∨ b2 + n2 ≤ b1) {i j : Nat} (hi : i < n + n2) (hj : j < n + n2) (e : q_eN n b1 b2 i = q_eN n b1 b2 j) : i = j := by
  rcases Nat.lt_or_ge i n with a | a <;> rcases Nat.lt_or_ge j n with b | b
  · rw [q_eN1 a, q_eN1 b] at e; omega
  · rw [q_eN1 a, q_eN2 b] at e; omega
  · rw [q_eN2 a, q_eN1 b] at e; omega
  · rw [q_eN2 a, q_eN2 b] at e; omega
theorem q_ps_in {T : Type} {n n2 b1 b2 : Nat} (hd : b1 + n ≤ b2 ∨ b2 + n2 ≤ b1) {j : Nat} (hj : j < n + n2) (f : Nat → T) (d : T) : q_ps n n2 b1 b2 (q_eN n b1 b2 j) f d = f j := by
  unfold q_ps
  rcases Nat.lt_or_ge j n with a | a
  · rw [q_eN1 a, q_bleT (Nat.le_add_right b1 j), q_bltT (Nat.add_lt_add_left a b1)]
    show f (b1 + j - b1) = f j
    rw [Nat.add_sub_cancel_left]
  · rw [q_eN2 a]
    have e2 : (Nat.ble b2 (b2 + (j - n)) && Nat.blt (b2 + (j - n)) (b2 + n2)) = true := by
      rw [q_bleT (Nat.le_add_right _ _), q_bltT (by omega)]; rfl
    have e1 : (Nat.ble b1 (b2 + (j - n)) && Nat.blt (b2 + (j - n)) (b1 + n)) = false := by
      rcases hd with h | h
      · rw [q_bltF (by omega), Bool.and_false]
      · rw [q_bleF (by omega)]; rfl
    rw [e1, e2]
    show f (n + (b2 + (j - n) - b2)) = f j
    congr 1
    omega
theorem q_ps_out {T : Type} {n n2 b1 b2 k : Nat} (h : ∀ j, j < n + n2 → ¬ q_eN n b1 b2 j = k) (f : Nat → T) (d : T) : q_ps n n2 b1 b2 k f d = d := by
  unfold q_ps
  have e1 : (Nat.ble b1 k && Nat.blt k (b1 + n)) = false := by
    rcases Nat.lt_or_ge k b1 with a | a
    · rw [q_bleF a]; rfl
    · rcases Nat.lt_or_ge k (b1 + n) with b | b
      · refine absurd ?_ (h (k - b1) (by omega))
        rw [q_eN1 (by omega)]; omega
      · rw [q_bltF b, Bool.and_false]
  have e2 : (Nat.ble b2 k && Nat.blt k (b2 + n2)) = false := by
    rcases Nat.lt_or_ge k b2 with a | a
    · rw [q_bleF a]; rfl
    · rcases Nat.lt_or_ge k (b2 + n2) with b | b
      · refine absurd ?_ (h (n + (k - b2)) (by omega))
        rw [q_eN2 (by omega)]; omega
      · rw [q_bltF b, Bool.and_false]
  rw [e1, e2]; rfl
theorem q_ps_vw {T : Type} (n n2 b1 b2 k : Nat) (f : Nat → T) : q_ps n n2 b1 b2 k (fun j => f (q_eN n b1 b2 j)) (f k) = f k := by
  unfold q_ps
  cases e1 : (Nat.ble b1 k && Nat.blt k (b1 + n)) with
  | true =>
    rw [Bool.and_eq_true] at e1
    have h1 := Nat.le_of_ble_eq_true e1.1
    have h2 : k < b1 + n := Nat.le_of_ble_eq_true e1.2
    show f (q_eN n b1 b2 (k - b1)) = f k
    rw [q_eN1 (by omega)]
    congr 1
    omega
  | false =>
    cases e2 : (Nat.ble b2 k && Nat.blt k (b2 + n2)) with
    | false => rfl
    | true =>
      rw [Bool.and_eq_true] at e2
      have h1 := Nat.le_of_ble_eq_true e2.1
      show f (q_eN n b1 b2 (n + (k - b2))) = f k
      rw [q_eN2 (by omega)]
      congr 1
      omega
theorem q_pt_vw {n n2 b1 b2 : Nat} {S : q_S} : q_pt n n2 b1 b2 S (q_vw n b1 b2 S) = S := by
  obtain ⟨A, I, J⟩ := S
  have h1 : (fun k => q_ps n n2 b1 b2 k (fun j => A (q_eN n b1 b2 j)) (A k)) = A := funext fun k => q_ps_vw n n2 b1 b2 k A
  have h2 : (fun k => q_ps n n2 b1 b2 k (fun j => I (q_eN n b1 b2 j)) (I k)) = I := funext fun k => q_ps_vw n n2 b1 b2 k I
  have h3 : (fun k => q_ps n n2 b1 b2 k (fun j => J (q_eN n b1 b2 j)) (J k)) = J := funext fun k => q_ps_vw n n2 b1 b2 k J
  show ((fun k => q_ps n n2 b1 b2 k (fun j => A (q_eN n b1 b2 j)) (A k)), (fun k => q_ps n n2 b1 b2 k (fun j => I (q_eN n b1 b2 j)) (I k)), (fun k => q_ps n n2 b1 b2 k (fun j => J (q_eN n b1 b2 j)) (J k))) = (A, I, J)
  rw [h1, h2, h3]
def q_shf (e : Nat → Nat) (c : q_Sh) : q_Sh := match c with
  | .inl x => .inl x
  | .inr (.inl (ci, fs)) => .inr (.inl (ci, fs.map e))
  | .inr (.inr l) => .inr (.inr (l.map e))
theorem q_evc_mv {β : Nat → Nat} (h1 : ∀ a, a < 64 → β a = a) (h2 : ∀ a, 64 ≤ a → 64 ≤ β a) (g : Nat → Int32) (h : Nat → Int64) (k c : Nat) : q_v β (q_evc g h k c) = q_evc g h k (β c) := by
  match c with
  | 0 => rw [h1 0 (by omega)]; rfl
  | 1 => rw [h1 1 (by omega)]; rfl
  | 2 => rw [h1 2 (by omega)]; rfl
  | 3 => rw [h1 3 (by omega)]; rfl
  | c + 4 =>
    have hb : 4 ≤ β (c + 4) := by
      rcases Nat.lt_or_ge (c + 4) 64 with a | a
      · rw [h1 _ a]; omega
      · have := h2 _ a; omega
    obtain ⟨m, hm⟩ : ∃ m, β (c + 4) = m + 4 := ⟨β (c + 4) - 4, by omega⟩
    show Value.ref (β (c + 4)) = _
    rw [hm]; rfl
theorem q_evf_mv {β : Nat → Nat} (h1 : ∀ a, a < 64 → β a = a) (h2 : ∀ a, 64 ≤ a → 64 ≤ β a) (g : Nat → Int32) (h : Nat → Int64) : ∀ (fs : List Nat) (k : Nat), (q_evf g h k fs).map (q_v β) = q_evf g h k (fs.map β) := by
  intro fs
  induction fs with
  | nil => intro k; rfl
  | cons c r ih =>
    intro k
    show q_v β (q_evc g h k c) :: (q_evf g h (k + 1) r).map (q_v β) = q_evc g h k (β c) :: q_evf g h (k + 1) (r.map β)
    rw [q_evc_mv h1 h2, ih]
theorem q_rfs_mv (β : Nat → Nat) : ∀ (l : List Nat), (fun j => (q_rfs l j).map β) = q_rfs (l.map β) := by
  intro l
  induction l with
  | nil => rfl
  | cons a r ih =>
    funext j
    show ((va_up (q_rfs r) r.length (some a)) j).map β = va_up (q_rfs (r.map β)) (r.map β).length (some (β a)) j
    rw [List.length_map]
    unfold va_up
    split
    · rfl
    · exact congrFun ih j
theorem q_ev1_mv {β : Nat → Nat} (h1 : ∀ a, a < 64 → β a = a) (h2 : ∀ a, 64 ≤ a → 64 ≤ β a) (f g : Nat → Int32) (h : Nat → Int64) (c : q_Sh) : q_mc β (q_ev1 f g h c) = q_ev1 f g h (q_shf β c) := by
  obtain ⟨t, n⟩ | ⟨ci, fs⟩ | l := c
  · show q_mc β (cond (Nat.beq t 2) (.inl (2, n, .inr (.inl h))) (.inl (t, n, .inl f))) = cond (Nat.beq t 2) (.inl (2, n, .inr (.inl h))) (.inl (t, n, .inl f))
    cases Nat.beq t 2 <;> rfl
  · show Sum.inr (ci, (q_evf g h 0 fs).map (q_v β)) = Sum.inr (ci, q_evf g h 0 (fs.map β))
    rw [q_evf_mv h1 h2]
  · show Sum.inl (5, l.length, Sum.inr (Sum.inr (Sum.inr (Sum.inr (fun j => (q_rfs l j).map β))))) = Sum.inl (5, (l.map β).length, Sum.inr (Sum.inr (Sum.inr (Sum.inr (q_rfs (l.map β))))))
    rw [q_rfs_mv, List.length_map]
def q_shk (L : Nat) (c : q_Sh) : Bool := match c with
  | .inl _ => true
  | .inr (.inl (_, fs)) => fs.all fun c => Nat.blt c (64 + L)
  | .inr (.inr l) => l.all fun c => Nat.blt c (64 + L)
theorem q_evf_ok {L : Nat} (g : Nat → Int32) (h : Nat → Int64) : ∀ (fs : List Nat) (k : Nat), (fs.all fun c => Nat.blt c (64 + L)) = true → ∀ v ∈ q_evf g h k fs, q_ok L v := by
  intro fs
  induction fs with
  | nil => intro k _ v hv; cases hv
  | cons c r ih =>
    intro k hk v hv
    rw [List.all_cons, Bool.and_eq_true] at hk
    rcases List.mem_cons.mp hv with e | e
    · rw [e]
      intro a ha
      have hc : c < 64 + L := Nat.le_of_ble_eq_true hk.1
      match c, ha, hc with
      | 0, ha, _ => cases ha
      | 1, ha, _ => cases ha
      | 2, ha, _ => cases ha
      | 3, ha, _ => cases ha
      | c + 4, ha, hc => cases ha; exact hc
    · exact ih (k + 1) hk.2 v e
theorem q_rfs_ok {L : Nat} : ∀ (l : List Nat), (l.all fun c => Nat.blt c (64 + L)) = true → ∀ j a, q_rfs l j = some a → a < 64 + L := by
  intro l
  induction l with
  | nil => intro _ j a h; cases h
  | cons c r ih =>
    intro hk j a h
    rw [List.all_cons, Bool.and_eq_true] at hk
    have h : va_up (q_rfs r) r.length (some c) j = some a := h
    unfold va_up at h
    split at h
    · cases h; exact Nat.le_of_ble_eq_true hk.1
    · exact ih hk.2 j a h
theorem q_ev1_ok {L : Nat} (f g : Nat → Int32) (h : Nat → Int64) (c : q_Sh) (hk : q_shk L c = true) : q_okc L (q_ev1 f g h c) := by
  obtain ⟨t, n⟩ | ⟨ci, fs⟩ | l := c
  · show q_okc L (cond (Nat.beq t 2) (.inl (2, n, .inr (.inl h))) (.inl (t, n, .inl f)))
    cases Nat.beq t 2 <;> exact trivial
  · exact q_evf_ok g h fs 0 hk
  · exact q_rfs_ok l hk
theorem q_evs_ok {L : Nat} {l : List q_Sh} (hk : l.all (q_shk L) = true) (S : q_S) : ∀ c ∈ q_evs S 0 l, q_okc L c := by
  intro c hc
  obtain ⟨j, hj⟩ := List.mem_iff_getElem?.mp hc
  rw [q_evs_at0] at hj
  cases e : l[j]? with
  | none => rw [e] at hj; cases hj
  | some c1 =>
    rw [e] at hj
    cases hj
    exact q_ev1_ok _ _ _ c1 (List.all_eq_true.mp hk c1 (List.mem_of_getElem? e))
def q_okb (L : Nat) (v : Value) : Bool := match v with
  | .ref a => Nat.blt a (64 + L)
  | _ => true
theorem q_okb_ok {L : Nat} {as : List Value} (h : as.all (q_okb L) = true) : ∀ v ∈ as, q_ok L v := fun v hv a e => by
  subst e
  exact Nat.le_of_ble_eq_true (List.all_eq_true.mp h _ hv)
def q_eck (shX shN : List q_Sh) (n n2 b1 b2 : Nat) : Bool := decide (shN.length = n + n2) && ((decide (b1 + n ≤ b2) || decide (b2 + n2 ≤ b1)) && (((List.range (n + n2)).all fun j => decide (shX[q_eN n b1 b2 j]? = (shN[j]?).map (q_shf (q_eb n b1 b2)))) && shN.all (q_shk shN.length)))
theorem q_CaF {TB : Nat → Option (Nat × Nat × (Nat → Int32))} {d k : Nat} {as : List Value} {h : q_H} {o : q_Out} (e : q_Ca TB d k as h o) (ha : ∀ v ∈ as, q_ok h.1.length v) (hh : q_okh h.1) {β : Nat → Nat} {δ σ : Nat} {H : q_H} (hE : q_Em β δ σ h H) : q_oko h o ∧ ∃ β2 H2, q_Ca TB d k (as.map (q_v β)) H (q_om β2 o.1, H2) ∧ q_Em β2 δ σ o.2 H2 ∧ q_Rs β β2 h o.2 H H2 := by
  obtain ⟨n, e⟩ := e
  obtain ⟨h1, h2⟩ := q_frame (WU := q_WU) (cl := vwCl) (tyl := q_tyl) (GF := q_gF TB fun a => a) (τ := fun a => a) (mt := q_mt) (mtab := q_mtab TB) (fun k pc x h9 => q_mtab_ok k pc x h9) q_mtab_rn n d k as h o e ha hh
  refine ⟨h1, ?_⟩
  obtain ⟨β2, H2, e1, e2, e3⟩ := h2 β δ σ H hE
  exact ⟨β2, H2, ⟨n, e1⟩, e2, e3⟩
theorem q_emb {TB : Nat → Option (Nat × Nat × (Nat → Int32))} {d k : Nat} {as : List Value} {shX shN : List q_Sh} {n n2 b1 b2 : Nat} {S s' : q_S} {c m c' m' : Nat} {v : Option Value ⊕ String} (hck : q_eck shX shN n n2 b1 b2 = true) (ha : as.all (q_okb shN.length) = true) (hv : ∀ β, q_om β v = v)
    (e : q_Ca TB d k as (q_evs (q_vw n b1 b2 S) 0 shN, c, m) (v, (q_evs s' 0 shN, c', m'))) : q_Ca TB d k (as.map (q_v (q_eb n b1 b2))) (q_evs S 0 shX, c, m) (v, (q_evs (q_pt n n2 b1 b2 S s') 0 shX, c', m')) := by
  unfold q_eck at hck
  rw [Bool.and_eq_true, Bool.and_eq_true, Bool.and_eq_true, Bool.or_eq_true] at hck
  obtain ⟨hl, hd, hall, hk⟩ := hck
  have hl : shN.length = n + n2 := of_decide_eq_true hl
  have hd : b1 + n ≤ b2 ∨ b2 + n2 ≤ b1 := by
    rcases hd with h | h
    · exact Or.inl (of_decide_eq_true h)
    · exact Or.inr (of_decide_eq_true h)
  have hsh : ∀ j, j < n + n2 → shX[q_eN n b1 b2 j]? = (shN[j]?).map (q_shf (q_eb n b1 b2)) := fun j hj => of_decide_eq_true (List.all_eq_true.mp hall j (List.mem_range.mpr hj))
  have h1 : ∀ a, a < 64 → q_eb n b1 b2 a = a := fun a h => q_eb1 h
  have h2 : ∀ a, 64 ≤ a → 64 ≤ q_eb n b1 b2 a := fun a h => by
    obtain ⟨j, rfl⟩ : ∃ j, a = 64 + j := ⟨a - 64, by omega⟩
    rw [q_eb2]; omega
  have hok : q_okh (q_evs (q_vw n b1 b2 S) 0 shN) := fun c hc => by
    rw [q_evs_len]
    exact q_evs_ok hk _ c hc
  have hE : q_Em (q_eb n b1 b2) 0 0 (q_evs (q_vw n b1 b2 S) 0 shN, c, m) (q_evs S 0 shX, c, m) := by
    refine ⟨h1, fun i _ => h2 _ (Nat.le_add_right _ _), fun i j hi hj hij => ?_, fun i c0 hc => ?_, rfl, rfl⟩
    · have hi : i < (q_evs (q_vw n b1 b2 S) 0 shN).length := hi
      have hj : j < (q_evs (q_vw n b1 b2 S) 0 shN).length := hj
      rw [q_evs_len, hl] at hi hj
      rw [q_eb2, q_eb2] at hij
      exact q_eN_inj hd hi hj (by omega)
    · have hc : (q_evs (q_vw n b1 b2 S) 0 shN)[i]? = some c0 := hc
      have hi : i < n + n2 := by
        have := (List.getElem?_eq_some_iff.mp hc).1
        rw [q_evs_len, hl] at this; exact this
      rw [q_evs_at0] at hc
      rw [q_eb2, Nat.add_sub_cancel_left]
      show (q_evs S 0 shX)[q_eN n b1 b2 i]? = _
      rw [q_evs_at0, hsh i hi]
      cases e9 : shN[i]? with
      | none => rw [e9] at hc; cases hc
      | some c1 =>
        rw [e9] at hc
        cases hc
        exact congrArg some (q_ev1_mv h1 h2 _ _ _ c1).symm
  have ha9 : ∀ v ∈ as, q_ok (q_evs (q_vw n b1 b2 S) 0 shN).length v := by
    rw [q_evs_len]
    exact q_okb_ok ha
  obtain ⟨-, β2, H2, e1, e2, e3⟩ := q_CaF e ha9 hok hE
  have e5 : q_Ca TB d k (as.map (q_v (q_eb n b1 b2))) (q_evs S 0 shX, c, m) (v, H2) := by
    have e6 : q_Ca TB d k (as.map (q_v (q_eb n b1 b2))) (q_evs S 0 shX, c, m) (q_om β2 v, H2) := e1
    rw [hv] at e6
    exact e6
  clear e1
  obtain ⟨l2, c2, m2⟩ := H2
  have hc2 : c2 = c' := e2.2.2.2.2.1
  have hm2 : m2 = m' := e2.2.2.2.2.2
  subst hc2 hm2
  have hln : l2.length + (q_evs (q_vw n b1 b2 S) 0 shN).length = (q_evs S 0 shX).length + (q_evs s' 0 shN).length := e3.2.2.1
  rw [q_evs_len, q_evs_len, q_evs_len] at hln
  have hag : ∀ i, i < n + n2 → β2 (64 + i) = 64 + q_eN n b1 b2 i := fun i hi => by
    rw [← q_eb2]
    refine e3.1 (64 + i) ?_
    show 64 + i < 64 + (q_evs (q_vw n b1 b2 S) 0 shN).length
    rw [q_evs_len, hl]; omega
  have key : l2 = q_evs (q_pt n n2 b1 b2 S s') 0 shX := by
    apply List.ext_getElem?
    intro j
    rw [q_evs_at0]
    by_cases hj : ∃ i, i < n + n2 ∧ q_eN n b1 b2 i = j
    · obtain ⟨i, hi, rfl⟩ := hj
      rw [hsh i hi]
      have hi9 : i < shN.length := by omega
      have e9 : shN[i]? = some shN[i] := List.getElem?_eq_getElem hi9
      have q1 : (q_evs s' 0 shN)[i]? = some (q_ev1 (s'.1 i) (s'.2.1 i) (s'.2.2 i) shN[i]) := by rw [q_evs_at0, e9]; rfl
      have q2 : l2[β2 (64 + i) - 64]? = some (q_mc β2 (q_ev1 (s'.1 i) (s'.2.1 i) (s'.2.2 i) shN[i])) := e2.2.2.2.1 i _ q1
      rw [hag i hi, Nat.add_sub_cancel_left] at q2
      rw [q2, e9]
      have q3 : q_okc shN.length (q_ev1 (s'.1 i) (s'.2.1 i) (s'.2.2 i) shN[i]) := q_ev1_ok _ _ _ _ (List.all_eq_true.mp hk _ (List.getElem_mem hi9))
      have q4 : q_ag (q_eb n b1 b2) β2 shN.length := by
        have := e3.1
        have : q_ag (q_eb n b1 b2) β2 (q_evs (q_vw n b1 b2 S) 0 shN).length := this
        rw [q_evs_len] at this; exact this
      rw [q_mc_ag q4 q3, q_ev1_mv h1 h2]
      show some (q_ev1 (s'.1 i) (s'.2.1 i) (s'.2.2 i) (q_shf (q_eb n b1 b2) shN[i])) = some (q_ev1 (q_ps n n2 b1 b2 (q_eN n b1 b2 i) s'.1 (S.1 (q_eN n b1 b2 i))) (q_ps n n2 b1 b2 (q_eN n b1 b2 i) s'.2.1 (S.2.1 (q_eN n b1 b2 i))) (q_ps n n2 b1 b2 (q_eN n b1 b2 i) s'.2.2 (S.2.2 (q_eN n b1 b2 i))) (q_shf (q_eb n b1 b2) shN[i]))
      rw [q_ps_in hd hi, q_ps_in hd hi, q_ps_in hd hi]
    · have hn : ∀ i, i < n + n2 → ¬ q_eN n b1 b2 i = j := fun i hi h => hj ⟨i, hi, h⟩
      show l2[j]? = (shX[j]?).map (q_ev1 (q_ps n n2 b1 b2 j s'.1 (S.1 j)) (q_ps n n2 b1 b2 j s'.2.1 (S.2.1 j)) (q_ps n n2 b1 b2 j s'.2.2 (S.2.2 j)))
      rw [q_ps_out hn, q_ps_out hn, q_ps_out hn, ← q_evs_at0]
      rcases Nat.lt_or_ge j shX.length with q | q
      · refine e3.2.2.2.2 j ?_ (fun i hi h9 => ?_)
        · show j < (q_evs S 0 shX).length
          rw [q_evs_len]; exact q
        · have hi : i < (q_evs (q_vw n b1 b2 S) 0 shN).length := hi
          rw [q_evs_len, hl] at hi
          rw [q_eb2] at h9
          exact hn i hi (by omega)
      · rw [List.getElem?_eq_none (by omega), List.getElem?_eq_none (by rw [q_evs_len]; exact q)]
  subst key
  exact e5
def q_shN : List q_Sh := [.inr (.inl (7, [65, 87, 89, 95, 1])), .inr (.inl (4, [66, 69, 70, 71, 72, 74, 77, 82, 1])), .inr (.inl (10, [67, 68])), .inl (0, 4096), .inl (0, 48), .inl (0, 512), .inl (0, 2048), .inl (0, 2), .inr (.inl (11, [73, 0, 0, 0, 0])), .inl (0, 40), .inr (.inl (6, [75, 76, 0])), .inl (0, 4), .inl (0, 16), .inr (.inl (5, [78, 81, 0, 0])), .inr (.inl (10, [79, 80])), .inl (0, 4096), .inl (0, 48), .inl (0, 3072), .inr (.inl (5, [83, 86, 0, 0])), .inr (.inl (10, [84, 85])), .inl (0, 4096), .inl (0, 48), .inl (0, 3072), .inr (.inl (8, [0, 0, 0, 0, 0, 0, 0, 0, 0, 0, 0, 0, 88])), .inl (0, 16), .inr (.inl (12, [90, 91, 92, 93, 94])), .inl (0, 3), .inl (0, 3), .inl (0, 3), .inl (0, 3), .inl (0, 40), .inl (0, 1024), .inr (.inl (10, [97, 98])), .inl (0, 4096), .inl (0, 48)]
set_option maxRecDepth 100000 in
theorem q_kN_sh (s : q_S) (c n : Nat) : q_kN s c n = (q_evs s 0 q_shN, c, n) := rfl
def q_shW : List q_Sh := [.inr (.inl (7, [65, 87, 89, 95, 1])), .inr (.inl (4, [66, 69, 70, 71, 72, 74, 77, 82, 1])), .inr (.inl (10, [67, 68])), .inl (0, 4096), .inl (0, 48), .inl (0, 512), .inl (0, 2048), .inl (0, 2), .inr (.inl (11, [73, 0, 0, 0, 0])), .inl (0, 40), .inr (.inl (6, [75, 76, 0])), .inl (0, 4), .inl (0, 16), .inr (.inl (5, [78, 81, 0, 0])), .inr (.inl (10, [79, 80])), .inl (0, 4096), .inl (0, 48), .inl (0, 3072), .inr (.inl (5, [83, 86, 0, 0])), .inr (.inl (10, [84, 85])), .inl (0, 4096), .inl (0, 48), .inl (0, 3072), .inr (.inl (8, [0, 0, 0, 0, 0, 0, 0, 0, 0, 0, 0, 0, 88])), .inl (0, 16), .inr (.inl (12, [90, 91, 92, 93, 94])), .inl (0, 3), .inl (0, 3), .inl (0, 3), .inl (0, 3), .inl (0, 40), .inl (0, 1024), .inr (.inl (7, [97, 119, 121, 127, 1])), .inr (.inl (4, [98, 101, 102, 103, 104, 106, 109, 114, 1])), .inr (.inl (10, [99, 100])), .inl (0, 4096), .inl (0, 48), .inl (0, 512), .inl (0, 2048), .inl (0, 2), .inr (.inl (11, [105, 0, 0, 0, 0])), .inl (0, 40), .inr (.inl (6, [107, 108, 0])), .inl (0, 4), .inl (0, 16), .inr (.inl (5, [110, 113, 0, 0])), .inr (.inl (10, [111, 112])), .inl (0, 4096), .inl (0, 48), .inl (0, 3072), .inr (.inl (5, [115, 118, 0, 0])), .inr (.inl (10, [116, 117])), .inl (0, 4096), .inl (0, 48), .inl (0, 3072), .inr (.inl (8, [0, 0, 0, 0, 0, 0, 0, 0, 0, 0, 0, 0, 120])), .inl (0, 16), .inr (.inl (12, [122, 123, 124, 125, 126])), .inl (0, 3), .inl (0, 3), .inl (0, 3), .inl (0, 3), .inl (0, 40), .inl (0, 1024)]
set_option maxRecDepth 100000 in
theorem q_kW_sh (s : q_S) (c n : Nat) : q_kW s c n = (q_evs s 0 q_shW, c, n) := rfl
def q_shB : List q_Sh := [.inr (.inl (1, [65, 3, 0, 0])), .inl (4, 16)]
set_option maxRecDepth 100000 in
theorem q_kB_sh (s : q_S) (c n : Nat) : q_kB s c n = (q_evs s 0 q_shB, c, n) := rfl
def q_shX : List q_Sh := [.inr (.inl (13, [65, 97, 0, 98, 135, 137])), .inr (.inl (7, [66, 88, 90, 96, 1])), .inr (.inl (4, [67, 70, 71, 72, 73, 75, 78, 83, 1])), .inr (.inl (10, [68, 69])), .inl (0, 4096), .inl (0, 48), .inl (0, 512), .inl (0, 2048), .inl (0, 2), .inr (.inl (11, [74, 0, 0, 0, 0])), .inl (0, 40), .inr (.inl (6, [76, 77, 0])), .inl (0, 4), .inl (0, 16), .inr (.inl (5, [79, 82, 0, 0])), .inr (.inl (10, [80, 81])), .inl (0, 4096), .inl (0, 48), .inl (0, 3072), .inr (.inl (5, [84, 87, 0, 0])), .inr (.inl (10, [85, 86])), .inl (0, 4096), .inl (0, 48), .inl (0, 3072), .inr (.inl (8, [0, 0, 0, 0, 0, 0, 0, 0, 0, 0, 0, 0, 89])), .inl (0, 16), .inr (.inl (12, [91, 92, 93, 94, 95])), .inl (0, 3), .inl (0, 3), .inl (0, 3), .inl (0, 3), .inl (0, 40), .inl (0, 1024), .inr (.inr [204, 172, 140]), .inr (.inl (9, [99, 131, 132, 133, 134, 0, 0, 0])), .inr (.inl (7, [100, 122, 124, 130, 1])), .inr (.inl (4, [101, 104, 105, 106, 107, 109, 112, 117, 1])), .inr (.inl (10, [102, 103])), .inl (0, 4096), .inl (0, 48), .inl (0, 512), .inl (0, 2048), .inl (0, 2), .inr (.inl (11, [108, 0, 0, 0, 0])), .inl (0, 40), .inr (.inl (6, [110, 111, 0])), .inl (0, 4), .inl (0, 16), .inr (.inl (5, [113, 116, 0, 0])), .inr (.inl (10, [114, 115])), .inl (0, 4096), .inl (0, 48), .inl (0, 3072), .inr (.inl (5, [118, 121, 0, 0])), .inr (.inl (10, [119, 120])), .inl (0, 4096), .inl (0, 48), .inl (0, 3072), .inr (.inl (8, [0, 0, 0, 0, 0, 0, 0, 0, 0, 0, 0, 0, 123])), .inl (0, 16), .inr (.inl (12, [125, 126, 127, 128, 129])), .inl (0, 3), .inl (0, 3), .inl (0, 3), .inl (0, 3), .inl (0, 40), .inl (0, 1024), .inl (0, 512), .inl (0, 512), .inl (0, 512), .inl (0, 512), .inr (.inl (1, [136, 3, 0, 0])), .inl (4, 16), .inr (.inl (10, [138, 139])), .inl (0, 4096), .inl (0, 48), .inr (.inl (7, [141, 163, 165, 171, 1])), .inr (.inl (4, [142, 145, 146, 147, 148, 150, 153, 158, 1])), .inr (.inl (10, [143, 144])), .inl (0, 4096), .inl (0, 48), .inl (0, 512), .inl (0, 2048), .inl (0, 2), .inr (.inl (11, [149, 0, 0, 0, 0])), .inl (0, 40), .inr (.inl (6, [151, 152, 0])), .inl (0, 4), .inl (0, 16), .inr (.inl (5, [154, 157, 0, 0])), .inr (.inl (10, [155, 156])), .inl (0, 4096), .inl (0, 48), .inl (0, 3072), .inr (.inl (5, [159, 162, 0, 0])), .inr (.inl (10, [160, 161])), .inl (0, 4096), .inl (0, 48), .inl (0, 3072), .inr (.inl (8, [0, 0, 0, 0, 0, 0, 0, 0, 0, 0, 0, 0, 164])), .inl (0, 16), .inr (.inl (12, [166, 167, 168, 169, 170])), .inl (0, 3), .inl (0, 3), .inl (0, 3), .inl (0, 3), .inl (0, 40), .inl (0, 1024), .inr (.inl (7, [173, 195, 197, 203, 1])), .inr (.inl (4, [174, 177, 178, 179, 180, 182, 185, 190, 1])), .inr (.inl (10, [175, 176])), .inl (0, 4096), .inl (0, 48), .inl (0, 512), .inl (0, 2048), .inl (0, 2), .inr (.inl (11, [181, 0, 0, 0, 0])), .inl (0, 40), .inr (.inl (6, [183, 184, 0])), .inl (0, 4), .inl (0, 16), .inr (.inl (5, [186, 189, 0, 0])), .inr (.inl (10, [187, 188])), .inl (0, 4096), .inl (0, 48), .inl (0, 3072), .inr (.inl (5, [191, 194, 0, 0])), .inr (.inl (10, [192, 193])), .inl (0, 4096), .inl (0, 48), .inl (0, 3072), .inr (.inl (8, [0, 0, 0, 0, 0, 0, 0, 0, 0, 0, 0, 0, 196])), .inl (0, 16), .inr (.inl (12, [198, 199, 200, 201, 202])), .inl (0, 3), .inl (0, 3), .inl (0, 3), .inl (0, 3), .inl (0, 40), .inl (0, 1024), .inr (.inl (7, [205, 227, 229, 235, 1])), .inr (.inl (4, [206, 209, 210, 211, 212, 214, 217, 222, 1])), .inr (.inl (10, [207, 208])), .inl (0, 4096), .inl (0, 48), .inl (0, 512), .inl (0, 2048), .inl (0, 2), .inr (.inl (11, [213, 0, 0, 0, 0])), .inl (0, 40), .inr (.inl (6, [215, 216, 0])), .inl (0, 4), .inl (0, 16), .inr (.inl (5, [218, 221, 0, 0])), .inr (.inl (10, [219, 220])), .inl (0, 4096), .inl (0, 48), .inl (0, 3072), .inr (.inl (5, [223, 226, 0, 0])), .inr (.inl (10, [224, 225])), .inl (0, 4096), .inl (0, 48), .inl (0, 3072), .inr (.inl (8, [0, 0, 0, 0, 0, 0, 0, 0, 0, 0, 0, 0, 228])), .inl (0, 16), .inr (.inl (12, [230, 231, 232, 233, 234])), .inl (0, 3), .inl (0, 3), .inl (0, 3), .inl (0, 3), .inl (0, 40), .inl (0, 1024), .inl (2, 1)]
set_option maxRecDepth 100000 in
theorem q_kX_sh (s : q_S) (c n : Nat) : q_kX s c n = (q_evs s 0 q_shX, c, n) := rfl
def q_shM : List q_Sh := [.inr (.inl (14, [65, 66, 67, 68, 69, 70, 71, 72, 73, 74, 75, 76, 77, 78, 79, 1, 1, 0, 80, 81, 82, 83, 84, 85, 86, 87, 88, 89, 90, 91, 92, 93, 94, 95, 0, 0, 96, 97, 0, 0])), .inl (0, 4096), .inl (0, 512), .inl (0, 2048), .inl (0, 48), .inl (0, 1024), .inl (0, 40), .inl (1, 16), .inl (0, 40), .inl (0, 16), .inl (0, 3), .inl (0, 3), .inl (0, 3), .inl (0, 3), .inl (0, 24), .inl (1, 8), .inl (0, 12288), .inl (0, 1536), .inl (0, 6144), .inl (0, 144), .inl (0, 3072), .inl (0, 120), .inl (1, 48), .inl (0, 120), .inl (0, 48), .inl (0, 9), .inl (0, 9), .inl (0, 9), .inl (0, 9), .inl (0, 72), .inl (1, 24), .inl (2, 6), .inl (3, 40), .inl (1, 8)]
set_option maxRecDepth 100000 in
theorem q_kM_sh (s : q_S) (c n : Nat) : q_kM s c n = (q_evs s 0 q_shM, c, n) := rfl
def q_shL : List q_Sh := [.inr (.inl (13, [65, 97, 0, 98, 135, 137])), .inr (.inl (7, [66, 88, 90, 96, 1])), .inr (.inl (4, [67, 70, 71, 72, 73, 75, 78, 83, 1])), .inr (.inl (10, [68, 69])), .inl (0, 4096), .inl (0, 48), .inl (0, 512), .inl (0, 2048), .inl (0, 2), .inr (.inl (11, [74, 0, 0, 0, 0])), .inl (0, 40), .inr (.inl (6, [76, 77, 0])), .inl (0, 4), .inl (0, 16), .inr (.inl (5, [79, 82, 0, 0])), .inr (.inl (10, [80, 81])), .inl (0, 4096), .inl (0, 48), .inl (0, 3072), .inr (.inl (5, [84, 87, 0, 0])), .inr (.inl (10, [85, 86])), .inl (0, 4096), .inl (0, 48), .inl (0, 3072), .inr (.inl (8, [0, 0, 0, 0, 0, 0, 0, 0, 0, 0, 0, 0, 89])), .inl (0, 16), .inr (.inl (12, [91, 92, 93, 94, 95])), .inl (0, 3), .inl (0, 3), .inl (0, 3), .inl (0, 3), .inl (0, 40), .inl (0, 1024), .inr (.inr [204, 172, 140]), .inr (.inl (9, [99, 131, 132, 133, 134, 0, 0, 0])), .inr (.inl (7, [100, 122, 124, 130, 1])), .inr (.inl (4, [101, 104, 105, 106, 107, 109, 112, 117, 1])), .inr (.inl (10, [102, 103])), .inl (0, 4096), .inl (0, 48), .inl (0, 512), .inl (0, 2048), .inl (0, 2), .inr (.inl (11, [108, 0, 0, 0, 0])), .inl (0, 40), .inr (.inl (6, [110, 111, 0])), .inl (0, 4), .inl (0, 16), .inr (.inl (5, [113, 116, 0, 0])), .inr (.inl (10, [114, 115])), .inl (0, 4096), .inl (0, 48), .inl (0, 3072), .inr (.inl (5, [118, 121, 0, 0])), .inr (.inl (10, [119, 120])), .inl (0, 4096), .inl (0, 48), .inl (0, 3072), .inr (.inl (8, [0, 0, 0, 0, 0, 0, 0, 0, 0, 0, 0, 0, 123])), .inl (0, 16), .inr (.inl (12, [125, 126, 127, 128, 129])), .inl (0, 3), .inl (0, 3), .inl (0, 3), .inl (0, 3), .inl (0, 40), .inl (0, 1024), .inl (0, 512), .inl (0, 512), .inl (0, 512), .inl (0, 512), .inr (.inl (1, [136, 3, 0, 0])), .inl (4, 16), .inr (.inl (10, [138, 139])), .inl (0, 4096), .inl (0, 48), .inr (.inl (7, [141, 163, 165, 171, 1])), .inr (.inl (4, [142, 145, 146, 147, 148, 150, 153, 158, 1])), .inr (.inl (10, [143, 144])), .inl (0, 4096), .inl (0, 48), .inl (0, 512), .inl (0, 2048), .inl (0, 2), .inr (.inl (11, [149, 0, 0, 0, 0])), .inl (0, 40), .inr (.inl (6, [151, 152, 0])), .inl (0, 4), .inl (0, 16), .inr (.inl (5, [154, 157, 0, 0])), .inr (.inl (10, [155, 156])), .inl (0, 4096), .inl (0, 48), .inl (0, 3072), .inr (.inl (5, [159, 162, 0, 0])), .inr (.inl (10, [160, 161])), .inl (0, 4096), .inl (0, 48), .inl (0, 3072), .inr (.inl (8, [0, 0, 0, 0, 0, 0, 0, 0, 0, 0, 0, 0, 164])), .inl (0, 16), .inr (.inl (12, [166, 167, 168, 169, 170])), .inl (0, 3), .inl (0, 3), .inl (0, 3), .inl (0, 3), .inl (0, 40), .inl (0, 1024), .inr (.inl (7, [173, 195, 197, 203, 1])), .inr (.inl (4, [174, 177, 178, 179, 180, 182, 185, 190, 1])), .inr (.inl (10, [175, 176])), .inl (0, 4096), .inl (0, 48), .inl (0, 512), .inl (0, 2048), .inl (0, 2), .inr (.inl (11, [181, 0, 0, 0, 0])), .inl (0, 40), .inr (.inl (6, [183, 184, 0])), .inl (0, 4), .inl (0, 16), .inr (.inl (5, [186, 189, 0, 0])), .inr (.inl (10, [187, 188])), .inl (0, 4096), .inl (0, 48), .inl (0, 3072), .inr (.inl (5, [191, 194, 0, 0])), .inr (.inl (10, [192, 193])), .inl (0, 4096), .inl (0, 48), .inl (0, 3072), .inr (.inl (8, [0, 0, 0, 0, 0, 0, 0, 0, 0, 0, 0, 0, 196])), .inl (0, 16), .inr (.inl (12, [198, 199, 200, 201, 202])), .inl (0, 3), .inl (0, 3), .inl (0, 3), .inl (0, 3), .inl (0, 40), .inl (0, 1024), .inr (.inl (7, [205, 227, 229, 235, 1])), .inr (.inl (4, [206, 209, 210, 211, 212, 214, 217, 222, 1])), .inr (.inl (10, [207, 208])), .inl (0, 4096), .inl (0, 48), .inl (0, 512), .inl (0, 2048), .inl (0, 2), .inr (.inl (11, [213, 0, 0, 0, 0])), .inl (0, 40), .inr (.inl (6, [215, 216, 0])), .inl (0, 4), .inl (0, 16), .inr (.inl (5, [218, 221, 0, 0])), .inr (.inl (10, [219, 220])), .inl (0, 4096), .inl (0, 48), .inl (0, 3072), .inr (.inl (5, [223, 226, 0, 0])), .inr (.inl (10, [224, 225])), .inl (0, 4096), .inl (0, 48), .inl (0, 3072), .inr (.inl (8, [0, 0, 0, 0, 0, 0, 0, 0, 0, 0, 0, 0, 228])), .inl (0, 16), .inr (.inl (12, [230, 231, 232, 233, 234])), .inl (0, 3), .inl (0, 3), .inl (0, 3), .inl (0, 3), .inl (0, 40), .inl (0, 1024), .inr (.inl (14, [237, 238, 239, 240, 241, 242, 243, 244, 245, 246, 247, 248, 249, 250, 251, 1, 1, 0, 252, 253, 254, 255, 256, 257, 258, 259, 260, 261, 262, 263, 264, 265, 266, 267, 0, 0, 268, 269, 0, 0])), .inl (0, 4096), .inl (0, 512), .inl (0, 2048), .inl (0, 48), .inl (0, 1024), .inl (0, 40), .inl (1, 16), .inl (0, 40), .inl (0, 16), .inl (0, 3), .inl (0, 3), .inl (0, 3), .inl (0, 3), .inl (0, 24), .inl (1, 8), .inl (0, 12288), .inl (0, 1536), .inl (0, 6144), .inl (0, 144), .inl (0, 3072), .inl (0, 120), .inl (1, 48), .inl (0, 120), .inl (0, 48), .inl (0, 9), .inl (0, 9), .inl (0, 9), .inl (0, 9), .inl (0, 72), .inl (1, 24), .inl (2, 6), .inl (3, 40), .inl (1, 8), .inl (2, 1)]
set_option maxRecDepth 100000 in
theorem q_kL_sh (s : q_S) (c n : Nat) : q_kL s c n = (q_evs s 0 q_shL, c, n) := rfl
set_option maxRecDepth 100000 in
theorem q_eck_NX_1 : q_eck q_shX q_shN 32 3 1 73 = true := by decide +kernel
theorem q_emNX_1 {TB : Nat → Option (Nat × Nat × (Nat → Int32))} {d k : Nat} {as : List Value} {S s9 : q_S} {c n c9 n9 : Nat} {v : Option Value ⊕ String} (ha : as.all (q_okb 35) = true) (hv : ∀ β, q_om β v = v) (e : q_Ca TB d k as (q_kN (q_vw 32 1 73 S) c n) (v, q_kN s9 c9 n9)) : q_Ca TB d k (as.map (q_v (q_eb 32 1 73))) (q_kX S c n) (v, q_kX (q_pt 32 3 1 73 S s9) c9 n9) := by
  rw [q_kN_sh, q_kN_sh] at e
  rw [q_kX_sh, q_kX_sh]
  exact q_emb q_eck_NX_1 ha hv e
theorem q_emNX_1p {TB : Nat → Option (Nat × Nat × (Nat → Int32))} {d k : Nat} {as : List Value} {S : q_S} {c n c9 n9 : Nat} {v : Option Value ⊕ String} (ha : as.all (q_okb 35) = true) (hv : ∀ β, q_om β v = v) (e : q_Ca TB d k as (q_kN (q_vw 32 1 73 S) c n) (v, q_kN (q_vw 32 1 73 S) c9 n9)) : q_Ca TB d k (as.map (q_v (q_eb 32 1 73))) (q_kX S c n) (v, q_kX S c9 n9) := by
  have h := q_emNX_1 ha hv e
  rw [q_pt_vw] at h
  exact h
set_option maxRecDepth 100000 in
theorem q_eck_NX_35 : q_eck q_shX q_shN 32 3 35 73 = true := by decide +kernel
theorem q_emNX_35 {TB : Nat → Option (Nat × Nat × (Nat → Int32))} {d k : Nat} {as : List Value} {S s9 : q_S} {c n c9 n9 : Nat} {v : Option Value ⊕ String} (ha : as.all (q_okb 35) = true) (hv : ∀ β, q_om β v = v) (e : q_Ca TB d k as (q_kN (q_vw 32 35 73 S) c n) (v, q_kN s9 c9 n9)) : q_Ca TB d k (as.map (q_v (q_eb 32 35 73))) (q_kX S c n) (v, q_kX (q_pt 32 3 35 73 S s9) c9 n9) := by
  rw [q_kN_sh, q_kN_sh] at e
  rw [q_kX_sh, q_kX_sh]
  exact q_emb q_eck_NX_35 ha hv e
theorem q_emNX_35p {TB : Nat → Option (Nat × Nat × (Nat → Int32))} {d k : Nat} {as : List Value} {S : q_S} {c n c9 n9 : Nat} {v : Option Value ⊕ String} (ha : as.all (q_okb 35) = true) (hv : ∀ β, q_om β v = v) (e : q_Ca TB d k as (q_kN (q_vw 32 35 73 S) c n) (v, q_kN (q_vw 32 35 73 S) c9 n9)) : q_Ca TB d k (as.map (q_v (q_eb 32 35 73))) (q_kX S c n) (v, q_kX S c9 n9) := by
  have h := q_emNX_35 ha hv e
  rw [q_pt_vw] at h
  exact h
set_option maxRecDepth 100000 in
theorem q_eck_WX_76_1 : q_eck q_shX q_shW 32 32 76 1 = true := by decide +kernel
theorem q_emWX_76_1 {TB : Nat → Option (Nat × Nat × (Nat → Int32))} {d k : Nat} {as : List Value} {S s9 : q_S} {c n c9 n9 : Nat} {v : Option Value ⊕ String} (ha : as.all (q_okb 64) = true) (hv : ∀ β, q_om β v = v) (e : q_Ca TB d k as (q_kW (q_vw 32 76 1 S) c n) (v, q_kW s9 c9 n9)) : q_Ca TB d k (as.map (q_v (q_eb 32 76 1))) (q_kX S c n) (v, q_kX (q_pt 32 32 76 1 S s9) c9 n9) := by
  rw [q_kW_sh, q_kW_sh] at e
  rw [q_kX_sh, q_kX_sh]
  exact q_emb q_eck_WX_76_1 ha hv e
theorem q_emWX_76_1p {TB : Nat → Option (Nat × Nat × (Nat → Int32))} {d k : Nat} {as : List Value} {S : q_S} {c n c9 n9 : Nat} {v : Option Value ⊕ String} (ha : as.all (q_okb 64) = true) (hv : ∀ β, q_om β v = v) (e : q_Ca TB d k as (q_kW (q_vw 32 76 1 S) c n) (v, q_kW (q_vw 32 76 1 S) c9 n9)) : q_Ca TB d k (as.map (q_v (q_eb 32 76 1))) (q_kX S c n) (v, q_kX S c9 n9) := by
  have h := q_emWX_76_1 ha hv e
  rw [q_pt_vw] at h
  exact h
set_option maxRecDepth 100000 in
theorem q_eck_WX_1_76 : q_eck q_shX q_shW 32 32 1 76 = true := by decide +kernel
theorem q_emWX_1_76 {TB : Nat → Option (Nat × Nat × (Nat → Int32))} {d k : Nat} {as : List Value} {S s9 : q_S} {c n c9 n9 : Nat} {v : Option Value ⊕ String} (ha : as.all (q_okb 64) = true) (hv : ∀ β, q_om β v = v) (e : q_Ca TB d k as (q_kW (q_vw 32 1 76 S) c n) (v, q_kW s9 c9 n9)) : q_Ca TB d k (as.map (q_v (q_eb 32 1 76))) (q_kX S c n) (v, q_kX (q_pt 32 32 1 76 S s9) c9 n9) := by
  rw [q_kW_sh, q_kW_sh] at e
  rw [q_kX_sh, q_kX_sh]
  exact q_emb q_eck_WX_1_76 ha hv e
theorem q_emWX_1_76p {TB : Nat → Option (Nat × Nat × (Nat → Int32))} {d k : Nat} {as : List Value} {S : q_S} {c n c9 n9 : Nat} {v : Option Value ⊕ String} (ha : as.all (q_okb 64) = true) (hv : ∀ β, q_om β v = v) (e : q_Ca TB d k as (q_kW (q_vw 32 1 76 S) c n) (v, q_kW (q_vw 32 1 76 S) c9 n9)) : q_Ca TB d k (as.map (q_v (q_eb 32 1 76))) (q_kX S c n) (v, q_kX S c9 n9) := by
  have h := q_emWX_1_76 ha hv e
  rw [q_pt_vw] at h
  exact h
set_option maxRecDepth 100000 in
theorem q_eck_WX_108_1 : q_eck q_shX q_shW 32 32 108 1 = true := by decide +kernel
theorem q_emWX_108_1 {TB : Nat → Option (Nat × Nat × (Nat → Int32))} {d k : Nat} {as : List Value} {S s9 : q_S} {c n c9 n9 : Nat} {v : Option Value ⊕ String} (ha : as.all (q_okb 64) = true) (hv : ∀ β, q_om β v = v) (e : q_Ca TB d k as (q_kW (q_vw 32 108 1 S) c n) (v, q_kW s9 c9 n9)) : q_Ca TB d k (as.map (q_v (q_eb 32 108 1))) (q_kX S c n) (v, q_kX (q_pt 32 32 108 1 S s9) c9 n9) := by
  rw [q_kW_sh, q_kW_sh] at e
  rw [q_kX_sh, q_kX_sh]
  exact q_emb q_eck_WX_108_1 ha hv e
theorem q_emWX_108_1p {TB : Nat → Option (Nat × Nat × (Nat → Int32))} {d k : Nat} {as : List Value} {S : q_S} {c n c9 n9 : Nat} {v : Option Value ⊕ String} (ha : as.all (q_okb 64) = true) (hv : ∀ β, q_om β v = v) (e : q_Ca TB d k as (q_kW (q_vw 32 108 1 S) c n) (v, q_kW (q_vw 32 108 1 S) c9 n9)) : q_Ca TB d k (as.map (q_v (q_eb 32 108 1))) (q_kX S c n) (v, q_kX S c9 n9) := by
  have h := q_emWX_108_1 ha hv e
  rw [q_pt_vw] at h
  exact h
set_option maxRecDepth 100000 in
theorem q_eck_WX_1_108 : q_eck q_shX q_shW 32 32 1 108 = true := by decide +kernel
theorem q_emWX_1_108 {TB : Nat → Option (Nat × Nat × (Nat → Int32))} {d k : Nat} {as : List Value} {S s9 : q_S} {c n c9 n9 : Nat} {v : Option Value ⊕ String} (ha : as.all (q_okb 64) = true) (hv : ∀ β, q_om β v = v) (e : q_Ca TB d k as (q_kW (q_vw 32 1 108 S) c n) (v, q_kW s9 c9 n9)) : q_Ca TB d k (as.map (q_v (q_eb 32 1 108))) (q_kX S c n) (v, q_kX (q_pt 32 32 1 108 S s9) c9 n9) := by
  rw [q_kW_sh, q_kW_sh] at e
  rw [q_kX_sh, q_kX_sh]
  exact q_emb q_eck_WX_1_108 ha hv e
theorem q_emWX_1_108p {TB : Nat → Option (Nat × Nat × (Nat → Int32))} {d k : Nat} {as : List Value} {S : q_S} {c n c9 n9 : Nat} {v : Option Value ⊕ String} (ha : as.all (q_okb 64) = true) (hv : ∀ β, q_om β v = v) (e : q_Ca TB d k as (q_kW (q_vw 32 1 108 S) c n) (v, q_kW (q_vw 32 1 108 S) c9 n9)) : q_Ca TB d k (as.map (q_v (q_eb 32 1 108))) (q_kX S c n) (v, q_kX S c9 n9) := by
  have h := q_emWX_1_108 ha hv e
  rw [q_pt_vw] at h
  exact h
set_option maxRecDepth 100000 in
theorem q_eck_WX_140_1 : q_eck q_shX q_shW 32 32 140 1 = true := by decide +kernel
theorem q_emWX_140_1 {TB : Nat → Option (Nat × Nat × (Nat → Int32))} {d k : Nat} {as : List Value} {S s9 : q_S} {c n c9 n9 : Nat} {v : Option Value ⊕ String} (ha : as.all (q_okb 64) = true) (hv : ∀ β, q_om β v = v) (e : q_Ca TB d k as (q_kW (q_vw 32 140 1 S) c n) (v, q_kW s9 c9 n9)) : q_Ca TB d k (as.map (q_v (q_eb 32 140 1))) (q_kX S c n) (v, q_kX (q_pt 32 32 140 1 S s9) c9 n9) := by
  rw [q_kW_sh, q_kW_sh] at e
  rw [q_kX_sh, q_kX_sh]
  exact q_emb q_eck_WX_140_1 ha hv e
theorem q_emWX_140_1p {TB : Nat → Option (Nat × Nat × (Nat → Int32))} {d k : Nat} {as : List Value} {S : q_S} {c n c9 n9 : Nat} {v : Option Value ⊕ String} (ha : as.all (q_okb 64) = true) (hv : ∀ β, q_om β v = v) (e : q_Ca TB d k as (q_kW (q_vw 32 140 1 S) c n) (v, q_kW (q_vw 32 140 1 S) c9 n9)) : q_Ca TB d k (as.map (q_v (q_eb 32 140 1))) (q_kX S c n) (v, q_kX S c9 n9) := by
  have h := q_emWX_140_1 ha hv e
  rw [q_pt_vw] at h
  exact h
set_option maxRecDepth 100000 in
theorem q_eck_WX_1_140 : q_eck q_shX q_shW 32 32 1 140 = true := by decide +kernel
theorem q_emWX_1_140 {TB : Nat → Option (Nat × Nat × (Nat → Int32))} {d k : Nat} {as : List Value} {S s9 : q_S} {c n c9 n9 : Nat} {v : Option Value ⊕ String} (ha : as.all (q_okb 64) = true) (hv : ∀ β, q_om β v = v) (e : q_Ca TB d k as (q_kW (q_vw 32 1 140 S) c n) (v, q_kW s9 c9 n9)) : q_Ca TB d k (as.map (q_v (q_eb 32 1 140))) (q_kX S c n) (v, q_kX (q_pt 32 32 1 140 S s9) c9 n9) := by
  rw [q_kW_sh, q_kW_sh] at e
  rw [q_kX_sh, q_kX_sh]
  exact q_emb q_eck_WX_1_140 ha hv e
theorem q_emWX_1_140p {TB : Nat → Option (Nat × Nat × (Nat → Int32))} {d k : Nat} {as : List Value} {S : q_S} {c n c9 n9 : Nat} {v : Option Value ⊕ String} (ha : as.all (q_okb 64) = true) (hv : ∀ β, q_om β v = v) (e : q_Ca TB d k as (q_kW (q_vw 32 1 140 S) c n) (v, q_kW (q_vw 32 1 140 S) c9 n9)) : q_Ca TB d k (as.map (q_v (q_eb 32 1 140))) (q_kX S c n) (v, q_kX S c9 n9) := by
  have h := q_emWX_1_140 ha hv e
  rw [q_pt_vw] at h
  exact h
set_option maxRecDepth 100000 in
theorem q_eck_WX_35_1 : q_eck q_shX q_shW 32 32 35 1 = true := by decide +kernel
theorem q_emWX_35_1 {TB : Nat → Option (Nat × Nat × (Nat → Int32))} {d k : Nat} {as : List Value} {S s9 : q_S} {c n c9 n9 : Nat} {v : Option Value ⊕ String} (ha : as.all (q_okb 64) = true) (hv : ∀ β, q_om β v = v) (e : q_Ca TB d k as (q_kW (q_vw 32 35 1 S) c n) (v, q_kW s9 c9 n9)) : q_Ca TB d k (as.map (q_v (q_eb 32 35 1))) (q_kX S c n) (v, q_kX (q_pt 32 32 35 1 S s9) c9 n9) := by
  rw [q_kW_sh, q_kW_sh] at e
  rw [q_kX_sh, q_kX_sh]
  exact q_emb q_eck_WX_35_1 ha hv e
theorem q_emWX_35_1p {TB : Nat → Option (Nat × Nat × (Nat → Int32))} {d k : Nat} {as : List Value} {S : q_S} {c n c9 n9 : Nat} {v : Option Value ⊕ String} (ha : as.all (q_okb 64) = true) (hv : ∀ β, q_om β v = v) (e : q_Ca TB d k as (q_kW (q_vw 32 35 1 S) c n) (v, q_kW (q_vw 32 35 1 S) c9 n9)) : q_Ca TB d k (as.map (q_v (q_eb 32 35 1))) (q_kX S c n) (v, q_kX S c9 n9) := by
  have h := q_emWX_35_1 ha hv e
  rw [q_pt_vw] at h
  exact h
set_option maxRecDepth 100000 in
theorem q_eck_BX : q_eck q_shX q_shB 2 0 71 0 = true := by decide +kernel
theorem q_emBX {TB : Nat → Option (Nat × Nat × (Nat → Int32))} {d k : Nat} {as : List Value} {S s9 : q_S} {c n c9 n9 : Nat} {v : Option Value ⊕ String} (ha : as.all (q_okb 2) = true) (hv : ∀ β, q_om β v = v) (e : q_Ca TB d k as (q_kB (q_vw 2 71 0 S) c n) (v, q_kB s9 c9 n9)) : q_Ca TB d k (as.map (q_v (q_eb 2 71 0))) (q_kX S c n) (v, q_kX (q_pt 2 0 71 0 S s9) c9 n9) := by
  rw [q_kB_sh, q_kB_sh] at e
  rw [q_kX_sh, q_kX_sh]
  exact q_emb q_eck_BX ha hv e
theorem q_emBXp {TB : Nat → Option (Nat × Nat × (Nat → Int32))} {d k : Nat} {as : List Value} {S : q_S} {c n c9 n9 : Nat} {v : Option Value ⊕ String} (ha : as.all (q_okb 2) = true) (hv : ∀ β, q_om β v = v) (e : q_Ca TB d k as (q_kB (q_vw 2 71 0 S) c n) (v, q_kB (q_vw 2 71 0 S) c9 n9)) : q_Ca TB d k (as.map (q_v (q_eb 2 71 0))) (q_kX S c n) (v, q_kX S c9 n9) := by
  have h := q_emBX ha hv e
  rw [q_pt_vw] at h
  exact h
set_option maxRecDepth 100000 in
theorem q_eck_XL : q_eck q_shL q_shX 172 1 0 206 = true := by decide +kernel
theorem q_emXL {TB : Nat → Option (Nat × Nat × (Nat → Int32))} {d k : Nat} {as : List Value} {S s9 : q_S} {c n c9 n9 : Nat} {v : Option Value ⊕ String} (ha : as.all (q_okb 173) = true) (hv : ∀ β, q_om β v = v) (e : q_Ca TB d k as (q_kX (q_vw 172 0 206 S) c n) (v, q_kX s9 c9 n9)) : q_Ca TB d k (as.map (q_v (q_eb 172 0 206))) (q_kL S c n) (v, q_kL (q_pt 172 1 0 206 S s9) c9 n9) := by
  rw [q_kX_sh, q_kX_sh] at e
  rw [q_kL_sh, q_kL_sh]
  exact q_emb q_eck_XL ha hv e
theorem q_emXLp {TB : Nat → Option (Nat × Nat × (Nat → Int32))} {d k : Nat} {as : List Value} {S : q_S} {c n c9 n9 : Nat} {v : Option Value ⊕ String} (ha : as.all (q_okb 173) = true) (hv : ∀ β, q_om β v = v) (e : q_Ca TB d k as (q_kX (q_vw 172 0 206 S) c n) (v, q_kX (q_vw 172 0 206 S) c9 n9)) : q_Ca TB d k (as.map (q_v (q_eb 172 0 206))) (q_kL S c n) (v, q_kL S c9 n9) := by
  have h := q_emXL ha hv e
  rw [q_pt_vw] at h
  exact h
set_option maxRecDepth 100000 in
theorem q_eck_ML : q_eck q_shL q_shM 34 0 172 0 = true := by decide +kernel
theorem q_emML {TB : Nat → Option (Nat × Nat × (Nat → Int32))} {d k : Nat} {as : List Value} {S s9 : q_S} {c n c9 n9 : Nat} {v : Option Value ⊕ String} (ha : as.all (q_okb 34) = true) (hv : ∀ β, q_om β v = v) (e : q_Ca TB d k as (q_kM (q_vw 34 172 0 S) c n) (v, q_kM s9 c9 n9)) : q_Ca TB d k (as.map (q_v (q_eb 34 172 0))) (q_kL S c n) (v, q_kL (q_pt 34 0 172 0 S s9) c9 n9) := by
  rw [q_kM_sh, q_kM_sh] at e
  rw [q_kL_sh, q_kL_sh]
  exact q_emb q_eck_ML ha hv e
theorem q_emMLp {TB : Nat → Option (Nat × Nat × (Nat → Int32))} {d k : Nat} {as : List Value} {S : q_S} {c n c9 n9 : Nat} {v : Option Value ⊕ String} (ha : as.all (q_okb 34) = true) (hv : ∀ β, q_om β v = v) (e : q_Ca TB d k as (q_kM (q_vw 34 172 0 S) c n) (v, q_kM (q_vw 34 172 0 S) c9 n9)) : q_Ca TB d k (as.map (q_v (q_eb 34 172 0))) (q_kL S c n) (v, q_kL S c9 n9) := by
  have h := q_emML ha hv e
  rw [q_pt_vw] at h
  exact h
