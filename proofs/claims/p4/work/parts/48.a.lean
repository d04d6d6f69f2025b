/-! ===== an embedding for calls that return the object ===== -/
theorem q_embR {TB : Nat → Option (Nat × Nat × (Nat → Int32))} {d k : Nat} {as : List Value} {shX shN : List q_Sh} {n n2 b1 b2 : Nat} {S s' : q_S} {c m c' m' : Nat} {a9 : Nat} (hck : q_eck shX shN n n2 b1 b2 = true) (ha : as.all (q_okb shN.length) = true) (hz9 : a9 < 64 + shN.length)
    (e : q_Ca TB d k as (q_evs (q_vw n b1 b2 S) 0 shN, c, m) (.inl (some (.ref a9)), (q_evs s' 0 shN, c', m'))) : q_Ca TB d k (as.map (q_v (q_eb n b1 b2))) (q_evs S 0 shX, c, m) (.inl (some (.ref (q_eb n b1 b2 a9))), (q_evs (q_pt n n2 b1 b2 S s') 0 shX, c', m')) := by
  unfold q_eck at hck
  rw [Bool.and_eq_true, Bool.and_eq_true, Bool.and_eq_true, Bool.or_eq_true] at hck
  obtain ⟨hl, hd, hall, hk⟩ := hck
  have hl : shN.length = n + n2 := of_decide_eq_true hl
  have hd : b1 + n ≤ b2 ∨ b2 + n2 ≤ b1 := by
    rcases hd with h | h
    · exact Or.inl (of_decide_eq_true h)
    · exact Or.inr (of_decide_eq_true h)
  have hsh : ∀ j, j < n + n2 → shX[q_eN n b1 b2 j]? = (shN[j]?).map (q_shf (q_eb n b1 b2)) := fun j hj => of_decide_eq_true (List.all_eq_true.mp hall j (List.mem_range.mpr hj))
  have h1 : ∀ a, a < 64 → q_eb n b1 b2 a = a := fun a h => q_eb1 h
  have h2 : ∀ a, 64 ≤ a → 64 ≤ q_eb n b1 b2 a := fun a h => by
    obtain ⟨j, rfl⟩ : ∃ j, a = 64 + j := ⟨a - 64, by omega⟩
    rw [q_eb2]; omega
  have hok : q_okh (q_evs (q_vw n b1 b2 S) 0 shN) := fun c hc => by
    rw [q_evs_len]
    exact q_evs_ok hk _ c hc
  have hE : q_Em (q_eb n b1 b2) 0 0 (q_evs (q_vw n b1 b2 S) 0 shN, c, m) (q_evs S 0 shX, c, m) := by
    refine ⟨h1, fun i _ => h2 _ (Nat.le_add_right _ _), fun i j hi hj hij => ?_, fun i c0 hc => ?_, rfl, rfl⟩
    · have hi : i < (q_evs (q_vw n b1 b2 S) 0 shN).length := hi
      have hj : j < (q_evs (q_vw n b1 b2 S) 0 shN).length := hj
      rw [q_evs_len, hl] at hi hj
      rw [q_eb2, q_eb2] at hij
      exact q_eN_inj hd hi hj (by omega)
    · have hc : (q_evs (q_vw n b1 b2 S) 0 shN)[i]? = some c0 := hc
      have hi : i < n + n2 := by
        have := (List.getElem?_eq_some_iff.mp hc).1
        rw [q_evs_len, hl] at this; exact this
      rw [q_evs_at0] at hc
      rw [q_eb2, Nat.add_sub_cancel_left]
      show (q_evs S 0 shX)[q_eN n b1 b2 i]? = _
      rw [q_evs_at0, hsh i hi]
      cases e9 : shN[i]? with
      | none => rw [e9] at hc; cases hc
      | some c1 =>
        rw [e9] at hc
        cases hc
        exact congrArg some (q_ev1_mv h1 h2 _ _ _ c1).symm
  have ha9 : ∀ v ∈ as, q_ok (q_evs (q_vw n b1 b2 S) 0 shN).length v := by
    rw [q_evs_len]
    exact q_okb_ok ha
  obtain ⟨-, β2, H2, e1, e2, e3⟩ := q_CaF e ha9 hok hE
  have e5 : q_Ca TB d k (as.map (q_v (q_eb n b1 b2))) (q_evs S 0 shX, c, m) (.inl (some (.ref (q_eb n b1 b2 a9))), H2) := by
    have e6 : q_Ca TB d k (as.map (q_v (q_eb n b1 b2))) (q_evs S 0 shX, c, m) (.inl (some (.ref (β2 a9))), H2) := e1
    have e7 : β2 a9 = q_eb n b1 b2 a9 := e3.1 a9 (by show a9 < 64 + (q_evs (q_vw n b1 b2 S) 0 shN).length; rw [q_evs_len]; exact hz9)
    rw [e7] at e6
    exact e6
  clear e1
  obtain ⟨l2, c2, m2⟩ := H2
  have hc2 : c2 = c' := e2.2.2.2.2.1
  have hm2 : m2 = m' := e2.2.2.2.2.2
  subst hc2 hm2
  have hln : l2.length + (q_evs (q_vw n b1 b2 S) 0 shN).length = (q_evs S 0 shX).length + (q_evs s' 0 shN).length := e3.2.2.1
  rw [q_evs_len, q_evs_len, q_evs_len] at hln
  have hag : ∀ i, i < n + n2 → β2 (64 + i) = 64 + q_eN n b1 b2 i := fun i hi => by
    rw [← q_eb2]
    refine e3.1 (64 + i) ?_
    show 64 + i < 64 + (q_evs (q_vw n b1 b2 S) 0 shN).length
    rw [q_evs_len, hl]; omega
  have key : l2 = q_evs (q_pt n n2 b1 b2 S s') 0 shX := by
    apply List.ext_getElem?
    intro j
    rw [q_evs_at0]
    by_cases hj : ∃ i, i < n + n2 ∧ q_eN n b1 b2 i = j
    · obtain ⟨i, hi, rfl⟩ := hj
      rw [hsh i hi]
      have hi9 : i < shN.length := by omega
      have e9 : shN[i]? = some shN[i] := List.getElem?_eq_getElem hi9
      have q1 : (q_evs s' 0 shN)[i]? = some (q_ev1 (s'.1 i) (s'.2.1 i) (s'.2.2 i) shN[i]) := by rw [q_evs_at0, e9]; rfl
      have q2 : l2[β2 (64 + i) - 64]? = some (q_mc β2 (q_ev1 (s'.1 i) (s'.2.1 i) (s'.2.2 i) shN[i])) := e2.2.2.2.1 i _ q1
      rw [hag i hi, Nat.add_sub_cancel_left] at q2
      rw [q2, e9]
      have q3 : q_okc shN.length (q_ev1 (s'.1 i) (s'.2.1 i) (s'.2.2 i) shN[i]) := q_ev1_ok _ _ _ _ (List.all_eq_true.mp hk _ (List.getElem_mem hi9))
      have q4 : q_ag (q_eb n b1 b2) β2 shN.length := by
        have := e3.1
        have : q_ag (q_eb n b1 b2) β2 (q_evs (q_vw n b1 b2 S) 0 shN).length := this
        rw [q_evs_len] at this; exact this
      rw [q_mc_ag q4 q3, q_ev1_mv h1 h2]
      show some (q_ev1 (s'.1 i) (s'.2.1 i) (s'.2.2 i) (q_shf (q_eb n b1 b2) shN[i])) = some (q_ev1 (q_ps n n2 b1 b2 (q_eN n b1 b2 i) s'.1 (S.1 (q_eN n b1 b2 i))) (q_ps n n2 b1 b2 (q_eN n b1 b2 i) s'.2.1 (S.2.1 (q_eN n b1 b2 i))) (q_ps n n2 b1 b2 (q_eN n b1 b2 i) s'.2.2 (S.2.2 (q_eN n b1 b2 i))) (q_shf (q_eb n b1 b2) shN[i]))
      rw [q_ps_in hd hi, q_ps_in hd hi, q_ps_in hd hi]
    · have hn : ∀ i, i < n + n2 → ¬ q_eN n b1 b2 i = j := fun i hi h => hj ⟨i, hi, h⟩
      show l2[j]? = (shX[j]?).map (q_ev1 (q_ps n n2 b1 b2 j s'.1 (S.1 j)) (q_ps n n2 b1 b2 j s'.2.1 (S.2.1 j)) (q_ps n n2 b1 b2 j s'.2.2 (S.2.2 j)))
      rw [q_ps_out hn, q_ps_out hn, q_ps_out hn, ← q_evs_at0]
      rcases Nat.lt_or_ge j shX.length with q | q
      · refine e3.2.2.2.2 j ?_ (fun i hi h9 => ?_)
        · show j < (q_evs S 0 shX).length
          rw [q_evs_len]; exact q
        · have hi : i < (q_evs (q_vw n b1 b2 S) 0 shN).length := hi
          rw [q_evs_len, hl] at hi
          rw [q_eb2] at h9
          exact hn i hi (by omega)
      · rw [List.getElem?_eq_none (by omega), List.getElem?_eq_none (by rw [q_evs_len]; exact q)]
  subst key
  exact e5
def q_oRB (c n : Nat) (s : q_S) : q_Out := (.inl (some (.ref 64)), q_kB s c n)
theorem q_emBXr {TB : Nat → Option (Nat × Nat × (Nat → Int32))} {d k : Nat} {as : List Value} {S s9 : q_S} {c n c9 n9 : Nat} (ha : as.all (q_okb 2) = true) (e : q_Ca TB d k as (q_kB (q_vw 2 71 0 S) c n) (.inl (some (.ref 64)), q_kB s9 c9 n9)) : q_Ca TB d k (as.map (q_v (q_eb 2 71 0))) (q_kX S c n) (.inl (some (.ref 135)), q_kX (q_pt 2 0 71 0 S s9) c9 n9) := by
  rw [q_kB_sh, q_kB_sh] at e
  rw [q_kX_sh, q_kX_sh]
  exact q_embR (a9 := 64) q_eck_BX ha (Nat.le_of_ble_eq_true rfl) e
