section
-- 31.4J70
/-! J7_rangeCheck_23922 -/
set_option maxRecDepth 16384 in
noncomputable def q_t316 (TB : Nat → Option (Nat × Nat × (Nat → Int32))) : Nat → Option q_E := q_nd 47 (q_nd 9 (q_nd 1 (q_nd 0 (q_lf 0 (.inl (q_st 1 (q_fil 1)))) (q_lf 1 (.inl (q_st 2 (q_fil 2))))) (q_nd 2 (q_lf 2 (.inr (.inl (q_br 46 5 (q_b2 fun x y => decide (x ≤ y)))))) (q_nd 8 (q_lf 8 (.inl (q_st 9 q_fdup))) (q_lf 9 (.inl (q_new 12 1 4 [.null, .int 0, .int 0, .int 0])))))) (q_nd 21 (q_nd 12 (q_lf 12 (.inl (q_st 13 q_fdup))) (q_lf 21 (.inl (q_st 22 (q_fil 1))))) (q_nd 30 (q_lf 30 (.inl (q_st 31 (q_fil 2)))) (q_nd 46 (q_lf 46 (.inl (q_st 47 (q_fil 1)))) (q_lf 47 (.inr (.inl (q_br 59 50 (q_b1 fun x => decide (0 ≤ x)))))))))) (q_nd 60 (q_nd 53 (q_nd 50 (q_lf 50 (.inl (q_new 53 2 6 [.null, .null, .null, .null, .null, .int 0]))) (q_lf 53 (.inl (q_st 54 q_fdup)))) (q_nd 54 (q_lf 54 (.inl (q_st 55 (q_fil 1)))) (q_nd 59 (q_lf 59 (.inl (q_st 60 (q_fil 2)))) (q_lf 60 (.inl (q_st 61 (q_fil 0))))))) (q_nd 64 (q_nd 61 (q_lf 61 (.inr (.inl (q_br 73 64 (q_b2 fun x y => decide (x ≤ y)))))) (q_lf 64 (.inl (q_new 67 2 6 [.null, .null, .null, .null, .null, .int 0])))) (q_nd 67 (q_lf 67 (.inl (q_st 68 q_fdup))) (q_nd 68 (q_lf 68 (.inl (q_st 69 (q_fil 2)))) (q_lf 73 (.inr (.inr (.inl q_rv))))))))
set_option maxRecDepth 16384 in
theorem q_sm316 {TB : Nat → Option (Nat × Nat × (Nat → Int32))} {τ : Nat → Nat} : ∀ pc x, q_t316 TB pc = some x → q_S9 TB τ q_m316 pc x := q_nd_ok (q_nd_ok (q_nd_ok (q_nd_ok (q_lf_ok (q_iload_n (qd_o27 0 0 qd_g736 rfl) rfl rfl)) (q_lf_ok (q_iload_n (qd_o28 0 1 qd_g736 rfl) rfl rfl))) (q_nd_ok (q_lf_ok (q_icmp_le (qd_o164 0 2 qd_g736 rfl rfl) (by decide) rfl)) (q_nd_ok (q_lf_ok (q_dup (qd_o89 0 8 qd_g736 rfl) rfl)) (q_lf_ok (q_newo (T := TJ4) (qd_o187 0 9 qd_g736 rfl rfl) rfl q_inJ4 tyJ4_ok q_w1193 q_w130 q_w131 (by decide +kernel) (q_noref rfl) rfl))))) (q_nd_ok (q_nd_ok (q_lf_ok (q_dup (qd_o89 0 12 qd_g736 rfl) rfl)) (q_lf_ok (q_iload_n (qd_o27 0 21 qd_g736 rfl) rfl rfl))) (q_nd_ok (q_lf_ok (q_iload_n (qd_o28 0 30 qd_g736 rfl) rfl rfl)) (q_nd_ok (q_lf_ok (q_iload_n (qd_o27 39 7 qd_g737 rfl) rfl rfl)) (q_lf_ok (q_if_ge (qd_o156 39 8 qd_g737 rfl rfl) (by decide) rfl)))))) (q_nd_ok (q_nd_ok (q_nd_ok (q_lf_ok (q_newo (T := TJx00060) (qd_o187 39 11 qd_g737 rfl rfl) rfl q_inJx00060 tyJx00060_ok q_w1194 q_w1195 q_w1196 (by decide +kernel) (q_noref rfl) rfl)) (q_lf_ok (q_dup (qd_o89 39 14 qd_g737 rfl) rfl))) (q_nd_ok (q_lf_ok (q_iload_n (qd_o27 39 15 qd_g737 rfl) rfl rfl)) (q_nd_ok (q_lf_ok (q_iload_n (qd_o28 39 20 qd_g737 rfl) rfl rfl)) (q_lf_ok (q_iload_n (qd_o26 39 21 qd_g737 rfl) rfl rfl))))) (q_nd_ok (q_nd_ok (q_lf_ok (q_icmp_le (qd_o164 39 22 qd_g737 rfl rfl) (by decide) rfl)) (q_lf_ok (q_newo (T := TJx00060) (qd_o187 39 25 qd_g737 rfl rfl) rfl q_inJx00060 tyJx00060_ok q_w1194 q_w1195 q_w1196 (by decide +kernel) (q_noref rfl) rfl))) (q_nd_ok (q_lf_ok (q_dup (qd_o89 39 28 qd_g737 rfl) rfl)) (q_nd_ok (q_lf_ok (q_iload_n (qd_o28 39 29 qd_g737 rfl) rfl rfl)) (q_lf_ok (q_return (qd_o177 39 34 qd_g737 rfl) rfl))))))
/-! J7_fill_53178 -/
set_option maxRecDepth 16384 in
noncomputable def q_t317 (TB : Nat → Option (Nat × Nat × (Nat → Int32))) : Nat → Option q_E := q_nd 6 (q_nd 2 (q_nd 0 (q_lf 0 (.inl (q_st 1 (q_fk (.int 0))))) (q_nd 1 (q_lf 1 (.inl (q_lo 2 (q_fis 2)))) (q_lf 2 (.inl (q_st 3 (q_fal 0)))))) (q_nd 4 (q_nd 3 (q_lf 3 (.inl (q_aln TB 4 0))) (q_lf 4 (.inl (q_lo 5 (q_fis 3))))) (q_nd 5 (q_lf 5 (.inl (q_st 6 (q_fil 2)))) (q_lf 6 (.inl (q_st 7 (q_fil 3))))))) (q_nd 12 (q_nd 10 (q_nd 7 (q_lf 7 (.inr (.inl (q_br 20 10 (q_b2 fun x y => decide (y ≤ x)))))) (q_lf 10 (.inl (q_st 11 (q_fal 0))))) (q_nd 11 (q_lf 11 (.inl (q_st 12 (q_fil 2)))) (q_lf 12 (.inl (q_st 13 (q_fil 1)))))) (q_nd 14 (q_nd 13 (q_lf 13 (.inr (.inl (q_ast 14 0 fun x => x)))) (q_lf 14 (.inl (q_lo 17 (q_finc 2 1))))) (q_nd 17 (q_lf 17 (.inl (q_st 5 fun _ st => some st))) (q_lf 20 (.inr (.inr (.inl q_rv)))))))
set_option maxRecDepth 16384 in
theorem q_sm317 {TB : Nat → Option (Nat × Nat × (Nat → Int32))} {τ : Nat → Nat} : ∀ pc x, q_t317 TB pc = some x → q_S9 TB τ q_m317 pc x := q_nd_ok (q_nd_ok (q_nd_ok (q_lf_ok (q_iconst (qd_o3 0 0 qd_g738 rfl) qk_i0 rfl)) (q_nd_ok (q_lf_ok (q_istore_n (qd_o61 0 1 qd_g738 rfl) rfl (Nat.le_of_ble_eq_true rfl) rfl)) (q_lf_ok (q_aload_n (qd_o42 0 2 qd_g738 rfl) rfl rfl)))) (q_nd_ok (q_nd_ok (q_lf_ok (q_arraylength q_hTB rfl (qd_o190 0 3 qd_g738 rfl) rfl)) (q_lf_ok (q_istore_n (qd_o62 0 4 qd_g738 rfl) rfl (Nat.le_of_ble_eq_true rfl) rfl))) (q_nd_ok (q_lf_ok (q_iload_n (qd_o28 0 5 qd_g738 rfl) rfl rfl)) (q_lf_ok (q_iload_n (qd_o29 0 6 qd_g738 rfl) rfl rfl))))) (q_nd_ok (q_nd_ok (q_nd_ok (q_lf_ok (q_icmp_ge (qd_o162 0 7 qd_g738 rfl rfl) (by decide) rfl)) (q_lf_ok (q_aload_n (qd_o42 0 10 qd_g738 rfl) rfl rfl))) (q_nd_ok (q_lf_ok (q_iload_n (qd_o28 0 11 qd_g738 rfl) rfl rfl)) (q_lf_ok (q_iload_n (qd_o27 0 12 qd_g738 rfl) rfl rfl)))) (q_nd_ok (q_nd_ok (q_lf_ok (q_iastore (qd_o79 0 13 qd_g738 rfl) rfl rfl)) (q_lf_ok (q_iinc (qd_o132 0 14 qd_g738 rfl rfl) qk_i1 (Nat.le_of_ble_eq_true rfl) rfl))) (q_nd_ok (q_lf_ok (q_goto (qd_o167 0 17 qd_g738 rfl rfl) (by decide))) (q_lf_ok (q_return (qd_o177 0 20 qd_g738 rfl) rfl)))))
/-! J7_fill_eb02e -/
set_option maxRecDepth 16384 in
noncomputable def q_t318 (TB : Nat → Option (Nat × Nat × (Nat → Int32))) : Nat → Option q_E := q_nd 10 (q_nd 3 (q_nd 1 (q_nd 0 (q_lf 0 (.inl (q_st 1 (q_fal 0)))) (q_lf 1 (.inl (q_aln TB 2 4)))) (q_nd 2 (q_lf 2 (.inl (q_st 3 (q_fil 1)))) (q_lf 3 (.inl (q_st 4 (q_fil 2)))))) (q_nd 7 (q_nd 4 (q_lf 4 (.inr (.inr (.inr (.inr (7, q_fc 316 3, none)))))) (q_lf 7 (.inl (q_st 8 (q_fil 1))))) (q_nd 8 (q_lf 8 (.inl (q_lo 10 (q_fis 4)))) (q_lf 10 (.inl (q_st 12 (q_fil 4))))))) (q_nd 17 (q_nd 13 (q_nd 12 (q_lf 12 (.inl (q_st 13 (q_fil 2)))) (q_lf 13 (.inr (.inl (q_br 27 16 (q_b2 fun x y => decide (y ≤ x))))))) (q_nd 16 (q_lf 16 (.inl (q_st 17 (q_fal 0)))) (q_lf 17 (.inl (q_st 19 (q_fil 4)))))) (q_nd 20 (q_nd 19 (q_lf 19 (.inl (q_st 20 (q_fil 3)))) (q_lf 20 (.inr (.inl (q_ast 21 4 (vp_nar .byte)))))) (q_nd 21 (q_lf 21 (.inl (q_lo 24 (q_finc 4 1)))) (q_nd 24 (q_lf 24 (.inl (q_st 10 fun _ st => some st))) (q_lf 27 (.inr (.inr (.inl q_rv))))))))
set_option maxRecDepth 16384 in
theorem q_sm318 {TB : Nat → Option (Nat × Nat × (Nat → Int32))} {τ : Nat → Nat} : ∀ pc x, q_t318 TB pc = some x → q_S9 TB τ q_m318 pc x := q_nd_ok (q_nd_ok (q_nd_ok (q_nd_ok (q_lf_ok (q_aload_n (qd_o42 0 0 qd_g739 rfl) rfl rfl)) (q_lf_ok (q_arraylength q_hTB rfl (qd_o190 0 1 qd_g739 rfl) rfl))) (q_nd_ok (q_lf_ok (q_iload_n (qd_o27 0 2 qd_g739 rfl) rfl rfl)) (q_lf_ok (q_iload_n (qd_o28 0 3 qd_g739 rfl) rfl rfl)))) (q_nd_ok (q_nd_ok (q_lf_ok (⟨q_callS' q_e316 (qd_o184 0 4 qd_g739 rfl rfl) rfl rfl (Nat.le_of_ble_eq_true rfl) q_w1197 q_w1199 q_w501 q_w1198 (by decide +kernel), rfl⟩)) (q_lf_ok (q_iload_n (qd_o27 0 7 qd_g739 rfl) rfl rfl))) (q_nd_ok (q_lf_ok (q_istore (qd_o54 0 8 qd_g739 rfl rfl) (Nat.le_of_ble_eq_true rfl) rfl)) (q_lf_ok (q_iload (qd_o21 0 10 qd_g739 rfl rfl) rfl))))) (q_nd_ok (q_nd_ok (q_nd_ok (q_lf_ok (q_iload_n (qd_o28 0 12 qd_g739 rfl) rfl rfl)) (q_lf_ok (q_icmp_ge (qd_o162 0 13 qd_g739 rfl rfl) (by decide) rfl))) (q_nd_ok (q_lf_ok (q_aload_n (qd_o42 0 16 qd_g739 rfl) rfl rfl)) (q_lf_ok (q_iload (qd_o21 0 17 qd_g739 rfl rfl) rfl)))) (q_nd_ok (q_nd_ok (q_lf_ok (q_iload_n (qd_o29 0 19 qd_g739 rfl) rfl rfl)) (q_lf_ok (q_bastore (qd_o84 0 20 qd_g739 rfl) rfl rfl))) (q_nd_ok (q_lf_ok (q_iinc (qd_o132 0 21 qd_g739 rfl rfl) qk_i1 (Nat.le_of_ble_eq_true rfl) rfl)) (q_nd_ok (q_lf_ok (q_goto (qd_o167 0 24 qd_g739 rfl rfl) (by decide))) (q_lf_ok (q_return (qd_o177 0 27 qd_g739 rfl) rfl))))))
/-! J7_copyOf_9075b -/
set_option maxRecDepth 16384 in
noncomputable def q_t319 (TB : Nat → Option (Nat × Nat × (Nat → Int32))) : Nat → Option q_E := q_nd 18 (q_nd 6 (q_nd 1 (q_nd 0 (q_lf 0 (.inl (q_st 1 (q_fil 1)))) (q_lf 1 (.inl (q_st 2 (q_fal 0))))) (q_nd 2 (q_lf 2 (.inl (q_aln TB 3 4))) (q_nd 3 (q_lf 3 (.inr (.inl (q_br 14 6 (q_b2 fun x y => decide (¬ x = y)))))) (q_lf 6 (.inl (q_st 7 (q_fal 0))))))) (q_nd 14 (q_nd 13 (q_lf 13 (.inr (.inr (.inl q_ra)))) (q_lf 14 (.inl (q_st 15 (q_fil 1))))) (q_nd 15 (q_lf 15 (.inr (.inl (q_nwa 17 4 (.inl fun _ => 0))))) (q_nd 17 (q_lf 17 (.inl (q_lo 18 (q_fas 2)))) (q_lf 18 (.inl (q_st 19 (q_fal 0)))))))) (q_nd 23 (q_nd 20 (q_nd 19 (q_lf 19 (.inl (q_st 20 (q_fk (.int 0))))) (q_lf 20 (.inl (q_st 21 (q_fal 2))))) (q_nd 21 (q_lf 21 (.inl (q_st 22 (q_fk (.int 0))))) (q_nd 22 (q_lf 22 (.inl (q_st 23 (q_fal 0)))) (q_lf 23 (.inl (q_aln TB 24 4)))))) (q_nd 25 (q_nd 24 (q_lf 24 (.inl (q_st 25 (q_fil 1)))) (q_lf 25 (.inl (q_st 28 (q_fm fun x y => if y < x then y else x))))) (q_nd 28 (q_lf 28 (.inr (.inl (q_acp 31 4 (fun x => decide (x.toInt8.toInt32 = x)))))) (q_nd 31 (q_lf 31 (.inl (q_st 32 (q_fal 2)))) (q_lf 32 (.inr (.inr (.inl q_ra))))))))
set_option maxRecDepth 16384 in
theorem q_sm319 {TB : Nat → Option (Nat × Nat × (Nat → Int32))} {τ : Nat → Nat} : ∀ pc x, q_t319 TB pc = some x → q_S9 TB τ q_m319 pc x := q_nd_ok (q_nd_ok (q_nd_ok (q_nd_ok (q_lf_ok (q_iload_n (qd_o27 0 0 qd_g740 rfl) rfl rfl)) (q_lf_ok (q_aload_n (qd_o42 0 1 qd_g740 rfl) rfl rfl))) (q_nd_ok (q_lf_ok (q_arraylength q_hTB rfl (qd_o190 0 2 qd_g740 rfl) rfl)) (q_nd_ok (q_lf_ok (q_icmp_ne (qd_o160 0 3 qd_g740 rfl rfl) (by decide) rfl)) (q_lf_ok (q_aload_n (qd_o42 0 6 qd_g740 rfl) rfl rfl))))) (q_nd_ok (q_nd_ok (q_lf_ok (q_areturn (qd_o176 0 13 qd_g740 rfl) rfl (Or.inr ⟨_, rfl⟩))) (q_lf_ok (q_iload_n (qd_o27 0 14 qd_g740 rfl) rfl rfl))) (q_nd_ok (q_lf_ok (q_newarray (ty := .byte) dJ7_copyOf_9075b_15 q_w1201 rfl rfl (fun C h => by cases h) (by decide) (fun _ _ _ => rfl) (fun _ => trivial) rfl)) (q_nd_ok (q_lf_ok (q_astore_n (qd_o77 17 0 qd_g741 rfl) rfl (Nat.le_of_ble_eq_true rfl) rfl)) (q_lf_ok (q_aload_n (qd_o42 17 1 qd_g741 rfl) rfl rfl)))))) (q_nd_ok (q_nd_ok (q_nd_ok (q_lf_ok (q_iconst (qd_o3 17 2 qd_g741 rfl) qk_i0 rfl)) (q_lf_ok (q_aload_n (qd_o44 17 3 qd_g741 rfl) rfl rfl))) (q_nd_ok (q_lf_ok (q_iconst (qd_o3 17 4 qd_g741 rfl) qk_i0 rfl)) (q_nd_ok (q_lf_ok (q_aload_n (qd_o42 17 5 qd_g741 rfl) rfl rfl)) (q_lf_ok (q_arraylength q_hTB rfl (qd_o190 17 6 qd_g741 rfl) rfl))))) (q_nd_ok (q_nd_ok (q_lf_ok (q_iload_n (qd_o27 17 7 qd_g741 rfl) rfl rfl)) (q_lf_ok (q_mmin (qd_o184 17 8 qd_g741 rfl rfl) q_w1202 q_w969 q_w970 q_w971 rfl))) (q_nd_ok (q_lf_ok (q_arraycopy (qd_o184 17 11 qd_g741 rfl rfl) rfl rfl (fun x h => by rw [← of_decide_eq_true h]; exact pk_fb x) q_w1203 q_w289 q_w290 q_w291 rfl)) (q_nd_ok (q_lf_ok (q_aload_n (qd_o44 17 14 qd_g741 rfl) rfl rfl)) (q_lf_ok (q_areturn (qd_o176 17 15 qd_g741 rfl) rfl (Or.inr ⟨_, rfl⟩)))))))
end
section
-- 31.5J60
/-! J6_getChars_ba4f3 -/
set_option maxRecDepth 16384 in
noncomputable def q_t320 (TB : Nat → Option (Nat × Nat × (Nat → Int32))) : Nat → Option q_E := q_nd 55 (q_nd 28 (q_nd 12 (q_nd 4 (q_nd 1 (q_nd 0 (q_lf 0 (.inl (q_st 1 (q_fil 1)))) (q_lf 1 (.inl (q_lo 3 (q_fis 5))))) (q_nd 3 (q_lf 3 (.inl (q_st 4 (q_fil 0)))) (q_lf 4 (.inr (.inl (q_br 11 7 (q_b1 fun x => decide (0 ≤ x)))))))) (q_nd 8 (q_nd 7 (q_lf 7 (.inl (q_st 8 (q_fk (.int 1))))) (q_lf 8 (.inl (q_st 12 fun _ st => some st)))) (q_nd 11 (q_lf 11 (.inl (q_st 12 (q_fk (.int 0))))) (q_lf 12 (.inl (q_lo 14 (q_fis 6))))))) (q_nd 20 (q_nd 16 (q_nd 14 (q_lf 14 (.inl (q_st 16 (q_fil 6)))) (q_lf 16 (.inr (.inl (q_br 22 19 (q_b1 fun x => decide (¬ x = 0))))))) (q_nd 19 (q_lf 19 (.inl (q_st 20 (q_fil 0)))) (q_lf 20 (.inl (q_st 21 (q_f1 q_o_ineg)))))) (q_nd 22 (q_nd 21 (q_lf 21 (.inl (q_lo 22 (q_fis 0)))) (q_lf 22 (.inl (q_st 23 (q_fil 0))))) (q_nd 23 (q_lf 23 (.inl (q_st 25 (q_fk (.int (-100)))))) (q_nd 25 (q_lf 25 (.inr (.inl (q_br 72 28 (q_b2 fun x y => decide (y < x)))))) (q_lf 28 (.inl (q_st 29 (q_fil 0))))))))) (q_nd 39 (q_nd 33 (q_nd 31 (q_nd 29 (q_lf 29 (.inl (q_st 31 (q_fk (.int 100))))) (q_lf 31 (.inl (q_st 32 (q_fiz fun x y => x / y))))) (q_nd 32 (q_lf 32 (.inl (q_lo 33 (q_fis 3)))) (q_lf 33 (.inl (q_st 34 (q_fil 3)))))) (q_nd 36 (q_nd 34 (q_lf 34 (.inl (q_st 36 (q_fk (.int 100))))) (q_lf 36 (.inl (q_st 37 (q_fii fun x y => x * y))))) (q_nd 37 (q_lf 37 (.inl (q_st 38 (q_fil 0)))) (q_nd 38 (q_lf 38 (.inl (q_st 39 (q_fii fun x y => x - y)))) (q_lf 39 (.inl (q_lo 41 (q_fis 4)))))))) (q_nd 44 (q_nd 42 (q_nd 41 (q_lf 41 (.inl (q_st 42 (q_fil 3)))) (q_lf 42 (.inl (q_lo 43 (q_fis 0))))) (q_nd 43 (q_lf 43 (.inl (q_st 44 (q_fal 2)))) (q_lf 44 (.inl (q_lo 47 (q_finc 5 (-1))))))) (q_nd 49 (q_nd 47 (q_lf 47 (.inl (q_st 49 (q_fil 5)))) (q_lf 49 (.inl (q_st 52 (q_fk (.ref 6)))))) (q_nd 52 (q_lf 52 (.inl (q_st 54 (q_fil 4)))) (q_nd 54 (q_lf 54 (.inr (.inl (q_ald TB 55 4)))) (q_lf 55 (.inr (.inl (q_ast 56 4 (vp_nar .byte))))))))))) (q_nd 86 (q_nd 72 (q_nd 62 (q_nd 57 (q_nd 56 (q_lf 56 (.inl (q_st 57 (q_fal 2)))) (q_lf 57 (.inl (q_lo 60 (q_finc 5 (-1)))))) (q_nd 60 (q_lf 60 (.inl (q_st 62 (q_fil 5)))) (q_lf 62 (.inl (q_st 65 (q_fk (.ref 7))))))) (q_nd 67 (q_nd 65 (q_lf 65 (.inl (q_st 67 (q_fil 4)))) (q_lf 67 (.inr (.inl (q_ald TB 68 4))))) (q_nd 68 (q_lf 68 (.inr (.inl (q_ast 69 4 (vp_nar .byte))))) (q_nd 69 (q_lf 69 (.inl (q_st 22 fun _ st => some st))) (q_lf 72 (.inl (q_st 73 (q_fal 2)))))))) (q_nd 81 (q_nd 76 (q_nd 73 (q_lf 73 (.inl (q_lo 76 (q_finc 5 (-1))))) (q_lf 76 (.inl (q_st 78 (q_fil 5))))) (q_nd 78 (q_lf 78 (.inl (q_st 81 (q_fk (.ref 6))))) (q_lf 81 (.inl (q_st 82 (q_fil 0)))))) (q_nd 83 (q_nd 82 (q_lf 82 (.inl (q_st 83 (q_f1 q_o_ineg)))) (q_lf 83 (.inr (.inl (q_ald TB 84 4))))) (q_nd 84 (q_lf 84 (.inr (.inl (q_ast 85 4 (vp_nar .byte))))) (q_nd 85 (q_lf 85 (.inl (q_st 86 (q_fil 0)))) (q_lf 86 (.inl (q_st 88 (q_fk (.int (-9))))))))))) (q_nd 103 (q_nd 95 (q_nd 91 (q_nd 88 (q_lf 88 (.inr (.inl (q_br 104 91 (q_b2 fun x y => decide (y ≤ x)))))) (q_lf 91 (.inl (q_st 92 (q_fal 2))))) (q_nd 92 (q_lf 92 (.inl (q_lo 95 (q_finc 5 (-1))))) (q_lf 95 (.inl (q_st 97 (q_fil 5)))))) (q_nd 100 (q_nd 97 (q_lf 97 (.inl (q_st 100 (q_fk (.ref 7))))) (q_lf 100 (.inl (q_st 101 (q_fil 0))))) (q_nd 101 (q_lf 101 (.inl (q_st 102 (q_f1 q_o_ineg)))) (q_nd 102 (q_lf 102 (.inr (.inl (q_ald TB 103 4)))) (q_lf 103 (.inr (.inl (q_ast 104 4 (vp_nar .byte))))))))) (q_nd 110 (q_nd 106 (q_nd 104 (q_lf 104 (.inl (q_st 106 (q_fil 6)))) (q_lf 106 (.inr (.inl (q_br 118 109 (q_b1 fun x => decide (x = 0))))))) (q_nd 109 (q_lf 109 (.inl (q_st 110 (q_fal 2)))) (q_lf 110 (.inl (q_lo 113 (q_finc 5 (-1))))))) (q_nd 115 (q_nd 113 (q_lf 113 (.inl (q_st 115 (q_fil 5)))) (q_lf 115 (.inl (q_st 117 (q_fk (.int 45)))))) (q_nd 117 (q_lf 117 (.inr (.inl (q_ast 118 4 (vp_nar .byte))))) (q_nd 118 (q_lf 118 (.inl (q_st 120 (q_fil 5)))) (q_lf 120 (.inr (.inr (.inl q_ri))))))))))
set_option maxRecDepth 16384 in
theorem q_sm320 {TB : Nat → Option (Nat × Nat × (Nat → Int32))} {τ : Nat → Nat} : ∀ pc x, q_t320 TB pc = some x → q_S9 TB τ q_m320 pc x := q_nd_ok (q_nd_ok (q_nd_ok (q_nd_ok (q_nd_ok (q_nd_ok (q_lf_ok (q_iload_n (qd_o27 0 0 qd_g670 rfl) rfl rfl)) (q_lf_ok (q_istore (qd_o54 0 1 qd_g670 rfl rfl) (Nat.le_of_ble_eq_true rfl) rfl))) (q_nd_ok (q_lf_ok (q_iload_n (qd_o26 0 3 qd_g670 rfl) rfl rfl)) (q_lf_ok (q_if_ge (qd_o156 0 4 qd_g670 rfl rfl) (by decide) rfl)))) (q_nd_ok (q_nd_ok (q_lf_ok (q_iconst (qd_o4 0 7 qd_g670 rfl) qk_i1 rfl)) (q_lf_ok (q_goto (qd_o167 0 8 qd_g670 rfl rfl) (by decide)))) (q_nd_ok (q_lf_ok (q_iconst (qd_o3 0 11 qd_g670 rfl) qk_i0 rfl)) (q_lf_ok (q_istore (qd_o54 0 12 qd_g670 rfl rfl) (Nat.le_of_ble_eq_true rfl) rfl))))) (q_nd_ok (q_nd_ok (q_nd_ok (q_lf_ok (q_iload (qd_o21 0 14 qd_g670 rfl rfl) rfl)) (q_lf_ok (q_if_ne (qd_o154 0 16 qd_g670 rfl rfl) (by decide) rfl))) (q_nd_ok (q_lf_ok (q_iload_n (qd_o26 0 19 qd_g670 rfl) rfl rfl)) (q_lf_ok (q_ineg (qd_o116 0 20 qd_g670 rfl) rfl)))) (q_nd_ok (q_nd_ok (q_lf_ok (q_istore_n (qd_o59 0 21 qd_g670 rfl) rfl (Nat.le_of_ble_eq_true rfl) rfl)) (q_lf_ok (q_iload_n (qd_o26 0 22 qd_g670 rfl) rfl rfl))) (q_nd_ok (q_lf_ok (q_bipush (qd_o16 0 23 qd_g670 rfl rfl) qk_bm100 rfl)) (q_nd_ok (q_lf_ok (q_icmp_gt (qd_o163 0 25 qd_g670 rfl rfl) (by decide) rfl)) (q_lf_ok (q_iload_n (qd_o26 0 28 qd_g670 rfl) rfl rfl))))))) (q_nd_ok (q_nd_ok (q_nd_ok (q_nd_ok (q_lf_ok (q_bipush (qd_o16 0 29 qd_g670 rfl rfl) qk_b100 rfl)) (q_lf_ok (q_idiv (qd_o108 0 31 qd_g670 rfl) rfl))) (q_nd_ok (q_lf_ok (q_istore_n (qd_o62 0 32 qd_g670 rfl) rfl (Nat.le_of_ble_eq_true rfl) rfl)) (q_lf_ok (q_iload_n (qd_o29 0 33 qd_g670 rfl) rfl rfl)))) (q_nd_ok (q_nd_ok (q_lf_ok (q_bipush (qd_o16 0 34 qd_g670 rfl rfl) qk_b100 rfl)) (q_lf_ok (q_imul (qd_o104 0 36 qd_g670 rfl) rfl))) (q_nd_ok (q_lf_ok (q_iload_n (qd_o26 0 37 qd_g670 rfl) rfl rfl)) (q_nd_ok (q_lf_ok (q_isub (qd_o100 0 38 qd_g670 rfl) rfl)) (q_lf_ok (q_istore (qd_o54 39 0 qd_g671 rfl rfl) (Nat.le_of_ble_eq_true rfl) rfl)))))) (q_nd_ok (q_nd_ok (q_nd_ok (q_lf_ok (q_iload_n (qd_o29 39 2 qd_g671 rfl) rfl rfl)) (q_lf_ok (q_istore_n (qd_o59 39 3 qd_g671 rfl) rfl (Nat.le_of_ble_eq_true rfl) rfl))) (q_nd_ok (q_lf_ok (q_aload_n (qd_o44 39 4 qd_g671 rfl) rfl rfl)) (q_lf_ok (q_iinc (qd_o132 39 5 qd_g671 rfl rfl) qk_im1 (Nat.le_of_ble_eq_true rfl) rfl)))) (q_nd_ok (q_nd_ok (q_lf_ok (q_iload (qd_o21 39 8 qd_g671 rfl rfl) rfl)) (q_lf_ok (q_getstatic (v := .ref 6) (fun a h => by cases h; exact Nat.le_of_ble_eq_true rfl) (fun _ _ _ h => h.2.2.2.2.2.2.1 _ (List.mem_append_left _ (List.mem_of_getElem? (i := 5) rfl))) (qd_o178 39 10 qd_g671 rfl rfl) q_w1204 rfl))) (q_nd_ok (q_lf_ok (q_iload (qd_o21 39 13 qd_g671 rfl rfl) rfl)) (q_nd_ok (q_lf_ok (q_baload q_hTB (qd_o51 39 15 qd_g671 rfl) rfl rfl)) (q_lf_ok (q_bastore (qd_o84 39 16 qd_g671 rfl) rfl rfl)))))))) (q_nd_ok (q_nd_ok (q_nd_ok (q_nd_ok (q_nd_ok (q_lf_ok (q_aload_n (qd_o44 39 17 qd_g671 rfl) rfl rfl)) (q_lf_ok (q_iinc (qd_o132 39 18 qd_g671 rfl rfl) qk_im1 (Nat.le_of_ble_eq_true rfl) rfl))) (q_nd_ok (q_lf_ok (q_iload (qd_o21 39 21 qd_g671 rfl rfl) rfl)) (q_lf_ok (q_getstatic (v := .ref 7) (fun a h => by cases h; exact Nat.le_of_ble_eq_true rfl) (fun _ _ _ h => h.2.2.2.2.2.2.1 _ (List.mem_append_left _ (List.mem_of_getElem? (i := 6) rfl))) (qd_o178 39 23 qd_g671 rfl rfl) q_w1205 rfl)))) (q_nd_ok (q_nd_ok (q_lf_ok (q_iload (qd_o21 39 26 qd_g671 rfl rfl) rfl)) (q_lf_ok (q_baload q_hTB (qd_o51 39 28 qd_g671 rfl) rfl rfl))) (q_nd_ok (q_lf_ok (q_bastore (qd_o84 39 29 qd_g671 rfl) rfl rfl)) (q_nd_ok (q_lf_ok (q_goto (qd_o167 39 30 qd_g671 rfl rfl) (by decide))) (q_lf_ok (q_aload_n (qd_o44 39 33 qd_g671 rfl) rfl rfl)))))) (q_nd_ok (q_nd_ok (q_nd_ok (q_lf_ok (q_iinc (qd_o132 39 34 qd_g671 rfl rfl) qk_im1 (Nat.le_of_ble_eq_true rfl) rfl)) (q_lf_ok (q_iload (qd_o21 39 37 qd_g671 rfl rfl) rfl))) (q_nd_ok (q_lf_ok (q_getstatic (v := .ref 6) (fun a h => by cases h; exact Nat.le_of_ble_eq_true rfl) (fun _ _ _ h => h.2.2.2.2.2.2.1 _ (List.mem_append_left _ (List.mem_of_getElem? (i := 5) rfl))) (qd_o178 78 0 qd_g672 rfl rfl) q_w1204 rfl)) (q_lf_ok (q_iload_n (qd_o26 78 3 qd_g672 rfl) rfl rfl)))) (q_nd_ok (q_nd_ok (q_lf_ok (q_ineg (qd_o116 78 4 qd_g672 rfl) rfl)) (q_lf_ok (q_baload q_hTB (qd_o51 78 5 qd_g672 rfl) rfl rfl))) (q_nd_ok (q_lf_ok (q_bastore (qd_o84 78 6 qd_g672 rfl) rfl rfl)) (q_nd_ok (q_lf_ok (q_iload_n (qd_o26 78 7 qd_g672 rfl) rfl rfl)) (q_lf_ok (q_bipush (qd_o16 78 8 qd_g672 rfl rfl) qk_bm9 rfl))))))) (q_nd_ok (q_nd_ok (q_nd_ok (q_nd_ok (q_lf_ok (q_icmp_ge (qd_o162 78 10 qd_g672 rfl rfl) (by decide) rfl)) (q_lf_ok (q_aload_n (qd_o44 78 13 qd_g672 rfl) rfl rfl))) (q_nd_ok (q_lf_ok (q_iinc (qd_o132 78 14 qd_g672 rfl rfl) qk_im1 (Nat.le_of_ble_eq_true rfl) rfl)) (q_lf_ok (q_iload (qd_o21 78 17 qd_g672 rfl rfl) rfl)))) (q_nd_ok (q_nd_ok (q_lf_ok (q_getstatic (v := .ref 7) (fun a h => by cases h; exact Nat.le_of_ble_eq_true rfl) (fun _ _ _ h => h.2.2.2.2.2.2.1 _ (List.mem_append_left _ (List.mem_of_getElem? (i := 6) rfl))) (qd_o178 78 19 qd_g672 rfl rfl) q_w1205 rfl)) (q_lf_ok (q_iload_n (qd_o26 78 22 qd_g672 rfl) rfl rfl))) (q_nd_ok (q_lf_ok (q_ineg (qd_o116 78 23 qd_g672 rfl) rfl)) (q_nd_ok (q_lf_ok (q_baload q_hTB (qd_o51 78 24 qd_g672 rfl) rfl rfl)) (q_lf_ok (q_bastore (qd_o84 78 25 qd_g672 rfl) rfl rfl)))))) (q_nd_ok (q_nd_ok (q_nd_ok (q_lf_ok (q_iload (qd_o21 78 26 qd_g672 rfl rfl) rfl)) (q_lf_ok (q_if_eq (qd_o153 78 28 qd_g672 rfl rfl) (by decide) rfl))) (q_nd_ok (q_lf_ok (q_aload_n (qd_o44 78 31 qd_g672 rfl) rfl rfl)) (q_lf_ok (q_iinc (qd_o132 78 32 qd_g672 rfl rfl) qk_im1 (Nat.le_of_ble_eq_true rfl) rfl)))) (q_nd_ok (q_nd_ok (q_lf_ok (q_iload (qd_o21 78 35 qd_g672 rfl rfl) rfl)) (q_lf_ok (q_bipush (qd_o16 78 37 qd_g672 rfl rfl) qk_b45 rfl))) (q_nd_ok (q_lf_ok (q_bastore (qd_o84 78 39 qd_g672 rfl) rfl rfl)) (q_nd_ok (q_lf_ok (q_iload (qd_o21 118 0 qd_g673 rfl rfl) rfl)) (q_lf_ok (q_ireturn (qd_o172 118 2 qd_g673 rfl) rfl))))))))
/-! J6_stringSize_0f7a4 -/
set_option maxRecDepth 16384 in
noncomputable def q_t321 (TB : Nat → Option (Nat × Nat × (Nat → Int32))) : Nat → Option q_E := q_nd 19 (q_nd 9 (q_nd 3 (q_nd 1 (q_nd 0 (q_lf 0 (.inl (q_st 1 (q_fk (.int 1))))) (q_lf 1 (.inl (q_lo 2 (q_fis 1))))) (q_nd 2 (q_lf 2 (.inl (q_st 3 (q_fil 0)))) (q_lf 3 (.inr (.inl (q_br 11 6 (q_b1 fun x => decide (x < 0)))))))) (q_nd 7 (q_nd 6 (q_lf 6 (.inl (q_st 7 (q_fk (.int 0))))) (q_lf 7 (.inl (q_lo 8 (q_fis 1))))) (q_nd 8 (q_lf 8 (.inl (q_st 9 (q_fil 0)))) (q_lf 9 (.inl (q_st 10 (q_f1 q_o_ineg))))))) (q_nd 14 (q_nd 11 (q_nd 10 (q_lf 10 (.inl (q_lo 11 (q_fis 0)))) (q_lf 11 (.inl (q_st 13 (q_fk (.int (-10))))))) (q_nd 13 (q_lf 13 (.inl (q_lo 14 (q_fis 2)))) (q_lf 14 (.inl (q_st 15 (q_fk (.int 1))))))) (q_nd 16 (q_nd 15 (q_lf 15 (.inl (q_lo 16 (q_fis 3)))) (q_lf 16 (.inl (q_st 17 (q_fil 3))))) (q_nd 17 (q_lf 17 (.inl (q_st 19 (q_fk (.int 10))))) (q_lf 19 (.inr (.inl (q_br 42 22 (q_b2 fun x y => decide (y ≤ x)))))))))) (q_nd 31 (q_nd 27 (q_nd 23 (q_nd 22 (q_lf 22 (.inl (q_st 23 (q_fil 0)))) (q_lf 23 (.inl (q_st 24 (q_fil 2))))) (q_nd 24 (q_lf 24 (.inr (.inl (q_br 31 27 (q_b2 fun x y => decide (x ≤ y)))))) (q_lf 27 (.inl (q_st 28 (q_fil 3)))))) (q_nd 29 (q_nd 28 (q_lf 28 (.inl (q_st 29 (q_fil 1)))) (q_lf 29 (.inl (q_st 30 (q_fii fun x y => x + y))))) (q_nd 30 (q_lf 30 (.inr (.inr (.inl q_ri)))) (q_lf 31 (.inl (q_st 33 (q_fk (.int 10)))))))) (q_nd 36 (q_nd 34 (q_nd 33 (q_lf 33 (.inl (q_st 34 (q_fil 2)))) (q_lf 34 (.inl (q_st 35 (q_fii fun x y => x * y))))) (q_nd 35 (q_lf 35 (.inl (q_lo 36 (q_fis 2)))) (q_lf 36 (.inl (q_lo 39 (q_finc 3 1)))))) (q_nd 42 (q_nd 39 (q_lf 39 (.inl (q_st 16 fun _ st => some st))) (q_lf 42 (.inl (q_st 44 (q_fk (.int 10)))))) (q_nd 44 (q_lf 44 (.inl (q_st 45 (q_fil 1)))) (q_nd 45 (q_lf 45 (.inl (q_st 46 (q_fii fun x y => x + y)))) (q_lf 46 (.inr (.inr (.inl q_ri)))))))))
set_option maxRecDepth 16384 in
theorem q_sm321 {TB : Nat → Option (Nat × Nat × (Nat → Int32))} {τ : Nat → Nat} : ∀ pc x, q_t321 TB pc = some x → q_S9 TB τ q_m321 pc x := q_nd_ok (q_nd_ok (q_nd_ok (q_nd_ok (q_nd_ok (q_lf_ok (q_iconst (qd_o4 0 0 qd_g674 rfl) qk_i1 rfl)) (q_lf_ok (q_istore_n (qd_o60 0 1 qd_g674 rfl) rfl (Nat.le_of_ble_eq_true rfl) rfl))) (q_nd_ok (q_lf_ok (q_iload_n (qd_o26 0 2 qd_g674 rfl) rfl rfl)) (q_lf_ok (q_if_lt (qd_o155 0 3 qd_g674 rfl rfl) (by decide) rfl)))) (q_nd_ok (q_nd_ok (q_lf_ok (q_iconst (qd_o3 0 6 qd_g674 rfl) qk_i0 rfl)) (q_lf_ok (q_istore_n (qd_o60 0 7 qd_g674 rfl) rfl (Nat.le_of_ble_eq_true rfl) rfl))) (q_nd_ok (q_lf_ok (q_iload_n (qd_o26 0 8 qd_g674 rfl) rfl rfl)) (q_lf_ok (q_ineg (qd_o116 0 9 qd_g674 rfl) rfl))))) (q_nd_ok (q_nd_ok (q_nd_ok (q_lf_ok (q_istore_n (qd_o59 0 10 qd_g674 rfl) rfl (Nat.le_of_ble_eq_true rfl) rfl)) (q_lf_ok (q_bipush (qd_o16 0 11 qd_g674 rfl rfl) qk_bm10 rfl))) (q_nd_ok (q_lf_ok (q_istore_n (qd_o61 0 13 qd_g674 rfl) rfl (Nat.le_of_ble_eq_true rfl) rfl)) (q_lf_ok (q_iconst (qd_o4 0 14 qd_g674 rfl) qk_i1 rfl)))) (q_nd_ok (q_nd_ok (q_lf_ok (q_istore_n (qd_o62 0 15 qd_g674 rfl) rfl (Nat.le_of_ble_eq_true rfl) rfl)) (q_lf_ok (q_iload_n (qd_o29 0 16 qd_g674 rfl) rfl rfl))) (q_nd_ok (q_lf_ok (q_bipush (qd_o16 0 17 qd_g674 rfl rfl) qk_b10 rfl)) (q_lf_ok (q_icmp_ge (qd_o162 0 19 qd_g674 rfl rfl) (by decide) rfl)))))) (q_nd_ok (q_nd_ok (q_nd_ok (q_nd_ok (q_lf_ok (q_iload_n (qd_o26 0 22 qd_g674 rfl) rfl rfl)) (q_lf_ok (q_iload_n (qd_o28 0 23 qd_g674 rfl) rfl rfl))) (q_nd_ok (q_lf_ok (q_icmp_le (qd_o164 0 24 qd_g674 rfl rfl) (by decide) rfl)) (q_lf_ok (q_iload_n (qd_o29 0 27 qd_g674 rfl) rfl rfl)))) (q_nd_ok (q_nd_ok (q_lf_ok (q_iload_n (qd_o27 0 28 qd_g674 rfl) rfl rfl)) (q_lf_ok (q_iadd (qd_o96 0 29 qd_g674 rfl) rfl))) (q_nd_ok (q_lf_ok (q_ireturn (qd_o172 0 30 qd_g674 rfl) rfl)) (q_lf_ok (q_bipush (qd_o16 0 31 qd_g674 rfl rfl) qk_b10 rfl))))) (q_nd_ok (q_nd_ok (q_nd_ok (q_lf_ok (q_iload_n (qd_o28 0 33 qd_g674 rfl) rfl rfl)) (q_lf_ok (q_imul (qd_o104 0 34 qd_g674 rfl) rfl))) (q_nd_ok (q_lf_ok (q_istore_n (qd_o61 0 35 qd_g674 rfl) rfl (Nat.le_of_ble_eq_true rfl) rfl)) (q_lf_ok (q_iinc (qd_o132 0 36 qd_g674 rfl rfl) qk_i1 (Nat.le_of_ble_eq_true rfl) rfl)))) (q_nd_ok (q_nd_ok (q_lf_ok (q_goto (qd_o167 39 0 qd_g675 rfl rfl) (by decide))) (q_lf_ok (q_bipush (qd_o16 39 3 qd_g675 rfl rfl) qk_b10 rfl))) (q_nd_ok (q_lf_ok (q_iload_n (qd_o27 39 5 qd_g675 rfl) rfl rfl)) (q_nd_ok (q_lf_ok (q_iadd (qd_o96 39 6 qd_g675 rfl) rfl)) (q_lf_ok (q_ireturn (qd_o172 39 7 qd_g675 rfl) rfl)))))))
/-! J6_bitCount_0f7a4 -/
set_option maxRecDepth 16384 in
noncomputable def q_t322 (TB : Nat → Option (Nat × Nat × (Nat → Int32))) : Nat → Option q_E := q_nd 26 (q_nd 11 (q_nd 4 (q_nd 1 (q_nd 0 (q_lf 0 (.inl (q_st 1 (q_fil 0)))) (q_lf 1 (.inl (q_st 2 (q_fil 0))))) (q_nd 2 (q_lf 2 (.inl (q_st 3 (q_fk (.int 1))))) (q_nd 3 (q_lf 3 (.inl (q_st 4 (q_fii fun x y => (x.toUInt32 >>> (y.toUInt32 &&& Int32.toUInt32 31)).toInt32)))) (q_lf 4 (.inl (q_st 7 (q_fk (.int 1431655765)))))))) (q_nd 8 (q_nd 7 (q_lf 7 (.inl (q_st 8 (q_fii fun x y => x &&& y)))) (q_lf 8 (.inl (q_st 9 (q_fii fun x y => x - y))))) (q_nd 9 (q_lf 9 (.inl (q_lo 10 (q_fis 0)))) (q_nd 10 (q_lf 10 (.inl (q_st 11 (q_fil 0)))) (q_lf 11 (.inl (q_st 14 (q_fk (.int 858993459))))))))) (q_nd 18 (q_nd 15 (q_nd 14 (q_lf 14 (.inl (q_st 15 (q_fii fun x y => x &&& y)))) (q_lf 15 (.inl (q_st 16 (q_fil 0))))) (q_nd 16 (q_lf 16 (.inl (q_st 17 (q_fk (.int 2))))) (q_nd 17 (q_lf 17 (.inl (q_st 18 (q_fii fun x y => (x.toUInt32 >>> (y.toUInt32 &&& Int32.toUInt32 31)).toInt32)))) (q_lf 18 (.inl (q_st 21 (q_fk (.int 858993459)))))))) (q_nd 23 (q_nd 21 (q_lf 21 (.inl (q_st 22 (q_fii fun x y => x &&& y)))) (q_nd 22 (q_lf 22 (.inl (q_st 23 (q_fii fun x y => x + y)))) (q_lf 23 (.inl (q_lo 24 (q_fis 0)))))) (q_nd 24 (q_lf 24 (.inl (q_st 25 (q_fil 0)))) (q_nd 25 (q_lf 25 (.inl (q_st 26 (q_fil 0)))) (q_lf 26 (.inl (q_st 27 (q_fk (.int 4)))))))))) (q_nd 39 (q_nd 33 (q_nd 28 (q_nd 27 (q_lf 27 (.inl (q_st 28 (q_fii fun x y => (x.toUInt32 >>> (y.toUInt32 &&& Int32.toUInt32 31)).toInt32)))) (q_lf 28 (.inl (q_st 29 (q_fii fun x y => x + y))))) (q_nd 29 (q_lf 29 (.inl (q_st 32 (q_fk (.int 252645135))))) (q_nd 32 (q_lf 32 (.inl (q_st 33 (q_fii fun x y => x &&& y)))) (q_lf 33 (.inl (q_lo 34 (q_fis 0))))))) (q_nd 35 (q_nd 34 (q_lf 34 (.inl (q_st 35 (q_fil 0)))) (q_lf 35 (.inl (q_st 36 (q_fil 0))))) (q_nd 36 (q_lf 36 (.inl (q_st 38 (q_fk (.int 8))))) (q_nd 38 (q_lf 38 (.inl (q_st 39 (q_fii fun x y => (x.toUInt32 >>> (y.toUInt32 &&& Int32.toUInt32 31)).toInt32)))) (q_lf 39 (.inl (q_st 40 (q_fii fun x y => x + y)))))))) (q_nd 45 (q_nd 41 (q_nd 40 (q_lf 40 (.inl (q_lo 41 (q_fis 0)))) (q_lf 41 (.inl (q_st 42 (q_fil 0))))) (q_nd 42 (q_lf 42 (.inl (q_st 43 (q_fil 0)))) (q_nd 43 (q_lf 43 (.inl (q_st 45 (q_fk (.int 16))))) (q_lf 45 (.inl (q_st 46 (q_fii fun x y => (x.toUInt32 >>> (y.toUInt32 &&& Int32.toUInt32 31)).toInt32))))))) (q_nd 48 (q_nd 46 (q_lf 46 (.inl (q_st 47 (q_fii fun x y => x + y)))) (q_nd 47 (q_lf 47 (.inl (q_lo 48 (q_fis 0)))) (q_lf 48 (.inl (q_st 49 (q_fil 0)))))) (q_nd 49 (q_lf 49 (.inl (q_st 51 (q_fk (.int 63))))) (q_nd 51 (q_lf 51 (.inl (q_st 52 (q_fii fun x y => x &&& y)))) (q_lf 52 (.inr (.inr (.inl q_ri)))))))))
set_option maxRecDepth 16384 in
theorem q_sm322 {TB : Nat → Option (Nat × Nat × (Nat → Int32))} {τ : Nat → Nat} : ∀ pc x, q_t322 TB pc = some x → q_S9 TB τ q_m322 pc x := q_nd_ok (q_nd_ok (q_nd_ok (q_nd_ok (q_nd_ok (q_lf_ok (q_iload_n (qd_o26 0 0 qd_g676 rfl) rfl rfl)) (q_lf_ok (q_iload_n (qd_o26 0 1 qd_g676 rfl) rfl rfl))) (q_nd_ok (q_lf_ok (q_iconst (qd_o4 0 2 qd_g676 rfl) qk_i1 rfl)) (q_nd_ok (q_lf_ok (q_iushr (qd_o124 0 3 qd_g676 rfl) rfl)) (q_lf_ok (q_ldcw (qd_o19 0 4 qd_g676 rfl rfl) q_w1206 rfl))))) (q_nd_ok (q_nd_ok (q_lf_ok (q_iand (qd_o126 0 7 qd_g676 rfl) rfl)) (q_lf_ok (q_isub (qd_o100 0 8 qd_g676 rfl) rfl))) (q_nd_ok (q_lf_ok (q_istore_n (qd_o59 0 9 qd_g676 rfl) rfl (Nat.le_of_ble_eq_true rfl) rfl)) (q_nd_ok (q_lf_ok (q_iload_n (qd_o26 0 10 qd_g676 rfl) rfl rfl)) (q_lf_ok (q_ldcw (qd_o19 0 11 qd_g676 rfl rfl) q_w1207 rfl)))))) (q_nd_ok (q_nd_ok (q_nd_ok (q_lf_ok (q_iand (qd_o126 0 14 qd_g676 rfl) rfl)) (q_lf_ok (q_iload_n (qd_o26 0 15 qd_g676 rfl) rfl rfl))) (q_nd_ok (q_lf_ok (q_iconst (qd_o5 0 16 qd_g676 rfl) qk_i2 rfl)) (q_nd_ok (q_lf_ok (q_iushr (qd_o124 0 17 qd_g676 rfl) rfl)) (q_lf_ok (q_ldcw (qd_o19 0 18 qd_g676 rfl rfl) q_w1207 rfl))))) (q_nd_ok (q_nd_ok (q_lf_ok (q_iand (qd_o126 0 21 qd_g676 rfl) rfl)) (q_nd_ok (q_lf_ok (q_iadd (qd_o96 0 22 qd_g676 rfl) rfl)) (q_lf_ok (q_istore_n (qd_o59 0 23 qd_g676 rfl) rfl (Nat.le_of_ble_eq_true rfl) rfl)))) (q_nd_ok (q_lf_ok (q_iload_n (qd_o26 0 24 qd_g676 rfl) rfl rfl)) (q_nd_ok (q_lf_ok (q_iload_n (qd_o26 0 25 qd_g676 rfl) rfl rfl)) (q_lf_ok (q_iconst (qd_o7 0 26 qd_g676 rfl) qk_i4 rfl))))))) (q_nd_ok (q_nd_ok (q_nd_ok (q_nd_ok (q_lf_ok (q_iushr (qd_o124 0 27 qd_g676 rfl) rfl)) (q_lf_ok (q_iadd (qd_o96 0 28 qd_g676 rfl) rfl))) (q_nd_ok (q_lf_ok (q_ldcw (qd_o19 0 29 qd_g676 rfl rfl) q_w1208 rfl)) (q_nd_ok (q_lf_ok (q_iand (qd_o126 0 32 qd_g676 rfl) rfl)) (q_lf_ok (q_istore_n (qd_o59 0 33 qd_g676 rfl) rfl (Nat.le_of_ble_eq_true rfl) rfl))))) (q_nd_ok (q_nd_ok (q_lf_ok (q_iload_n (qd_o26 0 34 qd_g676 rfl) rfl rfl)) (q_lf_ok (q_iload_n (qd_o26 0 35 qd_g676 rfl) rfl rfl))) (q_nd_ok (q_lf_ok (q_bipush (qd_o16 0 36 qd_g676 rfl rfl) qk_b8 rfl)) (q_nd_ok (q_lf_ok (q_iushr (qd_o124 0 38 qd_g676 rfl) rfl)) (q_lf_ok (q_iadd (qd_o96 0 39 qd_g676 rfl) rfl)))))) (q_nd_ok (q_nd_ok (q_nd_ok (q_lf_ok (q_istore_n (qd_o59 40 0 qd_g677 rfl) rfl (Nat.le_of_ble_eq_true rfl) rfl)) (q_lf_ok (q_iload_n (qd_o26 40 1 qd_g677 rfl) rfl rfl))) (q_nd_ok (q_lf_ok (q_iload_n (qd_o26 40 2 qd_g677 rfl) rfl rfl)) (q_nd_ok (q_lf_ok (q_bipush (qd_o16 40 3 qd_g677 rfl rfl) qk_b16 rfl)) (q_lf_ok (q_iushr (qd_o124 40 5 qd_g677 rfl) rfl))))) (q_nd_ok (q_nd_ok (q_lf_ok (q_iadd (qd_o96 40 6 qd_g677 rfl) rfl)) (q_nd_ok (q_lf_ok (q_istore_n (qd_o59 40 7 qd_g677 rfl) rfl (Nat.le_of_ble_eq_true rfl) rfl)) (q_lf_ok (q_iload_n (qd_o26 40 8 qd_g677 rfl) rfl rfl)))) (q_nd_ok (q_lf_ok (q_bipush (qd_o16 40 9 qd_g677 rfl rfl) qk_b63 rfl)) (q_nd_ok (q_lf_ok (q_iand (qd_o126 40 11 qd_g677 rfl) rfl)) (q_lf_ok (q_ireturn (qd_o172 40 12 qd_g677 rfl) rfl)))))))
end
section
-- 31.6J40
/-! J4_init_da8c8 -/
noncomputable def q_t323 (TB : Nat → Option (Nat × Nat × (Nat → Int32))) : Nat → Option q_E := q_nd 1 (q_nd 0 (q_lf 0 (.inl (q_st 1 (q_fal 0)))) (q_lf 1 (.inl (q_st 3 (q_fk (.int 16)))))) (q_nd 3 (q_lf 3 (.inr (.inr (.inr (.inr (6, q_fi 330 1, none)))))) (q_lf 6 (.inr (.inr (.inl q_rv)))))
theorem q_sm323 {TB : Nat → Option (Nat × Nat × (Nat → Int32))} {τ : Nat → Nat} : ∀ pc x, q_t323 TB pc = some x → q_S9 TB τ q_m323 pc x := q_nd_ok (q_nd_ok (q_lf_ok (q_aload_n (qd_o42 0 0 qd_g693 rfl) rfl rfl)) (q_lf_ok (q_bipush (qd_o16 0 1 qd_g693 rfl rfl) qk_b16 rfl))) (q_nd_ok (q_lf_ok (⟨q_callI' q_e330 (qd_o183 0 3 qd_g693 rfl rfl) rfl rfl (Nat.le_of_ble_eq_true rfl) rfl q_w1209 q_w1211 q_w1212 q_w1210 rfl (by decide +kernel), rfl⟩)) (q_lf_ok (q_return (qd_o177 0 6 qd_g693 rfl) rfl)))
/-! J4_append_15ec4 -/
noncomputable def q_t324 (TB : Nat → Option (Nat × Nat × (Nat → Int32))) : Nat → Option q_E := q_nd 2 (q_nd 0 (q_lf 0 (.inl (q_st 1 (q_fal 0)))) (q_nd 1 (q_lf 1 (.inl (q_st 2 (q_fal 1)))) (q_lf 2 (.inr (.inr (.inr (.inr (5, q_fv 337 1 1, none)))))))) (q_nd 5 (q_lf 5 (.inl (q_st 6 q_fpop))) (q_nd 6 (q_lf 6 (.inl (q_st 7 (q_fal 0)))) (q_lf 7 (.inr (.inr (.inl q_ra))))))
theorem q_sm324 {TB : Nat → Option (Nat × Nat × (Nat → Int32))} {τ : Nat → Nat} : ∀ pc x, q_t324 TB pc = some x → q_S9 TB τ q_m324 pc x := q_nd_ok (q_nd_ok (q_lf_ok (q_aload_n (qd_o42 0 0 qd_g694 rfl) rfl rfl)) (q_nd_ok (q_lf_ok (q_aload_n (qd_o43 0 1 qd_g694 rfl) rfl rfl)) (q_lf_ok (⟨q_callSU (T := TJ4) (n := 4) (N9 := 4) q_e337 (qd_o183 0 2 qd_g694 rfl rfl) rfl rfl rfl (Nat.le_of_ble_eq_true rfl) q_w1213 q_w1216 q_w1217 q_w1215 q_w1212 q_w1214 q_w130 (by decide +kernel), rfl⟩)))) (q_nd_ok (q_lf_ok (q_pop (qd_o87 0 5 qd_g694 rfl) rfl)) (q_nd_ok (q_lf_ok (q_aload_n (qd_o42 0 6 qd_g694 rfl) rfl rfl)) (q_lf_ok (q_areturn (qd_o176 0 7 qd_g694 rfl) rfl (Or.inl ⟨_, rfl⟩)))))
/-! J4_append_cf468 -/
noncomputable def q_t325 (TB : Nat → Option (Nat × Nat × (Nat → Int32))) : Nat → Option q_E := q_nd 2 (q_nd 0 (q_lf 0 (.inl (q_st 1 (q_fal 0)))) (q_nd 1 (q_lf 1 (.inl (q_st 2 (q_fil 1)))) (q_lf 2 (.inr (.inr (.inr (.inr (5, q_fv 339 1 1, none)))))))) (q_nd 5 (q_lf 5 (.inl (q_st 6 q_fpop))) (q_nd 6 (q_lf 6 (.inl (q_st 7 (q_fal 0)))) (q_lf 7 (.inr (.inr (.inl q_ra))))))
theorem q_sm325 {TB : Nat → Option (Nat × Nat × (Nat → Int32))} {τ : Nat → Nat} : ∀ pc x, q_t325 TB pc = some x → q_S9 TB τ q_m325 pc x := q_nd_ok (q_nd_ok (q_lf_ok (q_aload_n (qd_o42 0 0 qd_g695 rfl) rfl rfl)) (q_nd_ok (q_lf_ok (q_iload_n (qd_o27 0 1 qd_g695 rfl) rfl rfl)) (q_lf_ok (⟨q_callSU (T := TJ4) (n := 4) (N9 := 4) q_e339 (qd_o183 0 2 qd_g695 rfl rfl) rfl rfl rfl (Nat.le_of_ble_eq_true rfl) q_w1218 q_w1221 q_w1217 q_w1220 q_w1212 q_w1219 q_w130 (by decide +kernel), rfl⟩)))) (q_nd_ok (q_lf_ok (q_pop (qd_o87 0 5 qd_g695 rfl) rfl)) (q_nd_ok (q_lf_ok (q_aload_n (qd_o42 0 6 qd_g695 rfl) rfl rfl)) (q_lf_ok (q_areturn (qd_o176 0 7 qd_g695 rfl) rfl (Or.inl ⟨_, rfl⟩)))))
/-! J4_append_bf812 -/
noncomputable def q_t326 (TB : Nat → Option (Nat × Nat × (Nat → Int32))) : Nat → Option q_E := q_nd 2 (q_nd 0 (q_lf 0 (.inl (q_st 1 (q_fal 0)))) (q_nd 1 (q_lf 1 (.inl (q_st 2 (q_fil 1)))) (q_lf 2 (.inr (.inr (.inr (.inr (5, q_fv 340 1 1, none)))))))) (q_nd 5 (q_lf 5 (.inl (q_st 6 q_fpop))) (q_nd 6 (q_lf 6 (.inl (q_st 7 (q_fal 0)))) (q_lf 7 (.inr (.inr (.inl q_ra))))))
theorem q_sm326 {TB : Nat → Option (Nat × Nat × (Nat → Int32))} {τ : Nat → Nat} : ∀ pc x, q_t326 TB pc = some x → q_S9 TB τ q_m326 pc x := q_nd_ok (q_nd_ok (q_lf_ok (q_aload_n (qd_o42 0 0 qd_g696 rfl) rfl rfl)) (q_nd_ok (q_lf_ok (q_iload_n (qd_o27 0 1 qd_g696 rfl) rfl rfl)) (q_lf_ok (⟨q_callSU (T := TJ4) (n := 4) (N9 := 4) q_e340 (qd_o183 0 2 qd_g696 rfl rfl) rfl rfl rfl (Nat.le_of_ble_eq_true rfl) q_w1222 q_w1225 q_w1217 q_w1224 q_w1212 q_w1223 q_w130 (by decide +kernel), rfl⟩)))) (q_nd_ok (q_lf_ok (q_pop (qd_o87 0 5 qd_g696 rfl) rfl)) (q_nd_ok (q_lf_ok (q_aload_n (qd_o42 0 6 qd_g696 rfl) rfl rfl)) (q_lf_ok (q_areturn (qd_o176 0 7 qd_g696 rfl) rfl (Or.inl ⟨_, rfl⟩)))))
/-! J4_charAt_5068e -/
noncomputable def q_t327 (TB : Nat → Option (Nat × Nat × (Nat → Int32))) : Nat → Option q_E := q_nd 1 (q_nd 0 (q_lf 0 (.inl (q_st 1 (q_fal 0)))) (q_lf 1 (.inl (q_st 2 (q_fil 1))))) (q_nd 2 (q_lf 2 (.inr (.inr (.inr (.inr (5, q_fv 336 1 1, none)))))) (q_lf 5 (.inr (.inr (.inl q_rc)))))
theorem q_sm327 {TB : Nat → Option (Nat × Nat × (Nat → Int32))} {τ : Nat → Nat} : ∀ pc x, q_t327 TB pc = some x → q_S9 TB τ q_m327 pc x := q_nd_ok (q_nd_ok (q_lf_ok (q_aload_n (qd_o42 0 0 qd_g698 rfl) rfl rfl)) (q_lf_ok (q_iload_n (qd_o27 0 1 qd_g698 rfl) rfl rfl))) (q_nd_ok (q_lf_ok (⟨q_callSU (T := TJ4) (n := 4) (N9 := 4) q_e336 (qd_o183 0 2 qd_g698 rfl rfl) rfl rfl rfl (Nat.le_of_ble_eq_true rfl) q_w1226 q_w1229 q_w1217 q_w1228 q_w1212 q_w1227 q_w130 (by decide +kernel), rfl⟩)) (q_lf_ok (q_creturn (qd_o172 0 5 qd_g698 rfl) rfl)))
/-! J4_setLength_d00df -/
noncomputable def q_t328 (TB : Nat → Option (Nat × Nat × (Nat → Int32))) : Nat → Option q_E := q_nd 1 (q_nd 0 (q_lf 0 (.inl (q_st 1 (q_fal 0)))) (q_lf 1 (.inl (q_st 2 (q_fil 1))))) (q_nd 2 (q_lf 2 (.inr (.inr (.inr (.inr (5, q_fv 335 1 1, none)))))) (q_lf 5 (.inr (.inr (.inl q_rv)))))
theorem q_sm328 {TB : Nat → Option (Nat × Nat × (Nat → Int32))} {τ : Nat → Nat} : ∀ pc x, q_t328 TB pc = some x → q_S9 TB τ q_m328 pc x := q_nd_ok (q_nd_ok (q_lf_ok (q_aload_n (qd_o42 0 0 qd_g699 rfl) rfl rfl)) (q_lf_ok (q_iload_n (qd_o27 0 1 qd_g699 rfl) rfl rfl))) (q_nd_ok (q_lf_ok (⟨q_callSU (T := TJ4) (n := 4) (N9 := 4) q_e335 (qd_o183 0 2 qd_g699 rfl rfl) rfl rfl rfl (Nat.le_of_ble_eq_true rfl) q_w1230 q_w1233 q_w1217 q_w1232 q_w1212 q_w1231 q_w130 (by decide +kernel), rfl⟩)) (q_lf_ok (q_return (qd_o177 0 5 qd_g699 rfl) rfl)))
/-! J4_length_8abf5 -/
noncomputable def q_t329 (TB : Nat → Option (Nat × Nat × (Nat → Int32))) : Nat → Option q_E := q_nd 0 (q_lf 0 (.inl (q_st 1 (q_fal 0)))) (q_nd 1 (q_lf 1 (.inr (.inr (.inr (.inr (4, q_fv 331 0 1, none)))))) (q_lf 4 (.inr (.inr (.inl q_ri)))))
theorem q_sm329 {TB : Nat → Option (Nat × Nat × (Nat → Int32))} {τ : Nat → Nat} : ∀ pc x, q_t329 TB pc = some x → q_S9 TB τ q_m329 pc x := q_nd_ok (q_lf_ok (q_aload_n (qd_o42 0 0 qd_g700 rfl) rfl rfl)) (q_nd_ok (q_lf_ok (⟨q_callSU (T := TJ4) (n := 4) (N9 := 4) q_e331 (qd_o183 0 1 qd_g700 rfl rfl) rfl rfl rfl (Nat.le_of_ble_eq_true rfl) q_w1234 q_w1237 q_w1217 q_w1236 q_w1212 q_w1235 q_w130 (by decide +kernel), rfl⟩)) (q_lf_ok (q_ireturn (qd_o172 0 4 qd_g700 rfl) rfl)))
end
section
-- 31.7J50
/-! J5_init_d00df -/
set_option maxRecDepth 16384 in
noncomputable def q_t330 (TB : Nat → Option (Nat × Nat × (Nat → Int32))) : Nat → Option q_E := q_nd 18 (q_nd 10 (q_nd 1 (q_nd 0 (q_lf 0 (.inl (q_st 1 (q_fal 0)))) (q_lf 1 (.inl (q_obj 4)))) (q_nd 4 (q_lf 4 (.inl (q_st 7 (q_fk (.int 1))))) (q_nd 7 (q_lf 7 (.inr (.inl (q_br 25 10 (q_b1 fun x => decide (x = 0)))))) (q_lf 10 (.inl (q_st 11 (q_fal 0))))))) (q_nd 12 (q_nd 11 (q_lf 11 (.inl (q_st 12 (q_fil 1)))) (q_lf 12 (.inr (.inl (q_nwa 14 4 (.inl fun _ => 0)))))) (q_nd 14 (q_lf 14 (.inl (q_pf 17 1 0 q_ck_r))) (q_nd 17 (q_lf 17 (.inl (q_st 18 (q_fal 0)))) (q_lf 18 (.inl (q_st 19 (q_fk (.int 0))))))))) (q_nd 27 (q_nd 22 (q_nd 19 (q_lf 19 (.inl (q_pf 22 1 1 q_ck_b))) (q_lf 22 (.inl (q_st 38 fun _ st => some st)))) (q_nd 25 (q_lf 25 (.inl (q_st 26 (q_fal 0)))) (q_nd 26 (q_lf 26 (.inl (q_st 27 (q_fil 1)))) (q_lf 27 (.inr (.inr (.inr (.inr (30, q_fc 356 1, none))))))))) (q_nd 33 (q_nd 30 (q_lf 30 (.inl (q_pf 33 1 0 q_ck_r))) (q_lf 33 (.inl (q_st 34 (q_fal 0))))) (q_nd 34 (q_lf 34 (.inl (q_st 35 (q_fk (.int 1))))) (q_nd 35 (q_lf 35 (.inl (q_pf 38 1 1 q_ck_b))) (q_lf 38 (.inr (.inr (.inl q_rv))))))))
set_option maxRecDepth 16384 in
theorem q_sm330 {TB : Nat → Option (Nat × Nat × (Nat → Int32))} {τ : Nat → Nat} : ∀ pc x, q_t330 TB pc = some x → q_S9 TB τ q_m330 pc x := q_nd_ok (q_nd_ok (q_nd_ok (q_nd_ok (q_lf_ok (q_aload_n (qd_o42 0 0 qd_g643 rfl) rfl rfl)) (q_lf_ok (q_objInit (qd_o183 0 1 qd_g643 rfl rfl) rfl q_w1238 q_w114 q_w115))) (q_nd_ok (q_lf_ok (q_getstatic (v := .int 1) (fun a h => by cases h) (fun _ _ _ h => h.2.2.2.2.2.2.1 _ (List.mem_append_left _ (List.mem_of_getElem? (i := 7) rfl))) (qd_o178 0 4 qd_g643 rfl rfl) q_w1239 rfl)) (q_nd_ok (q_lf_ok (q_if_eq (qd_o153 0 7 qd_g643 rfl rfl) (by decide) rfl)) (q_lf_ok (q_aload_n (qd_o42 0 10 qd_g643 rfl) rfl rfl))))) (q_nd_ok (q_nd_ok (q_lf_ok (q_iload_n (qd_o27 0 11 qd_g643 rfl) rfl rfl)) (q_lf_ok (q_newarray (ty := .byte) dJ5_init_d00df_12 q_w1201 rfl rfl (fun C h => by cases h) (by decide) (fun _ _ _ => rfl) (fun _ => trivial) rfl))) (q_nd_ok (q_lf_ok (q_putf (T := TJ4) (qd_o181 14 0 qd_g644 rfl rfl) rfl q_inJ4 tyJ4_ok nmJ4 (Nat.le_of_ble_eq_true rfl) q_w1240 rfl (tyJ4_ok 0 (Nat.le_of_ble_eq_true rfl)) (q_ck_a_ok _) rfl)) (q_nd_ok (q_lf_ok (q_aload_n (qd_o42 14 3 qd_g644 rfl) rfl rfl)) (q_lf_ok (q_iconst (qd_o3 14 4 qd_g644 rfl) qk_i0 rfl)))))) (q_nd_ok (q_nd_ok (q_nd_ok (q_lf_ok (q_putf (T := TJ4) (qd_o181 14 5 qd_g644 rfl rfl) rfl q_inJ4 tyJ4_ok nmJ4 (Nat.le_of_ble_eq_true rfl) q_w1241 rfl (tyJ4_ok 1 (Nat.le_of_ble_eq_true rfl)) q_ck_b_ok rfl)) (q_lf_ok (q_goto (qd_o167 14 8 qd_g644 rfl rfl) (by decide)))) (q_nd_ok (q_lf_ok (q_aload_n (qd_o42 14 11 qd_g644 rfl) rfl rfl)) (q_nd_ok (q_lf_ok (q_iload_n (qd_o27 14 12 qd_g644 rfl) rfl rfl)) (q_lf_ok (⟨q_callS' q_e356 (qd_o184 14 13 qd_g644 rfl rfl) rfl rfl (Nat.le_of_ble_eq_true rfl) q_w1242 q_w1244 q_w1245 q_w1243 (by decide +kernel), rfl⟩))))) (q_nd_ok (q_nd_ok (q_lf_ok (q_putf (T := TJ4) (qd_o181 14 16 qd_g644 rfl rfl) rfl q_inJ4 tyJ4_ok nmJ4 (Nat.le_of_ble_eq_true rfl) q_w1240 rfl (tyJ4_ok 0 (Nat.le_of_ble_eq_true rfl)) (q_ck_a_ok _) rfl)) (q_lf_ok (q_aload_n (qd_o42 14 19 qd_g644 rfl) rfl rfl))) (q_nd_ok (q_lf_ok (q_iconst (qd_o4 14 20 qd_g644 rfl) qk_i1 rfl)) (q_nd_ok (q_lf_ok (q_putf (T := TJ4) (qd_o181 14 21 qd_g644 rfl rfl) rfl q_inJ4 tyJ4_ok nmJ4 (Nat.le_of_ble_eq_true rfl) q_w1241 rfl (tyJ4_ok 1 (Nat.le_of_ble_eq_true rfl)) q_ck_b_ok rfl)) (q_lf_ok (q_return (qd_o177 14 24 qd_g644 rfl) rfl))))))
/-! J5_length_8abf5 -/
noncomputable def q_t331 (TB : Nat → Option (Nat × Nat × (Nat → Int32))) : Nat → Option q_E := q_nd 0 (q_lf 0 (.inl (q_st 1 (q_fal 0)))) (q_nd 1 (q_lf 1 (.inl (q_gf 4 1 3))) (q_lf 4 (.inr (.inr (.inl q_ri)))))
theorem q_sm331 {TB : Nat → Option (Nat × Nat × (Nat → Int32))} {τ : Nat → Nat} : ∀ pc x, q_t331 TB pc = some x → q_S9 TB τ q_m331 pc x := q_nd_ok (q_lf_ok (q_aload_n (qd_o42 0 0 qd_g645 rfl) rfl rfl)) (q_nd_ok (q_lf_ok (q_getf (T := TJ4) (qd_o180 0 1 qd_g645 rfl rfl) rfl q_inJ4 (Nat.le_of_ble_eq_true rfl) q_w1246 rfl)) (q_lf_ok (q_ireturn (qd_o172 0 4 qd_g645 rfl) rfl)))
/-! J5_ensureCapacityInternal_d00df -/
set_option maxRecDepth 16384 in
noncomputable def q_t332 (TB : Nat → Option (Nat × Nat × (Nat → Int32))) : Nat → Option q_E := q_nd 14 (q_nd 6 (q_nd 1 (q_nd 0 (q_lf 0 (.inl (q_st 1 (q_fal 0)))) (q_lf 1 (.inl (q_gf 4 1 0)))) (q_nd 4 (q_lf 4 (.inl (q_aln TB 5 4))) (q_nd 5 (q_lf 5 (.inl (q_st 6 (q_fal 0)))) (q_lf 6 (.inl (q_gf 9 1 1)))))) (q_nd 11 (q_nd 9 (q_lf 9 (.inl (q_st 10 (q_fii fun x y => x >>> (y &&& 31))))) (q_nd 10 (q_lf 10 (.inl (q_lo 11 (q_fis 2)))) (q_lf 11 (.inl (q_st 12 (q_fil 1)))))) (q_nd 12 (q_lf 12 (.inl (q_st 13 (q_fil 2)))) (q_nd 13 (q_lf 13 (.inl (q_st 14 (q_fii fun x y => x - y)))) (q_lf 14 (.inr (.inl (q_br 38 17 (q_b1 fun x => decide (x ≤ 0)))))))))) (q_nd 24 (q_nd 19 (q_nd 17 (q_lf 17 (.inl (q_st 18 (q_fal 0)))) (q_nd 18 (q_lf 18 (.inl (q_st 19 (q_fal 0)))) (q_lf 19 (.inl (q_gf 22 1 0))))) (q_nd 22 (q_lf 22 (.inl (q_st 23 (q_fal 0)))) (q_nd 23 (q_lf 23 (.inl (q_st 24 (q_fil 1)))) (q_lf 24 (.inr (.inr (.inr (.inr (27, q_fv 333 1 1, none))))))))) (q_nd 31 (q_nd 27 (q_lf 27 (.inl (q_st 28 (q_fal 0)))) (q_nd 28 (q_lf 28 (.inl (q_gf 31 1 1))) (q_lf 31 (.inl (q_st 32 (q_fii fun x y => x <<< (y &&& 31))))))) (q_nd 32 (q_lf 32 (.inr (.inr (.inr (.inr (35, q_fc 319 2, none)))))) (q_nd 35 (q_lf 35 (.inl (q_pf 38 1 0 q_ck_r))) (q_lf 38 (.inr (.inr (.inl q_rv))))))))
set_option maxRecDepth 16384 in
theorem q_sm332 {TB : Nat → Option (Nat × Nat × (Nat → Int32))} {τ : Nat → Nat} : ∀ pc x, q_t332 TB pc = some x → q_S9 TB τ q_m332 pc x := q_nd_ok (q_nd_ok (q_nd_ok (q_nd_ok (q_lf_ok (q_aload_n (qd_o42 0 0 qd_g646 rfl) rfl rfl)) (q_lf_ok (q_getf (T := TJ4) (qd_o180 0 1 qd_g646 rfl rfl) rfl q_inJ4 (Nat.le_of_ble_eq_true rfl) q_w1240 rfl))) (q_nd_ok (q_lf_ok (q_arraylength q_hTB rfl (qd_o190 0 4 qd_g646 rfl) rfl)) (q_nd_ok (q_lf_ok (q_aload_n (qd_o42 0 5 qd_g646 rfl) rfl rfl)) (q_lf_ok (q_getf (T := TJ4) (qd_o180 0 6 qd_g646 rfl rfl) rfl q_inJ4 (Nat.le_of_ble_eq_true rfl) q_w1241 rfl))))) (q_nd_ok (q_nd_ok (q_lf_ok (q_ishr (qd_o122 0 9 qd_g646 rfl) rfl)) (q_nd_ok (q_lf_ok (q_istore_n (qd_o61 0 10 qd_g646 rfl) rfl (Nat.le_of_ble_eq_true rfl) rfl)) (q_lf_ok (q_iload_n (qd_o27 0 11 qd_g646 rfl) rfl rfl)))) (q_nd_ok (q_lf_ok (q_iload_n (qd_o28 0 12 qd_g646 rfl) rfl rfl)) (q_nd_ok (q_lf_ok (q_isub (qd_o100 0 13 qd_g646 rfl) rfl)) (q_lf_ok (q_if_le (qd_o158 0 14 qd_g646 rfl rfl) (by decide) rfl)))))) (q_nd_ok (q_nd_ok (q_nd_ok (q_lf_ok (q_aload_n (qd_o42 0 17 qd_g646 rfl) rfl rfl)) (q_nd_ok (q_lf_ok (q_aload_n (qd_o42 0 18 qd_g646 rfl) rfl rfl)) (q_lf_ok (q_getf (T := TJ4) (qd_o180 0 19 qd_g646 rfl rfl) rfl q_inJ4 (Nat.le_of_ble_eq_true rfl) q_w1240 rfl)))) (q_nd_ok (q_lf_ok (q_aload_n (qd_o42 0 22 qd_g646 rfl) rfl rfl)) (q_nd_ok (q_lf_ok (q_iload_n (qd_o27 0 23 qd_g646 rfl) rfl rfl)) (q_lf_ok (⟨q_callU (T := TJ4) (n := 4) (owner := "java/lang/AbstractStringBuilder") (x := ⟨"java/lang/AbstractStringBuilder", "newCapacity", "(I)I"⟩) q_e333 (qd_o182 0 24 qd_g646 rfl rfl) rfl rfl rfl (Nat.le_of_ble_eq_true rfl) q_w1247 q_w1249 q_w1250 q_w1251 q_w1212 q_w1248 rfl (by decide +kernel), rfl⟩))))) (q_nd_ok (q_nd_ok (q_lf_ok (q_aload_n (qd_o42 0 27 qd_g646 rfl) rfl rfl)) (q_nd_ok (q_lf_ok (q_getf (T := TJ4) (qd_o180 0 28 qd_g646 rfl rfl) rfl q_inJ4 (Nat.le_of_ble_eq_true rfl) q_w1241 rfl)) (q_lf_ok (q_ishl (qd_o120 0 31 qd_g646 rfl) rfl)))) (q_nd_ok (q_lf_ok (⟨q_callS' q_e319 (qd_o184 0 32 qd_g646 rfl rfl) rfl rfl (Nat.le_of_ble_eq_true rfl) q_w1252 q_w1254 q_w501 q_w1253 (by decide +kernel), rfl⟩)) (q_nd_ok (q_lf_ok (q_putf (T := TJ4) (qd_o181 0 35 qd_g646 rfl rfl) rfl q_inJ4 tyJ4_ok nmJ4 (Nat.le_of_ble_eq_true rfl) q_w1240 rfl (tyJ4_ok 0 (Nat.le_of_ble_eq_true rfl)) (q_ck_a_ok _) rfl)) (q_lf_ok (q_return (qd_o177 0 38 qd_g646 rfl) rfl))))))
/-! J5_newCapacity_0f7a4 -/
set_option maxRecDepth 16384 in
noncomputable def q_t333 (TB : Nat → Option (Nat × Nat × (Nat → Int32))) : Nat → Option q_E := q_nd 21 (q_nd 11 (q_nd 5 (q_nd 1 (q_nd 0 (q_lf 0 (.inl (q_st 1 (q_fal 0)))) (q_lf 1 (.inl (q_gf 4 1 0)))) (q_nd 4 (q_lf 4 (.inl (q_aln TB 5 4))) (q_lf 5 (.inl (q_lo 6 (q_fis 2)))))) (q_nd 7 (q_nd 6 (q_lf 6 (.inl (q_st 7 (q_fil 1)))) (q_lf 7 (.inl (q_st 8 (q_fal 0))))) (q_nd 8 (q_lf 8 (.inl (q_gf 11 1 1))) (q_lf 11 (.inl (q_st 12 (q_fii fun x y => x <<< (y &&& 31)))))))) (q_nd 15 (q_nd 13 (q_nd 12 (q_lf 12 (.inl (q_lo 13 (q_fis 3)))) (q_lf 13 (.inl (q_st 14 (q_fil 3))))) (q_nd 14 (q_lf 14 (.inl (q_st 15 (q_fil 2)))) (q_lf 15 (.inl (q_st 16 (q_fii fun x y => x - y)))))) (q_nd 18 (q_nd 16 (q_lf 16 (.inl (q_lo 18 (q_fis 4)))) (q_lf 18 (.inl (q_st 19 (q_fil 2))))) (q_nd 19 (q_lf 19 (.inl (q_st 21 (q_fil 4)))) (q_lf 21 (.inl (q_st 22 (q_fil 2)))))))) (q_nd 34 (q_nd 27 (q_nd 23 (q_nd 22 (q_lf 22 (.inl (q_st 23 (q_fk (.int 2))))) (q_lf 23 (.inl (q_st 24 (q_fal 0))))) (q_nd 24 (q_lf 24 (.inl (q_gf 27 1 1))) (q_lf 27 (.inl (q_st 28 (q_fii fun x y => x <<< (y &&& 31))))))) (q_nd 29 (q_nd 28 (q_lf 28 (.inl (q_st 29 (q_fii fun x y => x + y)))) (q_lf 29 (.inr (.inr (.inr (.inr (32, q_fc 374 3, none))))))) (q_nd 32 (q_lf 32 (.inl (q_lo 34 (q_fis 5)))) (q_lf 34 (.inl (q_st 36 (q_fil 5))))))) (q_nd 51 (q_nd 38 (q_nd 36 (q_lf 36 (.inl (q_st 38 (q_fk (.int 2147483647))))) (q_lf 38 (.inr (.inl (q_br 51 41 (q_b2 fun x y => decide (¬ x = y))))))) (q_nd 44 (q_lf 44 (.inl (q_st 45 q_fdup))) (q_lf 51 (.inl (q_st 53 (q_fil 5)))))) (q_nd 54 (q_nd 53 (q_lf 53 (.inl (q_st 54 (q_fal 0)))) (q_lf 54 (.inl (q_gf 57 1 1)))) (q_nd 57 (q_lf 57 (.inl (q_st 58 (q_fii fun x y => x >>> (y &&& 31))))) (q_lf 58 (.inr (.inr (.inl q_ri))))))))
set_option maxRecDepth 16384 in
theorem q_sm333 {TB : Nat → Option (Nat × Nat × (Nat → Int32))} {τ : Nat → Nat} : ∀ pc x, q_t333 TB pc = some x → q_S9 TB τ q_m333 pc x := q_nd_ok (q_nd_ok (q_nd_ok (q_nd_ok (q_nd_ok (q_lf_ok (q_aload_n (qd_o42 0 0 qd_g647 rfl) rfl rfl)) (q_lf_ok (q_getf (T := TJ4) (qd_o180 0 1 qd_g647 rfl rfl) rfl q_inJ4 (Nat.le_of_ble_eq_true rfl) q_w1240 rfl))) (q_nd_ok (q_lf_ok (q_arraylength q_hTB rfl (qd_o190 0 4 qd_g647 rfl) rfl)) (q_lf_ok (q_istore_n (qd_o61 0 5 qd_g647 rfl) rfl (Nat.le_of_ble_eq_true rfl) rfl)))) (q_nd_ok (q_nd_ok (q_lf_ok (q_iload_n (qd_o27 0 6 qd_g647 rfl) rfl rfl)) (q_lf_ok (q_aload_n (qd_o42 0 7 qd_g647 rfl) rfl rfl))) (q_nd_ok (q_lf_ok (q_getf (T := TJ4) (qd_o180 0 8 qd_g647 rfl rfl) rfl q_inJ4 (Nat.le_of_ble_eq_true rfl) q_w1241 rfl)) (q_lf_ok (q_ishl (qd_o120 0 11 qd_g647 rfl) rfl))))) (q_nd_ok (q_nd_ok (q_nd_ok (q_lf_ok (q_istore_n (qd_o62 0 12 qd_g647 rfl) rfl (Nat.le_of_ble_eq_true rfl) rfl)) (q_lf_ok (q_iload_n (qd_o29 0 13 qd_g647 rfl) rfl rfl))) (q_nd_ok (q_lf_ok (q_iload_n (qd_o28 0 14 qd_g647 rfl) rfl rfl)) (q_lf_ok (q_isub (qd_o100 0 15 qd_g647 rfl) rfl)))) (q_nd_ok (q_nd_ok (q_lf_ok (q_istore (qd_o54 0 16 qd_g647 rfl rfl) (Nat.le_of_ble_eq_true rfl) rfl)) (q_lf_ok (q_iload_n (qd_o28 0 18 qd_g647 rfl) rfl rfl))) (q_nd_ok (q_lf_ok (q_iload (qd_o21 0 19 qd_g647 rfl rfl) rfl)) (q_lf_ok (q_iload_n (qd_o28 0 21 qd_g647 rfl) rfl rfl)))))) (q_nd_ok (q_nd_ok (q_nd_ok (q_nd_ok (q_lf_ok (q_iconst (qd_o5 0 22 qd_g647 rfl) qk_i2 rfl)) (q_lf_ok (q_aload_n (qd_o42 0 23 qd_g647 rfl) rfl rfl))) (q_nd_ok (q_lf_ok (q_getf (T := TJ4) (qd_o180 0 24 qd_g647 rfl rfl) rfl q_inJ4 (Nat.le_of_ble_eq_true rfl) q_w1241 rfl)) (q_lf_ok (q_ishl (qd_o120 0 27 qd_g647 rfl) rfl)))) (q_nd_ok (q_nd_ok (q_lf_ok (q_iadd (qd_o96 0 28 qd_g647 rfl) rfl)) (q_lf_ok (⟨q_callS' q_e374 (qd_o184 0 29 qd_g647 rfl rfl) rfl rfl (Nat.le_of_ble_eq_true rfl) q_w1255 q_w1257 q_w1258 q_w1256 (by decide +kernel), rfl⟩))) (q_nd_ok (q_lf_ok (q_istore (qd_o54 0 32 qd_g647 rfl rfl) (Nat.le_of_ble_eq_true rfl) rfl)) (q_lf_ok (q_iload (qd_o21 0 34 qd_g647 rfl rfl) rfl))))) (q_nd_ok (q_nd_ok (q_nd_ok (q_lf_ok (q_ldc (qd_o18 0 36 qd_g647 rfl rfl) q_w1259 rfl)) (q_lf_ok (q_icmp_ne (qd_o160 38 0 qd_g648 rfl rfl) (by decide) rfl))) (q_nd_ok (q_lf_ok (q_dup (qd_o89 38 6 qd_g648 rfl) rfl)) (q_lf_ok (q_iload (qd_o21 38 13 qd_g648 rfl rfl) rfl)))) (q_nd_ok (q_nd_ok (q_lf_ok (q_aload_n (qd_o42 38 15 qd_g648 rfl) rfl rfl)) (q_lf_ok (q_getf (T := TJ4) (qd_o180 38 16 qd_g648 rfl rfl) rfl q_inJ4 (Nat.le_of_ble_eq_true rfl) q_w1241 rfl))) (q_nd_ok (q_lf_ok (q_ishr (qd_o122 38 19 qd_g648 rfl) rfl)) (q_lf_ok (q_ireturn (qd_o172 38 20 qd_g648 rfl) rfl))))))
/-! J5_inflate_da8c8 -/
set_option maxRecDepth 16384 in
noncomputable def q_t334 (TB : Nat → Option (Nat × Nat × (Nat → Int32))) : Nat → Option q_E := q_nd 21 (q_nd 9 (q_nd 4 (q_nd 0 (q_lf 0 (.inl (q_st 1 (q_fal 0)))) (q_nd 1 (q_lf 1 (.inr (.inr (.inr (.inr (4, q_fv 341 0 1, none)))))) (q_lf 4 (.inr (.inl (q_br 8 7 (q_b1 fun x => decide (¬ x = 0)))))))) (q_nd 7 (q_lf 7 (.inr (.inr (.inl q_rv)))) (q_nd 8 (q_lf 8 (.inl (q_st 9 (q_fal 0)))) (q_lf 9 (.inl (q_gf 12 1 0)))))) (q_nd 16 (q_nd 12 (q_lf 12 (.inl (q_aln TB 13 4))) (q_nd 13 (q_lf 13 (.inr (.inr (.inr (.inr (16, q_fc 356 1, none)))))) (q_lf 16 (.inl (q_lo 17 (q_fas 1)))))) (q_nd 17 (q_lf 17 (.inl (q_st 18 (q_fal 0)))) (q_nd 18 (q_lf 18 (.inl (q_gf 21 1 0))) (q_lf 21 (.inl (q_st 22 (q_fk (.int 0))))))))) (q_nd 31 (q_nd 24 (q_nd 22 (q_lf 22 (.inl (q_st 23 (q_fal 1)))) (q_nd 23 (q_lf 23 (.inl (q_st 24 (q_fk (.int 0))))) (q_lf 24 (.inl (q_st 25 (q_fal 0)))))) (q_nd 25 (q_lf 25 (.inl (q_gf 28 1 3))) (q_nd 28 (q_lf 28 (.inr (.inr (.inr (.inr (31, q_fc 355 5, none)))))) (q_lf 31 (.inl (q_st 32 (q_fal 0))))))) (q_nd 36 (q_nd 32 (q_lf 32 (.inl (q_st 33 (q_fal 1)))) (q_nd 33 (q_lf 33 (.inl (q_pf 36 1 0 q_ck_r))) (q_lf 36 (.inl (q_st 37 (q_fal 0)))))) (q_nd 37 (q_lf 37 (.inl (q_st 38 (q_fk (.int 1))))) (q_nd 38 (q_lf 38 (.inl (q_pf 41 1 1 q_ck_b))) (q_lf 41 (.inr (.inr (.inl q_rv))))))))
set_option maxRecDepth 16384 in
theorem q_sm334 {TB : Nat → Option (Nat × Nat × (Nat → Int32))} {τ : Nat → Nat} : ∀ pc x, q_t334 TB pc = some x → q_S9 TB τ q_m334 pc x := q_nd_ok (q_nd_ok (q_nd_ok (q_nd_ok (q_lf_ok (q_aload_n (qd_o42 0 0 qd_g649 rfl) rfl rfl)) (q_nd_ok (q_lf_ok (⟨q_callU (T := TJ4) (n := 4) (owner := "java/lang/AbstractStringBuilder") (x := ⟨"java/lang/AbstractStringBuilder", "isLatin1", "()Z"⟩) q_e341 (qd_o182 0 1 qd_g649 rfl rfl) rfl rfl rfl (Nat.le_of_ble_eq_true rfl) q_w1260 q_w1262 q_w1263 q_w1264 q_w1212 q_w1261 rfl (by decide +kernel), rfl⟩)) (q_lf_ok (q_if_ne (qd_o154 0 4 qd_g649 rfl rfl) (by decide) rfl)))) (q_nd_ok (q_lf_ok (q_return (qd_o177 0 7 qd_g649 rfl) rfl)) (q_nd_ok (q_lf_ok (q_aload_n (qd_o42 0 8 qd_g649 rfl) rfl rfl)) (q_lf_ok (q_getf (T := TJ4) (qd_o180 0 9 qd_g649 rfl rfl) rfl q_inJ4 (Nat.le_of_ble_eq_true rfl) q_w1240 rfl))))) (q_nd_ok (q_nd_ok (q_lf_ok (q_arraylength q_hTB rfl (qd_o190 0 12 qd_g649 rfl) rfl)) (q_nd_ok (q_lf_ok (⟨q_callS' q_e356 (qd_o184 0 13 qd_g649 rfl rfl) rfl rfl (Nat.le_of_ble_eq_true rfl) q_w1242 q_w1244 q_w1245 q_w1243 (by decide +kernel), rfl⟩)) (q_lf_ok (q_astore_n (qd_o76 0 16 qd_g649 rfl) rfl (Nat.le_of_ble_eq_true rfl) rfl)))) (q_nd_ok (q_lf_ok (q_aload_n (qd_o42 0 17 qd_g649 rfl) rfl rfl)) (q_nd_ok (q_lf_ok (q_getf (T := TJ4) (qd_o180 0 18 qd_g649 rfl rfl) rfl q_inJ4 (Nat.le_of_ble_eq_true rfl) q_w1240 rfl)) (q_lf_ok (q_iconst (qd_o3 0 21 qd_g649 rfl) qk_i0 rfl)))))) (q_nd_ok (q_nd_ok (q_nd_ok (q_lf_ok (q_aload_n (qd_o43 0 22 qd_g649 rfl) rfl rfl)) (q_nd_ok (q_lf_ok (q_iconst (qd_o3 0 23 qd_g649 rfl) qk_i0 rfl)) (q_lf_ok (q_aload_n (qd_o42 0 24 qd_g649 rfl) rfl rfl)))) (q_nd_ok (q_lf_ok (q_getf (T := TJ4) (qd_o180 0 25 qd_g649 rfl rfl) rfl q_inJ4 (Nat.le_of_ble_eq_true rfl) q_w1246 rfl)) (q_nd_ok (q_lf_ok (⟨q_callS' q_e355 (qd_o184 0 28 qd_g649 rfl rfl) rfl rfl (Nat.le_of_ble_eq_true rfl) q_w1265 q_w1267 q_w1268 q_w1266 (by decide +kernel), rfl⟩)) (q_lf_ok (q_aload_n (qd_o42 0 31 qd_g649 rfl) rfl rfl))))) (q_nd_ok (q_nd_ok (q_lf_ok (q_aload_n (qd_o43 0 32 qd_g649 rfl) rfl rfl)) (q_nd_ok (q_lf_ok (q_putf (T := TJ4) (qd_o181 0 33 qd_g649 rfl rfl) rfl q_inJ4 tyJ4_ok nmJ4 (Nat.le_of_ble_eq_true rfl) q_w1240 rfl (tyJ4_ok 0 (Nat.le_of_ble_eq_true rfl)) (q_ck_a_ok _) rfl)) (q_lf_ok (q_aload_n (qd_o42 0 36 qd_g649 rfl) rfl rfl)))) (q_nd_ok (q_lf_ok (q_iconst (qd_o4 0 37 qd_g649 rfl) qk_i1 rfl)) (q_nd_ok (q_lf_ok (q_putf (T := TJ4) (qd_o181 38 0 qd_g650 rfl rfl) rfl q_inJ4 tyJ4_ok nmJ4 (Nat.le_of_ble_eq_true rfl) q_w1241 rfl (tyJ4_ok 1 (Nat.le_of_ble_eq_true rfl)) q_ck_b_ok rfl)) (q_lf_ok (q_return (qd_o177 38 3 qd_g650 rfl) rfl))))))
/-! J5_setLength_d00df -/
set_option maxRecDepth 16384 in
noncomputable def q_t335 (TB : Nat → Option (Nat × Nat × (Nat → Int32))) : Nat → Option q_E := q_nd 41 (q_nd 19 (q_nd 8 (q_nd 1 (q_nd 0 (q_lf 0 (.inl (q_st 1 (q_fil 1)))) (q_lf 1 (.inr (.inl (q_br 13 4 (q_b1 fun x => decide (0 ≤ x))))))) (q_nd 4 (q_lf 4 (.inl (q_new 7 3 6 [.null, .null, .null, .null, .int 0, .null]))) (q_nd 7 (q_lf 7 (.inl (q_st 8 q_fdup))) (q_lf 8 (.inl (q_st 9 (q_fil 1))))))) (q_nd 14 (q_nd 13 (q_lf 13 (.inl (q_st 14 (q_fal 0)))) (q_lf 14 (.inl (q_st 15 (q_fil 1))))) (q_nd 15 (q_lf 15 (.inr (.inr (.inr (.inr (18, q_fv 332 1 1, none)))))) (q_nd 18 (q_lf 18 (.inl (q_st 19 (q_fal 0)))) (q_lf 19 (.inl (q_gf 22 1 3))))))) (q_nd 30 (q_nd 23 (q_nd 22 (q_lf 22 (.inl (q_st 23 (q_fil 1)))) (q_lf 23 (.inr (.inl (q_br 63 26 (q_b2 fun x y => decide (y ≤ x))))))) (q_nd 26 (q_lf 26 (.inl (q_st 27 (q_fal 0)))) (q_nd 27 (q_lf 27 (.inr (.inr (.inr (.inr (30, q_fv 341 0 1, none)))))) (q_lf 30 (.inr (.inl (q_br 48 33 (q_b1 fun x => decide (x = 0))))))))) (q_nd 34 (q_nd 33 (q_lf 33 (.inl (q_st 34 (q_fal 0)))) (q_lf 34 (.inl (q_gf 37 1 0)))) (q_nd 37 (q_lf 37 (.inl (q_st 38 (q_fal 0)))) (q_nd 38 (q_lf 38 (.inl (q_gf 41 1 3))) (q_lf 41 (.inl (q_st 42 (q_fil 1))))))))) (q_nd 63 (q_nd 52 (q_nd 45 (q_nd 42 (q_lf 42 (.inr (.inr (.inr (.inr (45, q_fc 354 3, none)))))) (q_lf 45 (.inl (q_st 76 fun _ st => some st)))) (q_nd 48 (q_lf 48 (.inl (q_st 49 (q_fal 0)))) (q_nd 49 (q_lf 49 (.inl (q_gf 52 1 0))) (q_lf 52 (.inl (q_st 53 (q_fal 0))))))) (q_nd 56 (q_nd 53 (q_lf 53 (.inl (q_gf 56 1 3))) (q_lf 56 (.inl (q_st 57 (q_fil 1))))) (q_nd 57 (q_lf 57 (.inr (.inr (.inr (.inr (60, q_fc 361 3, none)))))) (q_nd 60 (q_lf 60 (.inl (q_st 76 fun _ st => some st))) (q_lf 63 (.inl (q_st 64 (q_fal 0)))))))) (q_nd 72 (q_nd 67 (q_nd 64 (q_lf 64 (.inl (q_gf 67 1 3))) (q_lf 67 (.inl (q_st 68 (q_fil 1))))) (q_nd 68 (q_lf 68 (.inr (.inl (q_br 76 71 (q_b2 fun x y => decide (x ≤ y)))))) (q_nd 71 (q_lf 71 (.inl (q_st 72 (q_fal 0)))) (q_lf 72 (.inl (q_st 73 (q_fk (.int 1)))))))) (q_nd 76 (q_nd 73 (q_lf 73 (.inl (q_pf 76 1 2 q_ck_z))) (q_lf 76 (.inl (q_st 77 (q_fal 0))))) (q_nd 77 (q_lf 77 (.inl (q_st 78 (q_fil 1)))) (q_nd 78 (q_lf 78 (.inl (q_pf 81 1 3 q_ck_i))) (q_lf 81 (.inr (.inr (.inl q_rv)))))))))
set_option maxRecDepth 16384 in
theorem q_sm335 {TB : Nat → Option (Nat × Nat × (Nat → Int32))} {τ : Nat → Nat} : ∀ pc x, q_t335 TB pc = some x → q_S9 TB τ q_m335 pc x := q_nd_ok (q_nd_ok (q_nd_ok (q_nd_ok (q_nd_ok (q_lf_ok (q_iload_n (qd_o27 0 0 qd_g651 rfl) rfl rfl)) (q_lf_ok (q_if_ge (qd_o156 0 1 qd_g651 rfl rfl) (by decide) rfl))) (q_nd_ok (q_lf_ok (q_newo (T := TJx7c733) (qd_o187 0 4 qd_g651 rfl rfl) rfl q_inJx7c733 tyJx7c733_ok q_w1269 q_w1270 q_w1271 (by decide +kernel) (q_noref rfl) rfl)) (q_nd_ok (q_lf_ok (q_dup (qd_o89 0 7 qd_g651 rfl) rfl)) (q_lf_ok (q_iload_n (qd_o27 0 8 qd_g651 rfl) rfl rfl))))) (q_nd_ok (q_nd_ok (q_lf_ok (q_aload_n (qd_o42 0 13 qd_g651 rfl) rfl rfl)) (q_lf_ok (q_iload_n (qd_o27 0 14 qd_g651 rfl) rfl rfl))) (q_nd_ok (q_lf_ok (⟨q_callU (T := TJ4) (n := 4) (owner := "java/lang/AbstractStringBuilder") (x := ⟨"java/lang/AbstractStringBuilder", "ensureCapacityInternal", "(I)V"⟩) q_e332 (qd_o182 0 15 qd_g651 rfl rfl) rfl rfl rfl (Nat.le_of_ble_eq_true rfl) q_w1272 q_w1274 q_w1275 q_w1276 q_w1212 q_w1273 rfl (by decide +kernel), rfl⟩)) (q_nd_ok (q_lf_ok (q_aload_n (qd_o42 0 18 qd_g651 rfl) rfl rfl)) (q_lf_ok (q_getf (T := TJ4) (qd_o180 0 19 qd_g651 rfl rfl) rfl q_inJ4 (Nat.le_of_ble_eq_true rfl) q_w1246 rfl)))))) (q_nd_ok (q_nd_ok (q_nd_ok (q_lf_ok (q_iload_n (qd_o27 0 22 qd_g651 rfl) rfl rfl)) (q_lf_ok (q_icmp_ge (qd_o162 0 23 qd_g651 rfl rfl) (by decide) rfl))) (q_nd_ok (q_lf_ok (q_aload_n (qd_o42 0 26 qd_g651 rfl) rfl rfl)) (q_nd_ok (q_lf_ok (⟨q_callU (T := TJ4) (n := 4) (owner := "java/lang/AbstractStringBuilder") (x := ⟨"java/lang/AbstractStringBuilder", "isLatin1", "()Z"⟩) q_e341 (qd_o182 0 27 qd_g651 rfl rfl) rfl rfl rfl (Nat.le_of_ble_eq_true rfl) q_w1260 q_w1262 q_w1263 q_w1264 q_w1212 q_w1261 rfl (by decide +kernel), rfl⟩)) (q_lf_ok (q_if_eq (qd_o153 0 30 qd_g651 rfl rfl) (by decide) rfl))))) (q_nd_ok (q_nd_ok (q_lf_ok (q_aload_n (qd_o42 0 33 qd_g651 rfl) rfl rfl)) (q_lf_ok (q_getf (T := TJ4) (qd_o180 0 34 qd_g651 rfl rfl) rfl q_inJ4 (Nat.le_of_ble_eq_true rfl) q_w1240 rfl))) (q_nd_ok (q_lf_ok (q_aload_n (qd_o42 0 37 qd_g651 rfl) rfl rfl)) (q_nd_ok (q_lf_ok (q_getf (T := TJ4) (qd_o180 38 0 qd_g652 rfl rfl) rfl q_inJ4 (Nat.le_of_ble_eq_true rfl) q_w1246 rfl)) (q_lf_ok (q_iload_n (qd_o27 38 3 qd_g652 rfl) rfl rfl))))))) (q_nd_ok (q_nd_ok (q_nd_ok (q_nd_ok (q_lf_ok (⟨q_callS' q_e354 (qd_o184 38 4 qd_g652 rfl rfl) rfl rfl (Nat.le_of_ble_eq_true rfl) q_w1277 q_w1279 q_w1268 q_w1278 (by decide +kernel), rfl⟩)) (q_lf_ok (q_goto (qd_o167 38 7 qd_g652 rfl rfl) (by decide)))) (q_nd_ok (q_lf_ok (q_aload_n (qd_o42 38 10 qd_g652 rfl) rfl rfl)) (q_nd_ok (q_lf_ok (q_getf (T := TJ4) (qd_o180 38 11 qd_g652 rfl rfl) rfl q_inJ4 (Nat.le_of_ble_eq_true rfl) q_w1240 rfl)) (q_lf_ok (q_aload_n (qd_o42 38 14 qd_g652 rfl) rfl rfl))))) (q_nd_ok (q_nd_ok (q_lf_ok (q_getf (T := TJ4) (qd_o180 38 15 qd_g652 rfl rfl) rfl q_inJ4 (Nat.le_of_ble_eq_true rfl) q_w1246 rfl)) (q_lf_ok (q_iload_n (qd_o27 38 18 qd_g652 rfl) rfl rfl))) (q_nd_ok (q_lf_ok (⟨q_callS' q_e361 (qd_o184 38 19 qd_g652 rfl rfl) rfl rfl (Nat.le_of_ble_eq_true rfl) q_w1280 q_w1282 q_w1245 q_w1281 (by decide +kernel), rfl⟩)) (q_nd_ok (q_lf_ok (q_goto (qd_o167 38 22 qd_g652 rfl rfl) (by decide))) (q_lf_ok (q_aload_n (qd_o42 38 25 qd_g652 rfl) rfl rfl)))))) (q_nd_ok (q_nd_ok (q_nd_ok (q_lf_ok (q_getf (T := TJ4) (qd_o180 38 26 qd_g652 rfl rfl) rfl q_inJ4 (Nat.le_of_ble_eq_true rfl) q_w1246 rfl)) (q_lf_ok (q_iload_n (qd_o27 38 29 qd_g652 rfl) rfl rfl))) (q_nd_ok (q_lf_ok (q_icmp_le (qd_o164 38 30 qd_g652 rfl rfl) (by decide) rfl)) (q_nd_ok (q_lf_ok (q_aload_n (qd_o42 38 33 qd_g652 rfl) rfl rfl)) (q_lf_ok (q_iconst (qd_o4 38 34 qd_g652 rfl) qk_i1 rfl))))) (q_nd_ok (q_nd_ok (q_lf_ok (q_putf (T := TJ4) (qd_o181 38 35 qd_g652 rfl rfl) rfl q_inJ4 tyJ4_ok nmJ4 (Nat.le_of_ble_eq_true rfl) q_w1283 rfl (tyJ4_ok 2 (Nat.le_of_ble_eq_true rfl)) q_ck_z_ok rfl)) (q_lf_ok (q_aload_n (qd_o42 38 38 qd_g652 rfl) rfl rfl))) (q_nd_ok (q_lf_ok (q_iload_n (qd_o27 38 39 qd_g652 rfl) rfl rfl)) (q_nd_ok (q_lf_ok (q_putf (T := TJ4) (qd_o181 78 0 qd_g653 rfl rfl) rfl q_inJ4 tyJ4_ok nmJ4 (Nat.le_of_ble_eq_true rfl) q_w1246 rfl (tyJ4_ok 3 (Nat.le_of_ble_eq_true rfl)) q_ck_i_ok rfl)) (q_lf_ok (q_return (qd_o177 78 3 qd_g653 rfl) rfl)))))))
/-! J5_charAt_5068e -/
set_option maxRecDepth 16384 in
noncomputable def q_t336 (TB : Nat → Option (Nat × Nat × (Nat → Int32))) : Nat → Option q_E := q_nd 23 (q_nd 10 (q_nd 4 (q_nd 0 (q_lf 0 (.inl (q_st 1 (q_fal 0)))) (q_nd 1 (q_lf 1 (.inl (q_gf 4 1 1))) (q_lf 4 (.inl (q_lo 5 (q_fis 2)))))) (q_nd 6 (q_nd 5 (q_lf 5 (.inl (q_st 6 (q_fal 0)))) (q_lf 6 (.inl (q_gf 9 1 0)))) (q_nd 9 (q_lf 9 (.inl (q_lo 10 (q_fas 3)))) (q_lf 10 (.inl (q_st 11 (q_fal 0))))))) (q_nd 16 (q_nd 14 (q_nd 11 (q_lf 11 (.inl (q_gf 14 1 3))) (q_lf 14 (.inl (q_st 15 (q_fal 3))))) (q_nd 15 (q_lf 15 (.inl (q_aln TB 16 4))) (q_lf 16 (.inl (q_st 17 (q_fil 2)))))) (q_nd 18 (q_nd 17 (q_lf 17 (.inl (q_st 18 (q_fii fun x y => x >>> (y &&& 31))))) (q_lf 18 (.inl (q_st 21 (q_fm fun x y => if y < x then y else x))))) (q_nd 21 (q_lf 21 (.inl (q_lo 23 (q_fis 4)))) (q_lf 23 (.inl (q_st 24 (q_fil 1)))))))) (q_nd 35 (q_nd 29 (q_nd 24 (q_lf 24 (.inl (q_st 26 (q_fil 4)))) (q_nd 26 (q_lf 26 (.inr (.inr (.inr (.inr (29, q_fc 349 2, none)))))) (q_lf 29 (.inl (q_st 30 (q_fil 2)))))) (q_nd 33 (q_nd 30 (q_lf 30 (.inr (.inl (q_br 42 33 (q_b1 fun x => decide (¬ x = 0)))))) (q_lf 33 (.inl (q_st 34 (q_fal 3))))) (q_nd 34 (q_lf 34 (.inl (q_st 35 (q_fil 1)))) (q_lf 35 (.inr (.inl (q_ald TB 36 4))))))) (q_nd 41 (q_nd 39 (q_nd 36 (q_lf 36 (.inl (q_st 39 (q_fk (.int 255))))) (q_lf 39 (.inl (q_st 40 (q_fii fun x y => x &&& y))))) (q_nd 40 (q_lf 40 (.inl (q_st 41 (q_f1 q_o_i2c)))) (q_lf 41 (.inr (.inr (.inl q_rc)))))) (q_nd 43 (q_nd 42 (q_lf 42 (.inl (q_st 43 (q_fal 3)))) (q_lf 43 (.inl (q_st 44 (q_fil 1))))) (q_nd 44 (q_lf 44 (.inr (.inr (.inr (.inr (47, q_fc 359 2, none)))))) (q_lf 47 (.inr (.inr (.inl q_rc))))))))
set_option maxRecDepth 16384 in
theorem q_sm336 {TB : Nat → Option (Nat × Nat × (Nat → Int32))} {τ : Nat → Nat} : ∀ pc x, q_t336 TB pc = some x → q_S9 TB τ q_m336 pc x := q_nd_ok (q_nd_ok (q_nd_ok (q_nd_ok (q_lf_ok (q_aload_n (qd_o42 0 0 qd_g654 rfl) rfl rfl)) (q_nd_ok (q_lf_ok (q_getf (T := TJ4) (qd_o180 0 1 qd_g654 rfl rfl) rfl q_inJ4 (Nat.le_of_ble_eq_true rfl) q_w1241 rfl)) (q_lf_ok (q_istore_n (qd_o61 0 4 qd_g654 rfl) rfl (Nat.le_of_ble_eq_true rfl) rfl)))) (q_nd_ok (q_nd_ok (q_lf_ok (q_aload_n (qd_o42 0 5 qd_g654 rfl) rfl rfl)) (q_lf_ok (q_getf (T := TJ4) (qd_o180 0 6 qd_g654 rfl rfl) rfl q_inJ4 (Nat.le_of_ble_eq_true rfl) q_w1240 rfl))) (q_nd_ok (q_lf_ok (q_astore_n (qd_o78 0 9 qd_g654 rfl) rfl (Nat.le_of_ble_eq_true rfl) rfl)) (q_lf_ok (q_aload_n (qd_o42 0 10 qd_g654 rfl) rfl rfl))))) (q_nd_ok (q_nd_ok (q_nd_ok (q_lf_ok (q_getf (T := TJ4) (qd_o180 0 11 qd_g654 rfl rfl) rfl q_inJ4 (Nat.le_of_ble_eq_true rfl) q_w1246 rfl)) (q_lf_ok (q_aload_n (qd_o45 0 14 qd_g654 rfl) rfl rfl))) (q_nd_ok (q_lf_ok (q_arraylength q_hTB rfl (qd_o190 0 15 qd_g654 rfl) rfl)) (q_lf_ok (q_iload_n (qd_o28 0 16 qd_g654 rfl) rfl rfl)))) (q_nd_ok (q_nd_ok (q_lf_ok (q_ishr (qd_o122 0 17 qd_g654 rfl) rfl)) (q_lf_ok (q_mmin (qd_o184 0 18 qd_g654 rfl rfl) q_w1284 q_w969 q_w970 q_w971 rfl))) (q_nd_ok (q_lf_ok (q_istore (qd_o54 0 21 qd_g654 rfl rfl) (Nat.le_of_ble_eq_true rfl) rfl)) (q_lf_ok (q_iload_n (qd_o27 0 23 qd_g654 rfl) rfl rfl)))))) (q_nd_ok (q_nd_ok (q_nd_ok (q_lf_ok (q_iload (qd_o21 0 24 qd_g654 rfl rfl) rfl)) (q_nd_ok (q_lf_ok (⟨q_callS' q_e349 (qd_o184 0 26 qd_g654 rfl rfl) rfl rfl (Nat.le_of_ble_eq_true rfl) q_w1285 q_w1287 q_w806 q_w1286 (by decide +kernel), rfl⟩)) (q_lf_ok (q_iload_n (qd_o28 0 29 qd_g654 rfl) rfl rfl)))) (q_nd_ok (q_nd_ok (q_lf_ok (q_if_ne (qd_o154 0 30 qd_g654 rfl rfl) (by decide) rfl)) (q_lf_ok (q_aload_n (qd_o45 0 33 qd_g654 rfl) rfl rfl))) (q_nd_ok (q_lf_ok (q_iload_n (qd_o27 0 34 qd_g654 rfl) rfl rfl)) (q_lf_ok (q_baload q_hTB (qd_o51 0 35 qd_g654 rfl) rfl rfl))))) (q_nd_ok (q_nd_ok (q_nd_ok (q_lf_ok (q_sipush (qd_o17 0 36 qd_g654 rfl rfl) qk_s255 rfl)) (q_lf_ok (q_iand (qd_o126 0 39 qd_g654 rfl) rfl))) (q_nd_ok (q_lf_ok (q_i2c (qd_o146 40 0 qd_g655 rfl) rfl)) (q_lf_ok (q_creturn (qd_o172 40 1 qd_g655 rfl) rfl)))) (q_nd_ok (q_nd_ok (q_lf_ok (q_aload_n (qd_o45 40 2 qd_g655 rfl) rfl rfl)) (q_lf_ok (q_iload_n (qd_o27 40 3 qd_g655 rfl) rfl rfl))) (q_nd_ok (q_lf_ok (⟨q_callS' q_e359 (qd_o184 40 4 qd_g655 rfl rfl) rfl rfl (Nat.le_of_ble_eq_true rfl) q_w1288 q_w1290 q_w1245 q_w1289 (by decide +kernel), rfl⟩)) (q_lf_ok (q_creturn (qd_o172 40 7 qd_g655 rfl) rfl))))))
/-! J5_append_cf1ce -/
set_option maxRecDepth 16384 in
noncomputable def q_t337 (TB : Nat → Option (Nat × Nat × (Nat → Int32))) : Nat → Option q_E := q_nd 20 (q_nd 9 (q_nd 4 (q_nd 0 (q_lf 0 (.inl (q_st 1 (q_fal 1)))) (q_nd 1 (q_lf 1 (.inr (.inl (q_br 9 4 q_bnn)))) (q_lf 4 (.inl (q_st 5 (q_fal 0)))))) (q_nd 5 (q_lf 5 (.inr (.inr (.inr (.inr (8, q_fv 338 0 1, none)))))) (q_nd 8 (q_lf 8 (.inr (.inr (.inl q_ra)))) (q_lf 9 (.inl (q_st 10 (q_fal 1))))))) (q_nd 14 (q_nd 10 (q_lf 10 (.inr (.inr (.inr (.inr (13, q_fo 344 0 q_SK, none)))))) (q_nd 13 (q_lf 13 (.inl (q_lo 14 (q_fis 2)))) (q_lf 14 (.inl (q_st 15 (q_fal 0)))))) (q_nd 16 (q_nd 15 (q_lf 15 (.inl (q_st 16 (q_fal 0)))) (q_lf 16 (.inl (q_gf 19 1 3)))) (q_nd 19 (q_lf 19 (.inl (q_st 20 (q_fil 2)))) (q_lf 20 (.inl (q_st 21 (q_fii fun x y => x + y)))))))) (q_nd 33 (q_nd 25 (q_nd 21 (q_lf 21 (.inr (.inr (.inr (.inr (24, q_fv 332 1 1, none)))))) (q_nd 24 (q_lf 24 (.inl (q_st 25 (q_fal 0)))) (q_lf 25 (.inl (q_st 26 (q_fal 0)))))) (q_nd 29 (q_nd 26 (q_lf 26 (.inl (q_gf 29 1 3))) (q_lf 29 (.inl (q_st 30 (q_fal 1))))) (q_nd 30 (q_lf 30 (.inr (.inr (.inr (.inr (33, q_fv 343 2 1, none)))))) (q_lf 33 (.inl (q_st 34 (q_fal 0))))))) (q_nd 38 (q_nd 34 (q_lf 34 (.inl (q_st 35 q_fdup))) (q_nd 35 (q_lf 35 (.inl (q_gf 38 1 3))) (q_lf 38 (.inl (q_st 39 (q_fil 2)))))) (q_nd 40 (q_nd 39 (q_lf 39 (.inl (q_st 40 (q_fii fun x y => x + y)))) (q_lf 40 (.inl (q_pf 43 1 3 q_ck_i)))) (q_nd 43 (q_lf 43 (.inl (q_st 44 (q_fal 0)))) (q_lf 44 (.inr (.inr (.inl q_ra))))))))
set_option maxRecDepth 16384 in
theorem q_sm337 {TB : Nat → Option (Nat × Nat × (Nat → Int32))} {τ : Nat → Nat} : ∀ pc x, q_t337 TB pc = some x → q_S9 TB τ q_m337 pc x := q_nd_ok (q_nd_ok (q_nd_ok (q_nd_ok (q_lf_ok (q_aload_n (qd_o43 0 0 qd_g656 rfl) rfl rfl)) (q_nd_ok (q_lf_ok (q_ifnonnull (qd_o199 0 1 qd_g656 rfl rfl) (by decide) rfl)) (q_lf_ok (q_aload_n (qd_o42 0 4 qd_g656 rfl) rfl rfl)))) (q_nd_ok (q_lf_ok (⟨q_callU (T := TJ4) (n := 4) (owner := "java/lang/AbstractStringBuilder") (x := ⟨"java/lang/AbstractStringBuilder", "appendNull", "()Ljava/lang/AbstractStringBuilder;"⟩) q_e338 (qd_o182 0 5 qd_g656 rfl rfl) rfl rfl rfl (Nat.le_of_ble_eq_true rfl) q_w1291 q_w1293 q_w1294 q_w1295 q_w1212 q_w1292 rfl (by decide +kernel), rfl⟩)) (q_nd_ok (q_lf_ok (q_areturn (qd_o176 0 8 qd_g656 rfl) rfl (Or.inl ⟨_, rfl⟩))) (q_lf_ok (q_aload_n (qd_o43 0 9 qd_g656 rfl) rfl rfl))))) (q_nd_ok (q_nd_ok (q_lf_ok (⟨q_callO q_SK_lo (fun _ _ _ h x hx => h.2.2.2.2.2.2.2.2.2 _ (List.mem_map.mpr ⟨x, hx, rfl⟩)) q_e344 (qd_o182 0 10 qd_g656 rfl rfl) rfl rfl (Nat.le_of_ble_eq_true rfl) q_w1296 q_w804 q_w805 q_w806 q_w803 (by decide +kernel), rfl⟩)) (q_nd_ok (q_lf_ok (q_istore_n (qd_o61 0 13 qd_g656 rfl) rfl (Nat.le_of_ble_eq_true rfl) rfl)) (q_lf_ok (q_aload_n (qd_o42 0 14 qd_g656 rfl) rfl rfl)))) (q_nd_ok (q_nd_ok (q_lf_ok (q_aload_n (qd_o42 0 15 qd_g656 rfl) rfl rfl)) (q_lf_ok (q_getf (T := TJ4) (qd_o180 0 16 qd_g656 rfl rfl) rfl q_inJ4 (Nat.le_of_ble_eq_true rfl) q_w1246 rfl))) (q_nd_ok (q_lf_ok (q_iload_n (qd_o28 0 19 qd_g656 rfl) rfl rfl)) (q_lf_ok (q_iadd (qd_o96 0 20 qd_g656 rfl) rfl)))))) (q_nd_ok (q_nd_ok (q_nd_ok (q_lf_ok (⟨q_callU (T := TJ4) (n := 4) (owner := "java/lang/AbstractStringBuilder") (x := ⟨"java/lang/AbstractStringBuilder", "ensureCapacityInternal", "(I)V"⟩) q_e332 (qd_o182 0 21 qd_g656 rfl rfl) rfl rfl rfl (Nat.le_of_ble_eq_true rfl) q_w1272 q_w1274 q_w1275 q_w1276 q_w1212 q_w1273 rfl (by decide +kernel), rfl⟩)) (q_nd_ok (q_lf_ok (q_aload_n (qd_o42 0 24 qd_g656 rfl) rfl rfl)) (q_lf_ok (q_aload_n (qd_o42 0 25 qd_g656 rfl) rfl rfl)))) (q_nd_ok (q_nd_ok (q_lf_ok (q_getf (T := TJ4) (qd_o180 0 26 qd_g656 rfl rfl) rfl q_inJ4 (Nat.le_of_ble_eq_true rfl) q_w1246 rfl)) (q_lf_ok (q_aload_n (qd_o43 0 29 qd_g656 rfl) rfl rfl))) (q_nd_ok (q_lf_ok (⟨q_callU (T := TJ4) (n := 4) (owner := "java/lang/AbstractStringBuilder") (x := ⟨"java/lang/AbstractStringBuilder", "putStringAt", "(ILjava/lang/String;)V"⟩) q_e343 (qd_o182 0 30 qd_g656 rfl rfl) rfl rfl rfl (Nat.le_of_ble_eq_true rfl) q_w1297 q_w1299 q_w1300 q_w1301 q_w1212 q_w1298 rfl (by decide +kernel), rfl⟩)) (q_lf_ok (q_aload_n (qd_o42 0 33 qd_g656 rfl) rfl rfl))))) (q_nd_ok (q_nd_ok (q_lf_ok (q_dup (qd_o89 0 34 qd_g656 rfl) rfl)) (q_nd_ok (q_lf_ok (q_getf (T := TJ4) (qd_o180 0 35 qd_g656 rfl rfl) rfl q_inJ4 (Nat.le_of_ble_eq_true rfl) q_w1246 rfl)) (q_lf_ok (q_iload_n (qd_o28 0 38 qd_g656 rfl) rfl rfl)))) (q_nd_ok (q_nd_ok (q_lf_ok (q_iadd (qd_o96 0 39 qd_g656 rfl) rfl)) (q_lf_ok (q_putf (T := TJ4) (qd_o181 40 0 qd_g657 rfl rfl) rfl q_inJ4 tyJ4_ok nmJ4 (Nat.le_of_ble_eq_true rfl) q_w1246 rfl (tyJ4_ok 3 (Nat.le_of_ble_eq_true rfl)) q_ck_i_ok rfl))) (q_nd_ok (q_lf_ok (q_aload_n (qd_o42 40 3 qd_g657 rfl) rfl rfl)) (q_lf_ok (q_areturn (qd_o176 40 4 qd_g657 rfl) rfl (Or.inl ⟨_, rfl⟩)))))))
/-! J5_appendNull_278bc -/
set_option maxRecDepth 16384 in
noncomputable def q_t338 (TB : Nat → Option (Nat × Nat × (Nat → Int32))) : Nat → Option q_E := q_nd 40 (q_nd 19 (q_nd 7 (q_nd 2 (q_nd 0 (q_lf 0 (.inl (q_st 1 (q_fal 0)))) (q_nd 1 (q_lf 1 (.inl (q_st 2 (q_fal 0)))) (q_lf 2 (.inl (q_gf 5 1 3))))) (q_nd 5 (q_lf 5 (.inl (q_st 6 (q_fk (.int 4))))) (q_nd 6 (q_lf 6 (.inl (q_st 7 (q_fii fun x y => x + y)))) (q_lf 7 (.inr (.inr (.inr (.inr (10, q_fv 332 1 1, none))))))))) (q_nd 14 (q_nd 10 (q_lf 10 (.inl (q_st 11 (q_fal 0)))) (q_nd 11 (q_lf 11 (.inl (q_gf 14 1 3))) (q_lf 14 (.inl (q_lo 15 (q_fis 1)))))) (q_nd 15 (q_lf 15 (.inl (q_st 16 (q_fal 0)))) (q_nd 16 (q_lf 16 (.inl (q_gf 19 1 0))) (q_lf 19 (.inl (q_lo 20 (q_fas 2)))))))) (q_nd 29 (q_nd 24 (q_nd 20 (q_lf 20 (.inl (q_st 21 (q_fal 0)))) (q_nd 21 (q_lf 21 (.inr (.inr (.inr (.inr (24, q_fv 341 0 1, none)))))) (q_lf 24 (.inr (.inl (q_br 62 27 (q_b1 fun x => decide (x = 0)))))))) (q_nd 27 (q_lf 27 (.inl (q_st 28 (q_fal 2)))) (q_nd 28 (q_lf 28 (.inl (q_st 29 (q_fil 1)))) (q_lf 29 (.inl (q_lo 32 (q_finc 1 1))))))) (q_nd 35 (q_nd 32 (q_lf 32 (.inl (q_st 34 (q_fk (.int 110))))) (q_nd 34 (q_lf 34 (.inr (.inl (q_ast 35 4 (vp_nar .byte))))) (q_lf 35 (.inl (q_st 36 (q_fal 2)))))) (q_nd 36 (q_lf 36 (.inl (q_st 37 (q_fil 1)))) (q_nd 37 (q_lf 37 (.inl (q_lo 40 (q_finc 1 1)))) (q_lf 40 (.inl (q_st 42 (q_fk (.int 117)))))))))) (q_nd 59 (q_nd 50 (q_nd 44 (q_nd 42 (q_lf 42 (.inr (.inl (q_ast 43 4 (vp_nar .byte))))) (q_nd 43 (q_lf 43 (.inl (q_st 44 (q_fal 2)))) (q_lf 44 (.inl (q_st 45 (q_fil 1)))))) (q_nd 45 (q_lf 45 (.inl (q_lo 48 (q_finc 1 1)))) (q_nd 48 (q_lf 48 (.inl (q_st 50 (q_fk (.int 108))))) (q_lf 50 (.inr (.inl (q_ast 51 4 (vp_nar .byte)))))))) (q_nd 53 (q_nd 51 (q_lf 51 (.inl (q_st 52 (q_fal 2)))) (q_nd 52 (q_lf 52 (.inl (q_st 53 (q_fil 1)))) (q_lf 53 (.inl (q_lo 56 (q_finc 1 1)))))) (q_nd 56 (q_lf 56 (.inl (q_st 58 (q_fk (.int 108))))) (q_nd 58 (q_lf 58 (.inr (.inl (q_ast 59 4 (vp_nar .byte))))) (q_lf 59 (.inl (q_st 76 fun _ st => some st))))))) (q_nd 70 (q_nd 64 (q_nd 62 (q_lf 62 (.inl (q_st 63 (q_fal 2)))) (q_nd 63 (q_lf 63 (.inl (q_st 64 (q_fil 1)))) (q_lf 64 (.inl (q_st 66 (q_fk (.int 110))))))) (q_nd 66 (q_lf 66 (.inl (q_st 68 (q_fk (.int 117))))) (q_nd 68 (q_lf 68 (.inl (q_st 70 (q_fk (.int 108))))) (q_lf 70 (.inl (q_st 72 (q_fk (.int 108)))))))) (q_nd 76 (q_nd 72 (q_lf 72 (.inr (.inr (.inr (.inr (75, q_fc 364 6, none)))))) (q_nd 75 (q_lf 75 (.inl (q_lo 76 (q_fis 1)))) (q_lf 76 (.inl (q_st 77 (q_fal 0)))))) (q_nd 78 (q_nd 77 (q_lf 77 (.inl (q_st 78 (q_fil 1)))) (q_lf 78 (.inl (q_pf 81 1 3 q_ck_i)))) (q_nd 81 (q_lf 81 (.inl (q_st 82 (q_fal 0)))) (q_lf 82 (.inr (.inr (.inl q_ra)))))))))
set_option maxRecDepth 16384 in
theorem q_sm338 {TB : Nat → Option (Nat × Nat × (Nat → Int32))} {τ : Nat → Nat} : ∀ pc x, q_t338 TB pc = some x → q_S9 TB τ q_m338 pc x := q_nd_ok (q_nd_ok (q_nd_ok (q_nd_ok (q_nd_ok (q_lf_ok (q_aload_n (qd_o42 0 0 qd_g658 rfl) rfl rfl)) (q_nd_ok (q_lf_ok (q_aload_n (qd_o42 0 1 qd_g658 rfl) rfl rfl)) (q_lf_ok (q_getf (T := TJ4) (qd_o180 0 2 qd_g658 rfl rfl) rfl q_inJ4 (Nat.le_of_ble_eq_true rfl) q_w1246 rfl)))) (q_nd_ok (q_lf_ok (q_iconst (qd_o7 0 5 qd_g658 rfl) qk_i4 rfl)) (q_nd_ok (q_lf_ok (q_iadd (qd_o96 0 6 qd_g658 rfl) rfl)) (q_lf_ok (⟨q_callU (T := TJ4) (n := 4) (owner := "java/lang/AbstractStringBuilder") (x := ⟨"java/lang/AbstractStringBuilder", "ensureCapacityInternal", "(I)V"⟩) q_e332 (qd_o182 0 7 qd_g658 rfl rfl) rfl rfl rfl (Nat.le_of_ble_eq_true rfl) q_w1272 q_w1274 q_w1275 q_w1276 q_w1212 q_w1273 rfl (by decide +kernel), rfl⟩))))) (q_nd_ok (q_nd_ok (q_lf_ok (q_aload_n (qd_o42 0 10 qd_g658 rfl) rfl rfl)) (q_nd_ok (q_lf_ok (q_getf (T := TJ4) (qd_o180 0 11 qd_g658 rfl rfl) rfl q_inJ4 (Nat.le_of_ble_eq_true rfl) q_w1246 rfl)) (q_lf_ok (q_istore_n (qd_o60 0 14 qd_g658 rfl) rfl (Nat.le_of_ble_eq_true rfl) rfl)))) (q_nd_ok (q_lf_ok (q_aload_n (qd_o42 0 15 qd_g658 rfl) rfl rfl)) (q_nd_ok (q_lf_ok (q_getf (T := TJ4) (qd_o180 0 16 qd_g658 rfl rfl) rfl q_inJ4 (Nat.le_of_ble_eq_true rfl) q_w1240 rfl)) (q_lf_ok (q_astore_n (qd_o77 0 19 qd_g658 rfl) rfl (Nat.le_of_ble_eq_true rfl) rfl)))))) (q_nd_ok (q_nd_ok (q_nd_ok (q_lf_ok (q_aload_n (qd_o42 0 20 qd_g658 rfl) rfl rfl)) (q_nd_ok (q_lf_ok (⟨q_callU (T := TJ4) (n := 4) (owner := "java/lang/AbstractStringBuilder") (x := ⟨"java/lang/AbstractStringBuilder", "isLatin1", "()Z"⟩) q_e341 (qd_o182 0 21 qd_g658 rfl rfl) rfl rfl rfl (Nat.le_of_ble_eq_true rfl) q_w1260 q_w1262 q_w1263 q_w1264 q_w1212 q_w1261 rfl (by decide +kernel), rfl⟩)) (q_lf_ok (q_if_eq (qd_o153 0 24 qd_g658 rfl rfl) (by decide) rfl)))) (q_nd_ok (q_lf_ok (q_aload_n (qd_o44 0 27 qd_g658 rfl) rfl rfl)) (q_nd_ok (q_lf_ok (q_iload_n (qd_o27 0 28 qd_g658 rfl) rfl rfl)) (q_lf_ok (q_iinc (qd_o132 0 29 qd_g658 rfl rfl) qk_i1 (Nat.le_of_ble_eq_true rfl) rfl))))) (q_nd_ok (q_nd_ok (q_lf_ok (q_bipush (qd_o16 0 32 qd_g658 rfl rfl) qk_b110 rfl)) (q_nd_ok (q_lf_ok (q_bastore (qd_o84 0 34 qd_g658 rfl) rfl rfl)) (q_lf_ok (q_aload_n (qd_o44 0 35 qd_g658 rfl) rfl rfl)))) (q_nd_ok (q_lf_ok (q_iload_n (qd_o27 0 36 qd_g658 rfl) rfl rfl)) (q_nd_ok (q_lf_ok (q_iinc (qd_o132 0 37 qd_g658 rfl rfl) qk_i1 (Nat.le_of_ble_eq_true rfl) rfl)) (q_lf_ok (q_bipush (qd_o16 40 0 qd_g659 rfl rfl) qk_b117 rfl))))))) (q_nd_ok (q_nd_ok (q_nd_ok (q_nd_ok (q_lf_ok (q_bastore (qd_o84 40 2 qd_g659 rfl) rfl rfl)) (q_nd_ok (q_lf_ok (q_aload_n (qd_o44 40 3 qd_g659 rfl) rfl rfl)) (q_lf_ok (q_iload_n (qd_o27 40 4 qd_g659 rfl) rfl rfl)))) (q_nd_ok (q_lf_ok (q_iinc (qd_o132 40 5 qd_g659 rfl rfl) qk_i1 (Nat.le_of_ble_eq_true rfl) rfl)) (q_nd_ok (q_lf_ok (q_bipush (qd_o16 40 8 qd_g659 rfl rfl) qk_b108 rfl)) (q_lf_ok (q_bastore (qd_o84 40 10 qd_g659 rfl) rfl rfl))))) (q_nd_ok (q_nd_ok (q_lf_ok (q_aload_n (qd_o44 40 11 qd_g659 rfl) rfl rfl)) (q_nd_ok (q_lf_ok (q_iload_n (qd_o27 40 12 qd_g659 rfl) rfl rfl)) (q_lf_ok (q_iinc (qd_o132 40 13 qd_g659 rfl rfl) qk_i1 (Nat.le_of_ble_eq_true rfl) rfl)))) (q_nd_ok (q_lf_ok (q_bipush (qd_o16 40 16 qd_g659 rfl rfl) qk_b108 rfl)) (q_nd_ok (q_lf_ok (q_bastore (qd_o84 40 18 qd_g659 rfl) rfl rfl)) (q_lf_ok (q_goto (qd_o167 40 19 qd_g659 rfl rfl) (by decide))))))) (q_nd_ok (q_nd_ok (q_nd_ok (q_lf_ok (q_aload_n (qd_o44 40 22 qd_g659 rfl) rfl rfl)) (q_nd_ok (q_lf_ok (q_iload_n (qd_o27 40 23 qd_g659 rfl) rfl rfl)) (q_lf_ok (q_bipush (qd_o16 40 24 qd_g659 rfl rfl) qk_b110 rfl)))) (q_nd_ok (q_lf_ok (q_bipush (qd_o16 40 26 qd_g659 rfl rfl) qk_b117 rfl)) (q_nd_ok (q_lf_ok (q_bipush (qd_o16 40 28 qd_g659 rfl rfl) qk_b108 rfl)) (q_lf_ok (q_bipush (qd_o16 40 30 qd_g659 rfl rfl) qk_b108 rfl))))) (q_nd_ok (q_nd_ok (q_lf_ok (⟨q_callS' q_e364 (qd_o184 40 32 qd_g659 rfl rfl) rfl rfl (Nat.le_of_ble_eq_true rfl) q_w1302 q_w1304 q_w1245 q_w1303 (by decide +kernel), rfl⟩)) (q_nd_ok (q_lf_ok (q_istore_n (qd_o60 40 35 qd_g659 rfl) rfl (Nat.le_of_ble_eq_true rfl) rfl)) (q_lf_ok (q_aload_n (qd_o42 40 36 qd_g659 rfl) rfl rfl)))) (q_nd_ok (q_nd_ok (q_lf_ok (q_iload_n (qd_o27 40 37 qd_g659 rfl) rfl rfl)) (q_lf_ok (q_putf (T := TJ4) (qd_o181 78 0 qd_g660 rfl rfl) rfl q_inJ4 tyJ4_ok nmJ4 (Nat.le_of_ble_eq_true rfl) q_w1246 rfl (tyJ4_ok 3 (Nat.le_of_ble_eq_true rfl)) q_ck_i_ok rfl))) (q_nd_ok (q_lf_ok (q_aload_n (qd_o42 78 3 qd_g660 rfl) rfl rfl)) (q_lf_ok (q_areturn (qd_o176 78 4 qd_g660 rfl) rfl (Or.inl ⟨_, rfl⟩))))))))
/-! J5_append_3fe6f -/
set_option maxRecDepth 16384 in
noncomputable def q_t339 (TB : Nat → Option (Nat × Nat × (Nat → Int32))) : Nat → Option q_E := q_nd 36 (q_nd 17 (q_nd 6 (q_nd 1 (q_nd 0 (q_lf 0 (.inl (q_st 1 (q_fal 0)))) (q_lf 1 (.inl (q_st 2 (q_fal 0))))) (q_nd 2 (q_lf 2 (.inl (q_gf 5 1 3))) (q_nd 5 (q_lf 5 (.inl (q_st 6 (q_fk (.int 1))))) (q_lf 6 (.inl (q_st 7 (q_fii fun x y => x + y))))))) (q_nd 10 (q_nd 7 (q_lf 7 (.inr (.inr (.inr (.inr (10, q_fv 332 1 1, none)))))) (q_lf 10 (.inl (q_st 11 (q_fal 0))))) (q_nd 11 (q_lf 11 (.inr (.inr (.inr (.inr (14, q_fv 341 0 1, none)))))) (q_nd 14 (q_lf 14 (.inr (.inl (q_br 45 17 (q_b1 fun x => decide (x = 0)))))) (q_lf 17 (.inl (q_st 18 (q_fil 1)))))))) (q_nd 28 (q_nd 21 (q_nd 18 (q_lf 18 (.inr (.inr (.inr (.inr (21, q_fc 353 1, none)))))) (q_lf 21 (.inr (.inl (q_br 45 24 (q_b1 fun x => decide (x = 0))))))) (q_nd 24 (q_lf 24 (.inl (q_st 25 (q_fal 0)))) (q_nd 25 (q_lf 25 (.inl (q_gf 28 1 0))) (q_lf 28 (.inl (q_st 29 (q_fal 0))))))) (q_nd 33 (q_nd 29 (q_lf 29 (.inl (q_st 30 q_fdup))) (q_nd 30 (q_lf 30 (.inl (q_gf 33 1 3))) (q_lf 33 (.inl (q_st 34 q_fdupx1))))) (q_nd 34 (q_lf 34 (.inl (q_st 35 (q_fk (.int 1))))) (q_nd 35 (q_lf 35 (.inl (q_st 36 (q_fii fun x y => x + y)))) (q_lf 36 (.inl (q_pf 39 1 3 q_ck_i)))))))) (q_nd 57 (q_nd 45 (q_nd 40 (q_nd 39 (q_lf 39 (.inl (q_st 40 (q_fil 1)))) (q_lf 40 (.inl (q_st 41 (q_f1 q_o_i2b))))) (q_nd 41 (q_lf 41 (.inr (.inl (q_ast 42 4 (vp_nar .byte))))) (q_nd 42 (q_lf 42 (.inl (q_st 75 fun _ st => some st))) (q_lf 45 (.inl (q_st 46 (q_fal 0))))))) (q_nd 52 (q_nd 46 (q_lf 46 (.inr (.inr (.inr (.inr (49, q_fv 341 0 1, none)))))) (q_nd 49 (q_lf 49 (.inr (.inl (q_br 56 52 (q_b1 fun x => decide (x = 0)))))) (q_lf 52 (.inl (q_st 53 (q_fal 0)))))) (q_nd 53 (q_lf 53 (.inr (.inr (.inr (.inr (56, q_fv 334 0 1, none)))))) (q_nd 56 (q_lf 56 (.inl (q_st 57 (q_fal 0)))) (q_lf 57 (.inl (q_gf 60 1 0))))))) (q_nd 66 (q_nd 61 (q_nd 60 (q_lf 60 (.inl (q_st 61 (q_fal 0)))) (q_lf 61 (.inl (q_st 62 q_fdup)))) (q_nd 62 (q_lf 62 (.inl (q_gf 65 1 3))) (q_nd 65 (q_lf 65 (.inl (q_st 66 q_fdupx1))) (q_lf 66 (.inl (q_st 67 (q_fk (.int 1)))))))) (q_nd 71 (q_nd 67 (q_lf 67 (.inl (q_st 68 (q_fii fun x y => x + y)))) (q_nd 68 (q_lf 68 (.inl (q_pf 71 1 3 q_ck_i))) (q_lf 71 (.inl (q_st 72 (q_fil 1)))))) (q_nd 72 (q_lf 72 (.inr (.inr (.inr (.inr (75, q_fc 362 3, none)))))) (q_nd 75 (q_lf 75 (.inl (q_st 76 (q_fal 0)))) (q_lf 76 (.inr (.inr (.inl q_ra)))))))))
set_option maxRecDepth 16384 in
theorem q_sm339 {TB : Nat → Option (Nat × Nat × (Nat → Int32))} {τ : Nat → Nat} : ∀ pc x, q_t339 TB pc = some x → q_S9 TB τ q_m339 pc x := q_nd_ok (q_nd_ok (q_nd_ok (q_nd_ok (q_nd_ok (q_lf_ok (q_aload_n (qd_o42 0 0 qd_g661 rfl) rfl rfl)) (q_lf_ok (q_aload_n (qd_o42 0 1 qd_g661 rfl) rfl rfl))) (q_nd_ok (q_lf_ok (q_getf (T := TJ4) (qd_o180 0 2 qd_g661 rfl rfl) rfl q_inJ4 (Nat.le_of_ble_eq_true rfl) q_w1246 rfl)) (q_nd_ok (q_lf_ok (q_iconst (qd_o4 0 5 qd_g661 rfl) qk_i1 rfl)) (q_lf_ok (q_iadd (qd_o96 0 6 qd_g661 rfl) rfl))))) (q_nd_ok (q_nd_ok (q_lf_ok (⟨q_callU (T := TJ4) (n := 4) (owner := "java/lang/AbstractStringBuilder") (x := ⟨"java/lang/AbstractStringBuilder", "ensureCapacityInternal", "(I)V"⟩) q_e332 (qd_o182 0 7 qd_g661 rfl rfl) rfl rfl rfl (Nat.le_of_ble_eq_true rfl) q_w1272 q_w1274 q_w1275 q_w1276 q_w1212 q_w1273 rfl (by decide +kernel), rfl⟩)) (q_lf_ok (q_aload_n (qd_o42 0 10 qd_g661 rfl) rfl rfl))) (q_nd_ok (q_lf_ok (⟨q_callU (T := TJ4) (n := 4) (owner := "java/lang/AbstractStringBuilder") (x := ⟨"java/lang/AbstractStringBuilder", "isLatin1", "()Z"⟩) q_e341 (qd_o182 0 11 qd_g661 rfl rfl) rfl rfl rfl (Nat.le_of_ble_eq_true rfl) q_w1260 q_w1262 q_w1263 q_w1264 q_w1212 q_w1261 rfl (by decide +kernel), rfl⟩)) (q_nd_ok (q_lf_ok (q_if_eq (qd_o153 0 14 qd_g661 rfl rfl) (by decide) rfl)) (q_lf_ok (q_iload_n (qd_o27 0 17 qd_g661 rfl) rfl rfl)))))) (q_nd_ok (q_nd_ok (q_nd_ok (q_lf_ok (⟨q_callS' q_e353 (qd_o184 0 18 qd_g661 rfl rfl) rfl rfl (Nat.le_of_ble_eq_true rfl) q_w1305 q_w1307 q_w1268 q_w1306 (by decide +kernel), rfl⟩)) (q_lf_ok (q_if_eq (qd_o153 0 21 qd_g661 rfl rfl) (by decide) rfl))) (q_nd_ok (q_lf_ok (q_aload_n (qd_o42 0 24 qd_g661 rfl) rfl rfl)) (q_nd_ok (q_lf_ok (q_getf (T := TJ4) (qd_o180 0 25 qd_g661 rfl rfl) rfl q_inJ4 (Nat.le_of_ble_eq_true rfl) q_w1240 rfl)) (q_lf_ok (q_aload_n (qd_o42 0 28 qd_g661 rfl) rfl rfl))))) (q_nd_ok (q_nd_ok (q_lf_ok (q_dup (qd_o89 0 29 qd_g661 rfl) rfl)) (q_nd_ok (q_lf_ok (q_getf (T := TJ4) (qd_o180 0 30 qd_g661 rfl rfl) rfl q_inJ4 (Nat.le_of_ble_eq_true rfl) q_w1246 rfl)) (q_lf_ok (q_dup_x1 (qd_o90 0 33 qd_g661 rfl) rfl)))) (q_nd_ok (q_lf_ok (q_iconst (qd_o4 0 34 qd_g661 rfl) qk_i1 rfl)) (q_nd_ok (q_lf_ok (q_iadd (qd_o96 0 35 qd_g661 rfl) rfl)) (q_lf_ok (q_putf (T := TJ4) (qd_o181 0 36 qd_g661 rfl rfl) rfl q_inJ4 tyJ4_ok nmJ4 (Nat.le_of_ble_eq_true rfl) q_w1246 rfl (tyJ4_ok 3 (Nat.le_of_ble_eq_true rfl)) q_ck_i_ok rfl))))))) (q_nd_ok (q_nd_ok (q_nd_ok (q_nd_ok (q_lf_ok (q_iload_n (qd_o27 0 39 qd_g661 rfl) rfl rfl)) (q_lf_ok (q_i2b (qd_o145 40 0 qd_g662 rfl) rfl))) (q_nd_ok (q_lf_ok (q_bastore (qd_o84 40 1 qd_g662 rfl) rfl rfl)) (q_nd_ok (q_lf_ok (q_goto (qd_o167 40 2 qd_g662 rfl rfl) (by decide))) (q_lf_ok (q_aload_n (qd_o42 40 5 qd_g662 rfl) rfl rfl))))) (q_nd_ok (q_nd_ok (q_lf_ok (⟨q_callU (T := TJ4) (n := 4) (owner := "java/lang/AbstractStringBuilder") (x := ⟨"java/lang/AbstractStringBuilder", "isLatin1", "()Z"⟩) q_e341 (qd_o182 40 6 qd_g662 rfl rfl) rfl rfl rfl (Nat.le_of_ble_eq_true rfl) q_w1260 q_w1262 q_w1263 q_w1264 q_w1212 q_w1261 rfl (by decide +kernel), rfl⟩)) (q_nd_ok (q_lf_ok (q_if_eq (qd_o153 40 9 qd_g662 rfl rfl) (by decide) rfl)) (q_lf_ok (q_aload_n (qd_o42 40 12 qd_g662 rfl) rfl rfl)))) (q_nd_ok (q_lf_ok (⟨q_callU (T := TJ4) (n := 4) (owner := "java/lang/AbstractStringBuilder") (x := ⟨"java/lang/AbstractStringBuilder", "inflate", "()V"⟩) q_e334 (qd_o182 40 13 qd_g662 rfl rfl) rfl rfl rfl (Nat.le_of_ble_eq_true rfl) q_w1308 q_w1310 q_w1311 q_w1312 q_w1212 q_w1309 rfl (by decide +kernel), rfl⟩)) (q_nd_ok (q_lf_ok (q_aload_n (qd_o42 40 16 qd_g662 rfl) rfl rfl)) (q_lf_ok (q_getf (T := TJ4) (qd_o180 40 17 qd_g662 rfl rfl) rfl q_inJ4 (Nat.le_of_ble_eq_true rfl) q_w1240 rfl)))))) (q_nd_ok (q_nd_ok (q_nd_ok (q_lf_ok (q_aload_n (qd_o42 40 20 qd_g662 rfl) rfl rfl)) (q_lf_ok (q_dup (qd_o89 40 21 qd_g662 rfl) rfl))) (q_nd_ok (q_lf_ok (q_getf (T := TJ4) (qd_o180 40 22 qd_g662 rfl rfl) rfl q_inJ4 (Nat.le_of_ble_eq_true rfl) q_w1246 rfl)) (q_nd_ok (q_lf_ok (q_dup_x1 (qd_o90 40 25 qd_g662 rfl) rfl)) (q_lf_ok (q_iconst (qd_o4 40 26 qd_g662 rfl) qk_i1 rfl))))) (q_nd_ok (q_nd_ok (q_lf_ok (q_iadd (qd_o96 40 27 qd_g662 rfl) rfl)) (q_nd_ok (q_lf_ok (q_putf (T := TJ4) (qd_o181 40 28 qd_g662 rfl rfl) rfl q_inJ4 tyJ4_ok nmJ4 (Nat.le_of_ble_eq_true rfl) q_w1246 rfl (tyJ4_ok 3 (Nat.le_of_ble_eq_true rfl)) q_ck_i_ok rfl)) (q_lf_ok (q_iload_n (qd_o27 40 31 qd_g662 rfl) rfl rfl)))) (q_nd_ok (q_lf_ok (⟨q_callS' q_e362 (qd_o184 40 32 qd_g662 rfl rfl) rfl rfl (Nat.le_of_ble_eq_true rfl) q_w1313 q_w1315 q_w1245 q_w1314 (by decide +kernel), rfl⟩)) (q_nd_ok (q_lf_ok (q_aload_n (qd_o42 40 35 qd_g662 rfl) rfl rfl)) (q_lf_ok (q_areturn (qd_o176 40 36 qd_g662 rfl) rfl (Or.inl ⟨_, rfl⟩))))))))
/-! J5_append_c97b9 -/
set_option maxRecDepth 16384 in
noncomputable def q_t340 (TB : Nat → Option (Nat × Nat × (Nat → Int32))) : Nat → Option q_E := q_nd 25 (q_nd 11 (q_nd 5 (q_nd 1 (q_nd 0 (q_lf 0 (.inl (q_st 1 (q_fal 0)))) (q_lf 1 (.inl (q_gf 4 1 3)))) (q_nd 4 (q_lf 4 (.inl (q_lo 5 (q_fis 2)))) (q_lf 5 (.inl (q_st 6 (q_fil 2)))))) (q_nd 7 (q_nd 6 (q_lf 6 (.inl (q_st 7 (q_fil 1)))) (q_lf 7 (.inr (.inr (.inr (.inr (10, q_fc 321 1, none))))))) (q_nd 10 (q_lf 10 (.inl (q_st 11 (q_fii fun x y => x + y)))) (q_lf 11 (.inl (q_lo 12 (q_fis 3))))))) (q_nd 17 (q_nd 13 (q_nd 12 (q_lf 12 (.inl (q_st 13 (q_fal 0)))) (q_lf 13 (.inl (q_st 14 (q_fil 3))))) (q_nd 14 (q_lf 14 (.inr (.inr (.inr (.inr (17, q_fv 332 1 1, none)))))) (q_lf 17 (.inl (q_st 18 (q_fal 0)))))) (q_nd 21 (q_nd 18 (q_lf 18 (.inr (.inr (.inr (.inr (21, q_fv 341 0 1, none)))))) (q_lf 21 (.inr (.inl (q_br 37 24 (q_b1 fun x => decide (x = 0))))))) (q_nd 24 (q_lf 24 (.inl (q_st 25 (q_fil 1)))) (q_lf 25 (.inl (q_st 26 (q_fil 3)))))))) (q_nd 39 (q_nd 33 (q_nd 27 (q_nd 26 (q_lf 26 (.inl (q_st 27 (q_fal 0)))) (q_lf 27 (.inl (q_gf 30 1 0)))) (q_nd 30 (q_lf 30 (.inr (.inr (.inr (.inr (33, q_fc 320 3, none)))))) (q_lf 33 (.inl (q_st 34 q_fpop))))) (q_nd 37 (q_nd 34 (q_lf 34 (.inl (q_st 48 fun _ st => some st))) (q_lf 37 (.inl (q_st 38 (q_fil 1))))) (q_nd 38 (q_lf 38 (.inl (q_st 39 (q_fil 2)))) (q_lf 39 (.inl (q_st 40 (q_fil 3))))))) (q_nd 47 (q_nd 41 (q_nd 40 (q_lf 40 (.inl (q_st 41 (q_fal 0)))) (q_lf 41 (.inl (q_gf 44 1 0)))) (q_nd 44 (q_lf 44 (.inr (.inr (.inr (.inr (47, q_fc 363 4, none)))))) (q_lf 47 (.inl (q_st 48 q_fpop))))) (q_nd 49 (q_nd 48 (q_lf 48 (.inl (q_st 49 (q_fal 0)))) (q_lf 49 (.inl (q_st 50 (q_fil 3))))) (q_nd 50 (q_lf 50 (.inl (q_pf 53 1 3 q_ck_i))) (q_nd 53 (q_lf 53 (.inl (q_st 54 (q_fal 0)))) (q_lf 54 (.inr (.inr (.inl q_ra)))))))))
set_option maxRecDepth 16384 in
theorem q_sm340 {TB : Nat → Option (Nat × Nat × (Nat → Int32))} {τ : Nat → Nat} : ∀ pc x, q_t340 TB pc = some x → q_S9 TB τ q_m340 pc x := q_nd_ok (q_nd_ok (q_nd_ok (q_nd_ok (q_nd_ok (q_lf_ok (q_aload_n (qd_o42 0 0 qd_g663 rfl) rfl rfl)) (q_lf_ok (q_getf (T := TJ4) (qd_o180 0 1 qd_g663 rfl rfl) rfl q_inJ4 (Nat.le_of_ble_eq_true rfl) q_w1246 rfl))) (q_nd_ok (q_lf_ok (q_istore_n (qd_o61 0 4 qd_g663 rfl) rfl (Nat.le_of_ble_eq_true rfl) rfl)) (q_lf_ok (q_iload_n (qd_o28 0 5 qd_g663 rfl) rfl rfl)))) (q_nd_ok (q_nd_ok (q_lf_ok (q_iload_n (qd_o27 0 6 qd_g663 rfl) rfl rfl)) (q_lf_ok (⟨q_callS' q_e321 (qd_o184 0 7 qd_g663 rfl rfl) rfl rfl (Nat.le_of_ble_eq_true rfl) q_w1316 q_w1318 q_w580 q_w1317 (by decide +kernel), rfl⟩))) (q_nd_ok (q_lf_ok (q_iadd (qd_o96 0 10 qd_g663 rfl) rfl)) (q_lf_ok (q_istore_n (qd_o62 0 11 qd_g663 rfl) rfl (Nat.le_of_ble_eq_true rfl) rfl))))) (q_nd_ok (q_nd_ok (q_nd_ok (q_lf_ok (q_aload_n (qd_o42 0 12 qd_g663 rfl) rfl rfl)) (q_lf_ok (q_iload_n (qd_o29 0 13 qd_g663 rfl) rfl rfl))) (q_nd_ok (q_lf_ok (⟨q_callU (T := TJ4) (n := 4) (owner := "java/lang/AbstractStringBuilder") (x := ⟨"java/lang/AbstractStringBuilder", "ensureCapacityInternal", "(I)V"⟩) q_e332 (qd_o182 0 14 qd_g663 rfl rfl) rfl rfl rfl (Nat.le_of_ble_eq_true rfl) q_w1272 q_w1274 q_w1275 q_w1276 q_w1212 q_w1273 rfl (by decide +kernel), rfl⟩)) (q_lf_ok (q_aload_n (qd_o42 0 17 qd_g663 rfl) rfl rfl)))) (q_nd_ok (q_nd_ok (q_lf_ok (⟨q_callU (T := TJ4) (n := 4) (owner := "java/lang/AbstractStringBuilder") (x := ⟨"java/lang/AbstractStringBuilder", "isLatin1", "()Z"⟩) q_e341 (qd_o182 0 18 qd_g663 rfl rfl) rfl rfl rfl (Nat.le_of_ble_eq_true rfl) q_w1260 q_w1262 q_w1263 q_w1264 q_w1212 q_w1261 rfl (by decide +kernel), rfl⟩)) (q_lf_ok (q_if_eq (qd_o153 0 21 qd_g663 rfl rfl) (by decide) rfl))) (q_nd_ok (q_lf_ok (q_iload_n (qd_o27 0 24 qd_g663 rfl) rfl rfl)) (q_lf_ok (q_iload_n (qd_o29 0 25 qd_g663 rfl) rfl rfl)))))) (q_nd_ok (q_nd_ok (q_nd_ok (q_nd_ok (q_lf_ok (q_aload_n (qd_o42 0 26 qd_g663 rfl) rfl rfl)) (q_lf_ok (q_getf (T := TJ4) (qd_o180 0 27 qd_g663 rfl rfl) rfl q_inJ4 (Nat.le_of_ble_eq_true rfl) q_w1240 rfl))) (q_nd_ok (q_lf_ok (⟨q_callS' q_e320 (qd_o184 0 30 qd_g663 rfl rfl) rfl rfl (Nat.le_of_ble_eq_true rfl) q_w1319 q_w1321 q_w580 q_w1320 (by decide +kernel), rfl⟩)) (q_lf_ok (q_pop (qd_o87 0 33 qd_g663 rfl) rfl)))) (q_nd_ok (q_nd_ok (q_lf_ok (q_goto (qd_o167 0 34 qd_g663 rfl rfl) (by decide))) (q_lf_ok (q_iload_n (qd_o27 0 37 qd_g663 rfl) rfl rfl))) (q_nd_ok (q_lf_ok (q_iload_n (qd_o28 0 38 qd_g663 rfl) rfl rfl)) (q_lf_ok (q_iload_n (qd_o29 0 39 qd_g663 rfl) rfl rfl))))) (q_nd_ok (q_nd_ok (q_nd_ok (q_lf_ok (q_aload_n (qd_o42 40 0 qd_g664 rfl) rfl rfl)) (q_lf_ok (q_getf (T := TJ4) (qd_o180 40 1 qd_g664 rfl rfl) rfl q_inJ4 (Nat.le_of_ble_eq_true rfl) q_w1240 rfl))) (q_nd_ok (q_lf_ok (⟨q_callS' q_e363 (qd_o184 40 4 qd_g664 rfl rfl) rfl rfl (Nat.le_of_ble_eq_true rfl) q_w1322 q_w1324 q_w1245 q_w1323 (by decide +kernel), rfl⟩)) (q_lf_ok (q_pop (qd_o87 40 7 qd_g664 rfl) rfl)))) (q_nd_ok (q_nd_ok (q_lf_ok (q_aload_n (qd_o42 40 8 qd_g664 rfl) rfl rfl)) (q_lf_ok (q_iload_n (qd_o29 40 9 qd_g664 rfl) rfl rfl))) (q_nd_ok (q_lf_ok (q_putf (T := TJ4) (qd_o181 40 10 qd_g664 rfl rfl) rfl q_inJ4 tyJ4_ok nmJ4 (Nat.le_of_ble_eq_true rfl) q_w1246 rfl (tyJ4_ok 3 (Nat.le_of_ble_eq_true rfl)) q_ck_i_ok rfl)) (q_nd_ok (q_lf_ok (q_aload_n (qd_o42 40 13 qd_g664 rfl) rfl rfl)) (q_lf_ok (q_areturn (qd_o176 40 14 qd_g664 rfl) rfl (Or.inl ⟨_, rfl⟩))))))))
/-! J5_isLatin1_aae02 -/
noncomputable def q_t341 (TB : Nat → Option (Nat × Nat × (Nat → Int32))) : Nat → Option q_E := q_nd 7 (q_nd 3 (q_nd 0 (q_lf 0 (.inl (q_st 3 (q_fk (.int 1))))) (q_lf 3 (.inr (.inl (q_br 17 6 (q_b1 fun x => decide (x = 0))))))) (q_nd 6 (q_lf 6 (.inl (q_st 7 (q_fal 0)))) (q_lf 7 (.inl (q_gf 10 1 1))))) (q_nd 13 (q_nd 10 (q_lf 10 (.inr (.inl (q_br 17 13 (q_b1 fun x => decide (¬ x = 0)))))) (q_lf 13 (.inl (q_st 14 (q_fk (.int 1)))))) (q_nd 14 (q_lf 14 (.inl (q_st 18 fun _ st => some st))) (q_nd 17 (q_lf 17 (.inl (q_st 18 (q_fk (.int 0))))) (q_lf 18 (.inr (.inr (.inl q_rz)))))))
theorem q_sm341 {TB : Nat → Option (Nat × Nat × (Nat → Int32))} {τ : Nat → Nat} : ∀ pc x, q_t341 TB pc = some x → q_S9 TB τ q_m341 pc x := q_nd_ok (q_nd_ok (q_nd_ok (q_lf_ok (q_getstatic (v := .int 1) (fun a h => by cases h) (fun _ _ _ h => h.2.2.2.2.2.2.1 _ (List.mem_append_left _ (List.mem_of_getElem? (i := 7) rfl))) (qd_o178 0 0 qd_g666 rfl rfl) q_w1239 rfl)) (q_lf_ok (q_if_eq (qd_o153 0 3 qd_g666 rfl rfl) (by decide) rfl))) (q_nd_ok (q_lf_ok (q_aload_n (qd_o42 0 6 qd_g666 rfl) rfl rfl)) (q_lf_ok (q_getf (T := TJ4) (qd_o180 0 7 qd_g666 rfl rfl) rfl q_inJ4 (Nat.le_of_ble_eq_true rfl) q_w1241 rfl)))) (q_nd_ok (q_nd_ok (q_lf_ok (q_if_ne (qd_o154 0 10 qd_g666 rfl rfl) (by decide) rfl)) (q_lf_ok (q_iconst (qd_o4 0 13 qd_g666 rfl) qk_i1 rfl))) (q_nd_ok (q_lf_ok (q_goto (qd_o167 0 14 qd_g666 rfl rfl) (by decide))) (q_nd_ok (q_lf_ok (q_iconst (qd_o3 0 17 qd_g666 rfl) qk_i0 rfl)) (q_lf_ok (q_zreturn (qd_o172 0 18 qd_g666 rfl) rfl rfl rfl)))))
/-! J5_inflateIfNeededFor_a7421 -/
noncomputable def q_t342 (TB : Nat → Option (Nat × Nat × (Nat → Int32))) : Nat → Option q_E := q_nd 10 (q_nd 3 (q_nd 0 (q_lf 0 (.inl (q_st 3 (q_fk (.int 1))))) (q_lf 3 (.inr (.inl (q_br 21 6 (q_b1 fun x => decide (x = 0))))))) (q_nd 6 (q_lf 6 (.inl (q_st 7 (q_fal 0)))) (q_nd 7 (q_lf 7 (.inl (q_gf 10 1 1))) (q_lf 10 (.inl (q_st 11 (q_fal 1))))))) (q_nd 14 (q_nd 11 (q_lf 11 (.inr (.inr (.inr (.inr (14, q_fo 347 0 q_SK, none)))))) (q_lf 14 (.inr (.inl (q_br 21 17 (q_b2 fun x y => decide (x = y))))))) (q_nd 17 (q_lf 17 (.inl (q_st 18 (q_fal 0)))) (q_nd 18 (q_lf 18 (.inr (.inr (.inr (.inr (21, q_fv 334 0 1, none)))))) (q_lf 21 (.inr (.inr (.inl q_rv)))))))
theorem q_sm342 {TB : Nat → Option (Nat × Nat × (Nat → Int32))} {τ : Nat → Nat} : ∀ pc x, q_t342 TB pc = some x → q_S9 TB τ q_m342 pc x := q_nd_ok (q_nd_ok (q_nd_ok (q_lf_ok (q_getstatic (v := .int 1) (fun a h => by cases h) (fun _ _ _ h => h.2.2.2.2.2.2.1 _ (List.mem_append_left _ (List.mem_of_getElem? (i := 7) rfl))) (qd_o178 0 0 qd_g667 rfl rfl) q_w1239 rfl)) (q_lf_ok (q_if_eq (qd_o153 0 3 qd_g667 rfl rfl) (by decide) rfl))) (q_nd_ok (q_lf_ok (q_aload_n (qd_o42 0 6 qd_g667 rfl) rfl rfl)) (q_nd_ok (q_lf_ok (q_getf (T := TJ4) (qd_o180 0 7 qd_g667 rfl rfl) rfl q_inJ4 (Nat.le_of_ble_eq_true rfl) q_w1241 rfl)) (q_lf_ok (q_aload_n (qd_o43 0 10 qd_g667 rfl) rfl rfl))))) (q_nd_ok (q_nd_ok (q_lf_ok (⟨q_callO q_SK_lo (fun _ _ _ h x hx => h.2.2.2.2.2.2.2.2.2 _ (List.mem_map.mpr ⟨x, hx, rfl⟩)) q_e347 (qd_o182 0 11 qd_g667 rfl rfl) rfl rfl (Nat.le_of_ble_eq_true rfl) q_w1325 q_w1327 q_w1328 q_w806 q_w1326 (by decide +kernel), rfl⟩)) (q_lf_ok (q_icmp_eq (qd_o159 0 14 qd_g667 rfl rfl) (by decide) rfl))) (q_nd_ok (q_lf_ok (q_aload_n (qd_o42 0 17 qd_g667 rfl) rfl rfl)) (q_nd_ok (q_lf_ok (⟨q_callU (T := TJ4) (n := 4) (owner := "java/lang/AbstractStringBuilder") (x := ⟨"java/lang/AbstractStringBuilder", "inflate", "()V"⟩) q_e334 (qd_o182 0 18 qd_g667 rfl rfl) rfl rfl rfl (Nat.le_of_ble_eq_true rfl) q_w1308 q_w1310 q_w1311 q_w1312 q_w1212 q_w1309 rfl (by decide +kernel), rfl⟩)) (q_lf_ok (q_return (qd_o177 0 21 qd_g667 rfl) rfl)))))
/-! J5_putStringAt_47b60 -/
noncomputable def q_t343 (TB : Nat → Option (Nat × Nat × (Nat → Int32))) : Nat → Option q_E := q_nd 6 (q_nd 1 (q_nd 0 (q_lf 0 (.inl (q_st 1 (q_fal 0)))) (q_lf 1 (.inl (q_st 2 (q_fal 2))))) (q_nd 2 (q_lf 2 (.inr (.inr (.inr (.inr (5, q_fv 342 1 1, none)))))) (q_nd 5 (q_lf 5 (.inl (q_st 6 (q_fal 2)))) (q_lf 6 (.inl (q_st 7 (q_fal 0))))))) (q_nd 11 (q_nd 7 (q_lf 7 (.inl (q_gf 10 1 0))) (q_nd 10 (q_lf 10 (.inl (q_st 11 (q_fil 1)))) (q_lf 11 (.inl (q_st 12 (q_fal 0)))))) (q_nd 12 (q_lf 12 (.inl (q_gf 15 1 1))) (q_nd 15 (q_lf 15 (.inr (.inr (.inr (.inr (18, q_fo 346 3 q_SK, none)))))) (q_lf 18 (.inr (.inr (.inl q_rv)))))))
theorem q_sm343 {TB : Nat → Option (Nat × Nat × (Nat → Int32))} {τ : Nat → Nat} : ∀ pc x, q_t343 TB pc = some x → q_S9 TB τ q_m343 pc x := q_nd_ok (q_nd_ok (q_nd_ok (q_lf_ok (q_aload_n (qd_o42 0 0 qd_g668 rfl) rfl rfl)) (q_lf_ok (q_aload_n (qd_o44 0 1 qd_g668 rfl) rfl rfl))) (q_nd_ok (q_lf_ok (⟨q_callU (T := TJ4) (n := 4) (owner := "java/lang/AbstractStringBuilder") (x := ⟨"java/lang/AbstractStringBuilder", "inflateIfNeededFor", "(Ljava/lang/String;)V"⟩) q_e342 (qd_o182 0 2 qd_g668 rfl rfl) rfl rfl rfl (Nat.le_of_ble_eq_true rfl) q_w1329 q_w1331 q_w1332 q_w1333 q_w1212 q_w1330 rfl (by decide +kernel), rfl⟩)) (q_nd_ok (q_lf_ok (q_aload_n (qd_o44 0 5 qd_g668 rfl) rfl rfl)) (q_lf_ok (q_aload_n (qd_o42 0 6 qd_g668 rfl) rfl rfl))))) (q_nd_ok (q_nd_ok (q_lf_ok (q_getf (T := TJ4) (qd_o180 0 7 qd_g668 rfl rfl) rfl q_inJ4 (Nat.le_of_ble_eq_true rfl) q_w1240 rfl)) (q_nd_ok (q_lf_ok (q_iload_n (qd_o27 0 10 qd_g668 rfl) rfl rfl)) (q_lf_ok (q_aload_n (qd_o42 0 11 qd_g668 rfl) rfl rfl)))) (q_nd_ok (q_lf_ok (q_getf (T := TJ4) (qd_o180 0 12 qd_g668 rfl rfl) rfl q_inJ4 (Nat.le_of_ble_eq_true rfl) q_w1241 rfl)) (q_nd_ok (q_lf_ok (⟨q_callO q_SK_lo (fun _ _ _ h x hx => h.2.2.2.2.2.2.2.2.2 _ (List.mem_map.mpr ⟨x, hx, rfl⟩)) q_e346 (qd_o182 0 15 qd_g668 rfl rfl) rfl rfl (Nat.le_of_ble_eq_true rfl) q_w1334 q_w1336 q_w1337 q_w806 q_w1335 (by decide +kernel), rfl⟩)) (q_lf_ok (q_return (qd_o177 0 18 qd_g668 rfl) rfl)))))
end
section
-- 31.8J00
/-! J0_length_8abf5 -/
noncomputable def q_t344 (TB : Nat → Option (Nat × Nat × (Nat → Int32))) : Nat → Option q_E := q_nd 4 (q_nd 0 (q_lf 0 (.inl (q_st 1 (q_fal 0)))) (q_nd 1 (q_lf 1 (.inl (q_st 4 (q_fog q_SV)))) (q_lf 4 (.inl (q_aln TB 5 4))))) (q_nd 6 (q_nd 5 (q_lf 5 (.inl (q_st 6 (q_fal 0)))) (q_lf 6 (.inr (.inr (.inr (.inr (9, q_fo 347 0 q_SK, none))))))) (q_nd 9 (q_lf 9 (.inl (q_st 10 (q_fii fun x y => x >>> (y &&& 31))))) (q_lf 10 (.inr (.inr (.inl q_ri))))))
theorem q_sm344 {TB : Nat → Option (Nat × Nat × (Nat → Int32))} {τ : Nat → Nat} : ∀ pc x, q_t344 TB pc = some x → q_S9 TB τ q_m344 pc x := q_nd_ok (q_nd_ok (q_lf_ok (q_aload_n (qd_o42 0 0 qd_g681 rfl) rfl rfl)) (q_nd_ok (q_lf_ok (q_ogetf (o := "java/lang/String") (n := "value") (d := "[B") q_SV_lo q_SV_ok (fun _ _ _ h x hx => h.2.2.2.2.2.2.2.2.1 _ (q_SV_in x hx)) (qd_o180 0 1 qd_g681 rfl rfl) q_w1338 rfl)) (q_lf_ok (q_arraylength q_hTB rfl (qd_o190 0 4 qd_g681 rfl) rfl)))) (q_nd_ok (q_nd_ok (q_lf_ok (q_aload_n (qd_o42 0 5 qd_g681 rfl) rfl rfl)) (q_lf_ok (⟨q_callO q_SK_lo (fun _ _ _ h x hx => h.2.2.2.2.2.2.2.2.2 _ (List.mem_map.mpr ⟨x, hx, rfl⟩)) q_e347 (qd_o182 0 6 qd_g681 rfl rfl) rfl rfl (Nat.le_of_ble_eq_true rfl) q_w1339 q_w1327 q_w1328 q_w806 q_w1326 (by decide +kernel), rfl⟩))) (q_nd_ok (q_lf_ok (q_ishr (qd_o122 0 9 qd_g681 rfl) rfl)) (q_lf_ok (q_ireturn (qd_o172 0 10 qd_g681 rfl) rfl))))
/-! J0_charAt_5068e -/
set_option maxRecDepth 16384 in
noncomputable def q_t345 (TB : Nat → Option (Nat × Nat × (Nat → Int32))) : Nat → Option q_E := q_nd 11 (q_nd 4 (q_nd 0 (q_lf 0 (.inl (q_st 1 (q_fal 0)))) (q_nd 1 (q_lf 1 (.inr (.inr (.inr (.inr (4, q_fo 348 0 q_SK, none)))))) (q_lf 4 (.inr (.inl (q_br 16 7 (q_b1 fun x => decide (x = 0)))))))) (q_nd 7 (q_lf 7 (.inl (q_st 8 (q_fal 0)))) (q_nd 8 (q_lf 8 (.inl (q_st 11 (q_fog q_SV)))) (q_lf 11 (.inl (q_st 12 (q_fil 1))))))) (q_nd 16 (q_nd 12 (q_lf 12 (.inr (.inr (.inr (.inr (15, q_fc 352 2, none)))))) (q_nd 15 (q_lf 15 (.inr (.inr (.inl q_rc)))) (q_lf 16 (.inl (q_st 17 (q_fal 0)))))) (q_nd 20 (q_nd 17 (q_lf 17 (.inl (q_st 20 (q_fog q_SV)))) (q_lf 20 (.inl (q_st 21 (q_fil 1))))) (q_nd 21 (q_lf 21 (.inr (.inr (.inr (.inr (24, q_fc 365 2, none)))))) (q_lf 24 (.inr (.inr (.inl q_rc)))))))
set_option maxRecDepth 16384 in
theorem q_sm345 {TB : Nat → Option (Nat × Nat × (Nat → Int32))} {τ : Nat → Nat} : ∀ pc x, q_t345 TB pc = some x → q_S9 TB τ q_m345 pc x := q_nd_ok (q_nd_ok (q_nd_ok (q_lf_ok (q_aload_n (qd_o42 0 0 qd_g682 rfl) rfl rfl)) (q_nd_ok (q_lf_ok (⟨q_callO q_SK_lo (fun _ _ _ h x hx => h.2.2.2.2.2.2.2.2.2 _ (List.mem_map.mpr ⟨x, hx, rfl⟩)) q_e348 (qd_o182 0 1 qd_g682 rfl rfl) rfl rfl (Nat.le_of_ble_eq_true rfl) q_w1340 q_w1342 q_w1343 q_w806 q_w1341 (by decide +kernel), rfl⟩)) (q_lf_ok (q_if_eq (qd_o153 0 4 qd_g682 rfl rfl) (by decide) rfl)))) (q_nd_ok (q_lf_ok (q_aload_n (qd_o42 0 7 qd_g682 rfl) rfl rfl)) (q_nd_ok (q_lf_ok (q_ogetf (o := "java/lang/String") (n := "value") (d := "[B") q_SV_lo q_SV_ok (fun _ _ _ h x hx => h.2.2.2.2.2.2.2.2.1 _ (q_SV_in x hx)) (qd_o180 0 8 qd_g682 rfl rfl) q_w1338 rfl)) (q_lf_ok (q_iload_n (qd_o27 0 11 qd_g682 rfl) rfl rfl))))) (q_nd_ok (q_nd_ok (q_lf_ok (⟨q_callS' q_e352 (qd_o184 0 12 qd_g682 rfl rfl) rfl rfl (Nat.le_of_ble_eq_true rfl) q_w1344 q_w1346 q_w1268 q_w1345 (by decide +kernel), rfl⟩)) (q_nd_ok (q_lf_ok (q_creturn (qd_o172 0 15 qd_g682 rfl) rfl)) (q_lf_ok (q_aload_n (qd_o42 0 16 qd_g682 rfl) rfl rfl)))) (q_nd_ok (q_nd_ok (q_lf_ok (q_ogetf (o := "java/lang/String") (n := "value") (d := "[B") q_SV_lo q_SV_ok (fun _ _ _ h x hx => h.2.2.2.2.2.2.2.2.1 _ (q_SV_in x hx)) (qd_o180 0 17 qd_g682 rfl rfl) q_w1338 rfl)) (q_lf_ok (q_iload_n (qd_o27 0 20 qd_g682 rfl) rfl rfl))) (q_nd_ok (q_lf_ok (⟨q_callS' q_e365 (qd_o184 0 21 qd_g682 rfl rfl) rfl rfl (Nat.le_of_ble_eq_true rfl) q_w1347 q_w1349 q_w1245 q_w1348 (by decide +kernel), rfl⟩)) (q_lf_ok (q_creturn (qd_o172 0 24 qd_g682 rfl) rfl)))))
/-! J0_getBytes_840e7 -/
set_option maxRecDepth 16384 in
noncomputable def q_t346 (TB : Nat → Option (Nat × Nat × (Nat → Int32))) : Nat → Option q_E := q_nd 18 (q_nd 9 (q_nd 4 (q_nd 0 (q_lf 0 (.inl (q_st 1 (q_fal 0)))) (q_nd 1 (q_lf 1 (.inr (.inr (.inr (.inr (4, q_fo 347 0 q_SK, none)))))) (q_lf 4 (.inl (q_st 5 (q_fil 3)))))) (q_nd 5 (q_lf 5 (.inr (.inl (q_br 28 8 (q_b2 fun x y => decide (¬ x = y)))))) (q_nd 8 (q_lf 8 (.inl (q_st 9 (q_fal 0)))) (q_lf 9 (.inl (q_st 12 (q_fog q_SV))))))) (q_nd 14 (q_nd 12 (q_lf 12 (.inl (q_st 13 (q_fk (.int 0))))) (q_nd 13 (q_lf 13 (.inl (q_st 14 (q_fal 1)))) (q_lf 14 (.inl (q_st 15 (q_fil 2)))))) (q_nd 16 (q_nd 15 (q_lf 15 (.inl (q_st 16 (q_fil 3)))) (q_lf 16 (.inl (q_st 17 (q_fii fun x y => x <<< (y &&& 31)))))) (q_nd 17 (q_lf 17 (.inl (q_st 18 (q_fal 0)))) (q_lf 18 (.inl (q_st 21 (q_fog q_SV)))))))) (q_nd 32 (q_nd 25 (q_nd 21 (q_lf 21 (.inl (q_aln TB 22 4))) (q_nd 22 (q_lf 22 (.inr (.inl (q_acpT TB 25 4 (fun x => decide (x.toInt8.toInt32 = x)))))) (q_lf 25 (.inl (q_st 43 fun _ st => some st))))) (q_nd 28 (q_lf 28 (.inl (q_st 29 (q_fal 0)))) (q_nd 29 (q_lf 29 (.inl (q_st 32 (q_fog q_SV)))) (q_lf 32 (.inl (q_st 33 (q_fk (.int 0)))))))) (q_nd 35 (q_nd 33 (q_lf 33 (.inl (q_st 34 (q_fal 1)))) (q_nd 34 (q_lf 34 (.inl (q_st 35 (q_fil 2)))) (q_lf 35 (.inl (q_st 36 (q_fal 0)))))) (q_nd 39 (q_nd 36 (q_lf 36 (.inl (q_st 39 (q_fog q_SV)))) (q_lf 39 (.inl (q_aln TB 40 4)))) (q_nd 40 (q_lf 40 (.inr (.inr (.inr (.inr (43, q_fc 355 5, none)))))) (q_lf 43 (.inr (.inr (.inl q_rv))))))))
set_option maxRecDepth 16384 in
theorem q_sm346 {TB : Nat → Option (Nat × Nat × (Nat → Int32))} {τ : Nat → Nat} : ∀ pc x, q_t346 TB pc = some x → q_S9 TB τ q_m346 pc x := q_nd_ok (q_nd_ok (q_nd_ok (q_nd_ok (q_lf_ok (q_aload_n (qd_o42 0 0 qd_g683 rfl) rfl rfl)) (q_nd_ok (q_lf_ok (⟨q_callO q_SK_lo (fun _ _ _ h x hx => h.2.2.2.2.2.2.2.2.2 _ (List.mem_map.mpr ⟨x, hx, rfl⟩)) q_e347 (qd_o182 0 1 qd_g683 rfl rfl) rfl rfl (Nat.le_of_ble_eq_true rfl) q_w1339 q_w1327 q_w1328 q_w806 q_w1326 (by decide +kernel), rfl⟩)) (q_lf_ok (q_iload_n (qd_o29 0 4 qd_g683 rfl) rfl rfl)))) (q_nd_ok (q_lf_ok (q_icmp_ne (qd_o160 0 5 qd_g683 rfl rfl) (by decide) rfl)) (q_nd_ok (q_lf_ok (q_aload_n (qd_o42 0 8 qd_g683 rfl) rfl rfl)) (q_lf_ok (q_ogetf (o := "java/lang/String") (n := "value") (d := "[B") q_SV_lo q_SV_ok (fun _ _ _ h x hx => h.2.2.2.2.2.2.2.2.1 _ (q_SV_in x hx)) (qd_o180 0 9 qd_g683 rfl rfl) q_w1338 rfl))))) (q_nd_ok (q_nd_ok (q_lf_ok (q_iconst (qd_o3 0 12 qd_g683 rfl) qk_i0 rfl)) (q_nd_ok (q_lf_ok (q_aload_n (qd_o43 0 13 qd_g683 rfl) rfl rfl)) (q_lf_ok (q_iload_n (qd_o28 0 14 qd_g683 rfl) rfl rfl)))) (q_nd_ok (q_nd_ok (q_lf_ok (q_iload_n (qd_o29 0 15 qd_g683 rfl) rfl rfl)) (q_lf_ok (q_ishl (qd_o120 0 16 qd_g683 rfl) rfl))) (q_nd_ok (q_lf_ok (q_aload_n (qd_o42 0 17 qd_g683 rfl) rfl rfl)) (q_lf_ok (q_ogetf (o := "java/lang/String") (n := "value") (d := "[B") q_SV_lo q_SV_ok (fun _ _ _ h x hx => h.2.2.2.2.2.2.2.2.1 _ (q_SV_in x hx)) (qd_o180 0 18 qd_g683 rfl rfl) q_w1338 rfl)))))) (q_nd_ok (q_nd_ok (q_nd_ok (q_lf_ok (q_arraylength q_hTB rfl (qd_o190 0 21 qd_g683 rfl) rfl)) (q_nd_ok (q_lf_ok (q_arraycopyT q_hTB (qd_o184 0 22 qd_g683 rfl rfl) rfl rfl (fun x h => by rw [← of_decide_eq_true h]; exact pk_fb x) q_w1350 q_w289 q_w290 q_w291 rfl)) (q_lf_ok (q_goto (qd_o167 0 25 qd_g683 rfl rfl) (by decide))))) (q_nd_ok (q_lf_ok (q_aload_n (qd_o42 0 28 qd_g683 rfl) rfl rfl)) (q_nd_ok (q_lf_ok (q_ogetf (o := "java/lang/String") (n := "value") (d := "[B") q_SV_lo q_SV_ok (fun _ _ _ h x hx => h.2.2.2.2.2.2.2.2.1 _ (q_SV_in x hx)) (qd_o180 0 29 qd_g683 rfl rfl) q_w1338 rfl)) (q_lf_ok (q_iconst (qd_o3 0 32 qd_g683 rfl) qk_i0 rfl))))) (q_nd_ok (q_nd_ok (q_lf_ok (q_aload_n (qd_o43 0 33 qd_g683 rfl) rfl rfl)) (q_nd_ok (q_lf_ok (q_iload_n (qd_o28 0 34 qd_g683 rfl) rfl rfl)) (q_lf_ok (q_aload_n (qd_o42 0 35 qd_g683 rfl) rfl rfl)))) (q_nd_ok (q_nd_ok (q_lf_ok (q_ogetf (o := "java/lang/String") (n := "value") (d := "[B") q_SV_lo q_SV_ok (fun _ _ _ h x hx => h.2.2.2.2.2.2.2.2.1 _ (q_SV_in x hx)) (qd_o180 0 36 qd_g683 rfl rfl) q_w1338 rfl)) (q_lf_ok (q_arraylength q_hTB rfl (qd_o190 0 39 qd_g683 rfl) rfl))) (q_nd_ok (q_lf_ok (⟨q_callS' q_e355 (qd_o184 40 0 qd_g684 rfl rfl) rfl rfl (Nat.le_of_ble_eq_true rfl) q_w1351 q_w1267 q_w1268 q_w1266 (by decide +kernel), rfl⟩)) (q_lf_ok (q_return (qd_o177 40 3 qd_g684 rfl) rfl))))))
/-! J0_coder_7d493 -/
noncomputable def q_t347 (TB : Nat → Option (Nat × Nat × (Nat → Int32))) : Nat → Option q_E := q_nd 6 (q_nd 0 (q_lf 0 (.inl (q_st 3 (q_fk (.int 1))))) (q_nd 3 (q_lf 3 (.inr (.inl (q_br 13 6 (q_b1 fun x => decide (x = 0)))))) (q_lf 6 (.inl (q_st 7 (q_fal 0)))))) (q_nd 10 (q_nd 7 (q_lf 7 (.inl (q_st 10 (q_fog q_SC)))) (q_lf 10 (.inl (q_st 14 fun _ st => some st)))) (q_nd 13 (q_lf 13 (.inl (q_st 14 (q_fk (.int 1))))) (q_lf 14 (.inr (.inr (.inl q_rz))))))
theorem q_sm347 {TB : Nat → Option (Nat × Nat × (Nat → Int32))} {τ : Nat → Nat} : ∀ pc x, q_t347 TB pc = some x → q_S9 TB τ q_m347 pc x := q_nd_ok (q_nd_ok (q_lf_ok (q_getstatic (v := .int 1) (fun a h => by cases h) (fun _ _ _ h => h.2.2.2.2.2.2.1 _ (List.mem_append_left _ (List.mem_of_getElem? (i := 7) rfl))) (qd_o178 0 0 qd_g688 rfl rfl) q_w1352 rfl)) (q_nd_ok (q_lf_ok (q_if_eq (qd_o153 0 3 qd_g688 rfl rfl) (by decide) rfl)) (q_lf_ok (q_aload_n (qd_o42 0 6 qd_g688 rfl) rfl rfl)))) (q_nd_ok (q_nd_ok (q_lf_ok (q_ogetf (o := "java/lang/String") (n := "coder") (d := "B") q_SC_lo q_SC_ok (fun _ _ _ h x hx => h.2.2.2.2.2.2.2.2.1 _ (q_SC_in x hx)) (qd_o180 0 7 qd_g688 rfl rfl) q_w1353 rfl)) (q_lf_ok (q_goto (qd_o167 0 10 qd_g688 rfl rfl) (by decide)))) (q_nd_ok (q_lf_ok (q_iconst (qd_o4 0 13 qd_g688 rfl) qk_i1 rfl)) (q_lf_ok (q_zreturn (qd_o172 0 14 qd_g688 rfl) rfl rfl rfl))))
/-! J0_isLatin1_aae02 -/
noncomputable def q_t348 (TB : Nat → Option (Nat × Nat × (Nat → Int32))) : Nat → Option q_E := q_nd 7 (q_nd 3 (q_nd 0 (q_lf 0 (.inl (q_st 3 (q_fk (.int 1))))) (q_lf 3 (.inr (.inl (q_br 17 6 (q_b1 fun x => decide (x = 0))))))) (q_nd 6 (q_lf 6 (.inl (q_st 7 (q_fal 0)))) (q_lf 7 (.inl (q_st 10 (q_fog q_SC)))))) (q_nd 13 (q_nd 10 (q_lf 10 (.inr (.inl (q_br 17 13 (q_b1 fun x => decide (¬ x = 0)))))) (q_lf 13 (.inl (q_st 14 (q_fk (.int 1)))))) (q_nd 14 (q_lf 14 (.inl (q_st 18 fun _ st => some st))) (q_nd 17 (q_lf 17 (.inl (q_st 18 (q_fk (.int 0))))) (q_lf 18 (.inr (.inr (.inl q_rz)))))))
theorem q_sm348 {TB : Nat → Option (Nat × Nat × (Nat → Int32))} {τ : Nat → Nat} : ∀ pc x, q_t348 TB pc = some x → q_S9 TB τ q_m348 pc x := q_nd_ok (q_nd_ok (q_nd_ok (q_lf_ok (q_getstatic (v := .int 1) (fun a h => by cases h) (fun _ _ _ h => h.2.2.2.2.2.2.1 _ (List.mem_append_left _ (List.mem_of_getElem? (i := 7) rfl))) (qd_o178 0 0 qd_g689 rfl rfl) q_w1352 rfl)) (q_lf_ok (q_if_eq (qd_o153 0 3 qd_g689 rfl rfl) (by decide) rfl))) (q_nd_ok (q_lf_ok (q_aload_n (qd_o42 0 6 qd_g689 rfl) rfl rfl)) (q_lf_ok (q_ogetf (o := "java/lang/String") (n := "coder") (d := "B") q_SC_lo q_SC_ok (fun _ _ _ h x hx => h.2.2.2.2.2.2.2.2.1 _ (q_SC_in x hx)) (qd_o180 0 7 qd_g689 rfl rfl) q_w1353 rfl)))) (q_nd_ok (q_nd_ok (q_lf_ok (q_if_ne (qd_o154 0 10 qd_g689 rfl rfl) (by decide) rfl)) (q_lf_ok (q_iconst (qd_o4 0 13 qd_g689 rfl) qk_i1 rfl))) (q_nd_ok (q_lf_ok (q_goto (qd_o167 0 14 qd_g689 rfl rfl) (by decide))) (q_nd_ok (q_lf_ok (q_iconst (qd_o3 0 17 qd_g689 rfl) qk_i0 rfl)) (q_lf_ok (q_zreturn (qd_o172 0 18 qd_g689 rfl) rfl rfl rfl)))))
/-! J0_checkIndex_df160 -/
noncomputable def q_t349 (TB : Nat → Option (Nat × Nat × (Nat → Int32))) : Nat → Option q_E := q_nd 2 (q_nd 0 (q_lf 0 (.inl (q_st 1 (q_fil 0)))) (q_nd 1 (q_lf 1 (.inl (q_st 2 (q_fil 1)))) (q_lf 2 (.inl (q_st 5 (q_fvS TB)))))) (q_nd 5 (q_lf 5 (.inr (.inr (.inr (.inr (8, q_fc 371 3, none)))))) (q_nd 8 (q_lf 8 (.inl (q_st 9 q_fpop))) (q_lf 9 (.inr (.inr (.inl q_rv))))))
theorem q_sm349 {TB : Nat → Option (Nat × Nat × (Nat → Int32))} {τ : Nat → Nat} : ∀ pc x, q_t349 TB pc = some x → q_S9 TB τ q_m349 pc x := q_nd_ok (q_nd_ok (q_lf_ok (q_iload_n (qd_o26 0 0 qd_g690 rfl) rfl rfl)) (q_nd_ok (q_lf_ok (q_iload_n (qd_o27 0 1 qd_g690 rfl) rfl rfl)) (q_lf_ok (q_fvS_J (q_getstatic (v := q_vS TB) q_vS_ok (fun _ _ _ h => h.2.2.2.2.2.2.1 _ (List.mem_append_right _ (List.mem_singleton.mpr rfl))) (qd_o178 0 2 qd_g690 rfl rfl) q_w1354 rfl))))) (q_nd_ok (q_lf_ok (⟨q_callS' q_e371 (qd_o184 0 5 qd_g690 rfl rfl) rfl rfl (Nat.le_of_ble_eq_true rfl) q_w1355 q_w1357 q_w1358 q_w1356 (by decide +kernel), rfl⟩)) (q_nd_ok (q_lf_ok (q_pop (qd_o87 0 8 qd_g690 rfl) rfl)) (q_lf_ok (q_return (qd_o177 0 9 qd_g690 rfl) rfl))))
/-! J0_checkBoundsOffCount_cabcc -/
noncomputable def q_t350 (TB : Nat → Option (Nat × Nat × (Nat → Int32))) : Nat → Option q_E := q_nd 2 (q_nd 0 (q_lf 0 (.inl (q_st 1 (q_fil 0)))) (q_nd 1 (q_lf 1 (.inl (q_st 2 (q_fil 1)))) (q_lf 2 (.inl (q_st 3 (q_fil 2)))))) (q_nd 3 (q_lf 3 (.inl (q_st 6 (q_fvS TB)))) (q_nd 6 (q_lf 6 (.inr (.inr (.inr (.inr (9, q_fc 373 4, none)))))) (q_lf 9 (.inr (.inr (.inl q_ri))))))
theorem q_sm350 {TB : Nat → Option (Nat × Nat × (Nat → Int32))} {τ : Nat → Nat} : ∀ pc x, q_t350 TB pc = some x → q_S9 TB τ q_m350 pc x := q_nd_ok (q_nd_ok (q_lf_ok (q_iload_n (qd_o26 0 0 qd_g691 rfl) rfl rfl)) (q_nd_ok (q_lf_ok (q_iload_n (qd_o27 0 1 qd_g691 rfl) rfl rfl)) (q_lf_ok (q_iload_n (qd_o28 0 2 qd_g691 rfl) rfl rfl)))) (q_nd_ok (q_lf_ok (q_fvS_J (q_getstatic (v := q_vS TB) q_vS_ok (fun _ _ _ h => h.2.2.2.2.2.2.1 _ (List.mem_append_right _ (List.mem_singleton.mpr rfl))) (qd_o178 0 3 qd_g691 rfl rfl) q_w1354 rfl))) (q_nd_ok (q_lf_ok (⟨q_callS' q_e373 (qd_o184 0 6 qd_g691 rfl rfl) rfl rfl (Nat.le_of_ble_eq_true rfl) q_w1359 q_w1361 q_w1358 q_w1360 (by decide +kernel), rfl⟩)) (q_lf_ok (q_ireturn (qd_o172 0 9 qd_g691 rfl) rfl))))
/-! J0_checkBoundsBeginEnd_23922 -/
noncomputable def q_t351 (TB : Nat → Option (Nat × Nat × (Nat → Int32))) : Nat → Option q_E := q_nd 2 (q_nd 0 (q_lf 0 (.inl (q_st 1 (q_fil 0)))) (q_nd 1 (q_lf 1 (.inl (q_st 2 (q_fil 1)))) (q_lf 2 (.inl (q_st 3 (q_fil 2)))))) (q_nd 6 (q_nd 3 (q_lf 3 (.inl (q_st 6 (q_fvS TB)))) (q_lf 6 (.inr (.inr (.inr (.inr (9, q_fc 372 4, none))))))) (q_nd 9 (q_lf 9 (.inl (q_st 10 q_fpop))) (q_lf 10 (.inr (.inr (.inl q_rv))))))
theorem q_sm351 {TB : Nat → Option (Nat × Nat × (Nat → Int32))} {τ : Nat → Nat} : ∀ pc x, q_t351 TB pc = some x → q_S9 TB τ q_m351 pc x := q_nd_ok (q_nd_ok (q_lf_ok (q_iload_n (qd_o26 0 0 qd_g692 rfl) rfl rfl)) (q_nd_ok (q_lf_ok (q_iload_n (qd_o27 0 1 qd_g692 rfl) rfl rfl)) (q_lf_ok (q_iload_n (qd_o28 0 2 qd_g692 rfl) rfl rfl)))) (q_nd_ok (q_nd_ok (q_lf_ok (q_fvS_J (q_getstatic (v := q_vS TB) q_vS_ok (fun _ _ _ h => h.2.2.2.2.2.2.1 _ (List.mem_append_right _ (List.mem_singleton.mpr rfl))) (qd_o178 0 3 qd_g692 rfl rfl) q_w1354 rfl))) (q_lf_ok (⟨q_callS' q_e372 (qd_o184 0 6 qd_g692 rfl rfl) rfl rfl (Nat.le_of_ble_eq_true rfl) q_w1362 q_w1364 q_w1358 q_w1363 (by decide +kernel), rfl⟩))) (q_nd_ok (q_lf_ok (q_pop (qd_o87 0 9 qd_g692 rfl) rfl)) (q_lf_ok (q_return (qd_o177 0 10 qd_g692 rfl) rfl))))
end
section
-- 31.9J10
/-! J1_charAt_3b067 -/
noncomputable def q_t352 (TB : Nat → Option (Nat × Nat × (Nat → Int32))) : Nat → Option q_E := q_nd 6 (q_nd 1 (q_nd 0 (q_lf 0 (.inl (q_st 1 (q_fil 1)))) (q_lf 1 (.inl (q_st 2 (q_fal 0))))) (q_nd 2 (q_lf 2 (.inl (q_aln TB 3 4))) (q_nd 3 (q_lf 3 (.inr (.inr (.inr (.inr (6, q_fc 349 2, none)))))) (q_lf 6 (.inl (q_st 7 (q_fal 0))))))) (q_nd 9 (q_nd 7 (q_lf 7 (.inl (q_st 8 (q_fil 1)))) (q_nd 8 (q_lf 8 (.inr (.inl (q_ald TB 9 4)))) (q_lf 9 (.inl (q_st 12 (q_fk (.int 255))))))) (q_nd 12 (q_lf 12 (.inl (q_st 13 (q_fii fun x y => x &&& y)))) (q_nd 13 (q_lf 13 (.inl (q_st 14 (q_f1 q_o_i2c)))) (q_lf 14 (.inr (.inr (.inl q_rc)))))))
theorem q_sm352 {TB : Nat → Option (Nat × Nat × (Nat → Int32))} {τ : Nat → Nat} : ∀ pc x, q_t352 TB pc = some x → q_S9 TB τ q_m352 pc x := q_nd_ok (q_nd_ok (q_nd_ok (q_lf_ok (q_iload_n (qd_o27 0 0 qd_g702 rfl) rfl rfl)) (q_lf_ok (q_aload_n (qd_o42 0 1 qd_g702 rfl) rfl rfl))) (q_nd_ok (q_lf_ok (q_arraylength q_hTB rfl (qd_o190 0 2 qd_g702 rfl) rfl)) (q_nd_ok (q_lf_ok (⟨q_callS' q_e349 (qd_o184 0 3 qd_g702 rfl rfl) rfl rfl (Nat.le_of_ble_eq_true rfl) q_w1365 q_w1287 q_w806 q_w1286 (by decide +kernel), rfl⟩)) (q_lf_ok (q_aload_n (qd_o42 0 6 qd_g702 rfl) rfl rfl))))) (q_nd_ok (q_nd_ok (q_lf_ok (q_iload_n (qd_o27 0 7 qd_g702 rfl) rfl rfl)) (q_nd_ok (q_lf_ok (q_baload q_hTB (qd_o51 0 8 qd_g702 rfl) rfl rfl)) (q_lf_ok (q_sipush (qd_o17 0 9 qd_g702 rfl rfl) qk_s255 rfl)))) (q_nd_ok (q_lf_ok (q_iand (qd_o126 0 12 qd_g702 rfl) rfl)) (q_nd_ok (q_lf_ok (q_i2c (qd_o146 0 13 qd_g702 rfl) rfl)) (q_lf_ok (q_creturn (qd_o172 0 14 qd_g702 rfl) rfl)))))
/-! J1_canEncode_fc78d -/
noncomputable def q_t353 (TB : Nat → Option (Nat × Nat × (Nat → Int32))) : Nat → Option q_E := q_nd 4 (q_nd 0 (q_lf 0 (.inl (q_st 1 (q_fil 0)))) (q_nd 1 (q_lf 1 (.inl (q_st 4 (q_fk (.int 255))))) (q_lf 4 (.inr (.inl (q_br 11 7 (q_b2 fun x y => decide (y < x)))))))) (q_nd 8 (q_nd 7 (q_lf 7 (.inl (q_st 8 (q_fk (.int 1))))) (q_lf 8 (.inl (q_st 12 fun _ st => some st)))) (q_nd 11 (q_lf 11 (.inl (q_st 12 (q_fk (.int 0))))) (q_lf 12 (.inr (.inr (.inl q_rz))))))
theorem q_sm353 {TB : Nat → Option (Nat × Nat × (Nat → Int32))} {τ : Nat → Nat} : ∀ pc x, q_t353 TB pc = some x → q_S9 TB τ q_m353 pc x := q_nd_ok (q_nd_ok (q_lf_ok (q_iload_n (qd_o26 0 0 qd_g703 rfl) rfl rfl)) (q_nd_ok (q_lf_ok (q_sipush (qd_o17 0 1 qd_g703 rfl rfl) qk_s255 rfl)) (q_lf_ok (q_icmp_gt (qd_o163 0 4 qd_g703 rfl rfl) (by decide) rfl)))) (q_nd_ok (q_nd_ok (q_lf_ok (q_iconst (qd_o4 0 7 qd_g703 rfl) qk_i1 rfl)) (q_lf_ok (q_goto (qd_o167 0 8 qd_g703 rfl rfl) (by decide)))) (q_nd_ok (q_lf_ok (q_iconst (qd_o3 0 11 qd_g703 rfl) qk_i0 rfl)) (q_lf_ok (q_zreturn (qd_o172 0 12 qd_g703 rfl) rfl rfl rfl))))
/-! J1_fillNull_b72d1 -/
noncomputable def q_t354 (TB : Nat → Option (Nat × Nat × (Nat → Int32))) : Nat → Option q_E := q_nd 2 (q_nd 0 (q_lf 0 (.inl (q_st 1 (q_fal 0)))) (q_nd 1 (q_lf 1 (.inl (q_st 2 (q_fil 1)))) (q_lf 2 (.inl (q_st 3 (q_fil 2)))))) (q_nd 3 (q_lf 3 (.inl (q_st 4 (q_fk (.int 0))))) (q_nd 4 (q_lf 4 (.inr (.inr (.inr (.inr (7, q_fc 318 4, none)))))) (q_lf 7 (.inr (.inr (.inl q_rv))))))
theorem q_sm354 {TB : Nat → Option (Nat × Nat × (Nat → Int32))} {τ : Nat → Nat} : ∀ pc x, q_t354 TB pc = some x → q_S9 TB τ q_m354 pc x := q_nd_ok (q_nd_ok (q_lf_ok (q_aload_n (qd_o42 0 0 qd_g704 rfl) rfl rfl)) (q_nd_ok (q_lf_ok (q_iload_n (qd_o27 0 1 qd_g704 rfl) rfl rfl)) (q_lf_ok (q_iload_n (qd_o28 0 2 qd_g704 rfl) rfl rfl)))) (q_nd_ok (q_lf_ok (q_iconst (qd_o3 0 3 qd_g704 rfl) qk_i0 rfl)) (q_nd_ok (q_lf_ok (⟨q_callS' q_e318 (qd_o184 0 4 qd_g704 rfl rfl) rfl rfl (Nat.le_of_ble_eq_true rfl) q_w1366 q_w1368 q_w501 q_w1367 (by decide +kernel), rfl⟩)) (q_lf_ok (q_return (qd_o177 0 7 qd_g704 rfl) rfl))))
/-! J1_inflate_0e8fd -/
noncomputable def q_t355 (TB : Nat → Option (Nat × Nat × (Nat → Int32))) : Nat → Option q_E := q_nd 2 (q_nd 0 (q_lf 0 (.inl (q_st 1 (q_fal 0)))) (q_nd 1 (q_lf 1 (.inl (q_st 2 (q_fil 1)))) (q_lf 2 (.inl (q_st 3 (q_fal 2)))))) (q_nd 4 (q_nd 3 (q_lf 3 (.inl (q_st 4 (q_fil 3)))) (q_lf 4 (.inl (q_st 6 (q_fil 4))))) (q_nd 6 (q_lf 6 (.inr (.inr (.inr (.inr (9, q_fc 366 5, none)))))) (q_lf 9 (.inr (.inr (.inl q_rv))))))
theorem q_sm355 {TB : Nat → Option (Nat × Nat × (Nat → Int32))} {τ : Nat → Nat} : ∀ pc x, q_t355 TB pc = some x → q_S9 TB τ q_m355 pc x := q_nd_ok (q_nd_ok (q_lf_ok (q_aload_n (qd_o42 0 0 qd_g705 rfl) rfl rfl)) (q_nd_ok (q_lf_ok (q_iload_n (qd_o27 0 1 qd_g705 rfl) rfl rfl)) (q_lf_ok (q_aload_n (qd_o44 0 2 qd_g705 rfl) rfl rfl)))) (q_nd_ok (q_nd_ok (q_lf_ok (q_iload_n (qd_o29 0 3 qd_g705 rfl) rfl rfl)) (q_lf_ok (q_iload (qd_o21 0 4 qd_g705 rfl rfl) rfl))) (q_nd_ok (q_lf_ok (⟨q_callS' q_e366 (qd_o184 0 6 qd_g705 rfl rfl) rfl rfl (Nat.le_of_ble_eq_true rfl) q_w1369 q_w1371 q_w1245 q_w1370 (by decide +kernel), rfl⟩)) (q_lf_ok (q_return (qd_o177 0 9 qd_g705 rfl) rfl))))
end
section
-- 32.0J20
/-! J2_newBytesFor_77867 -/
noncomputable def q_t356 (TB : Nat → Option (Nat × Nat × (Nat → Int32))) : Nat → Option q_E := q_nd 1 (q_nd 0 (q_lf 0 (.inl (q_st 1 (q_fil 0)))) (q_lf 1 (.inr (.inr (.inr (.inr (4, q_fc 357 1, none))))))) (q_nd 4 (q_lf 4 (.inr (.inl (q_nwa 6 4 (.inl fun _ => 0))))) (q_lf 6 (.inr (.inr (.inl q_ra)))))
theorem q_sm356 {TB : Nat → Option (Nat × Nat × (Nat → Int32))} {τ : Nat → Nat} : ∀ pc x, q_t356 TB pc = some x → q_S9 TB τ q_m356 pc x := q_nd_ok (q_nd_ok (q_lf_ok (q_iload_n (qd_o26 0 0 qd_g706 rfl) rfl rfl)) (q_lf_ok (⟨q_callS' q_e357 (qd_o184 0 1 qd_g706 rfl rfl) rfl rfl (Nat.le_of_ble_eq_true rfl) q_w1372 q_w1374 q_w1245 q_w1373 (by decide +kernel), rfl⟩))) (q_nd_ok (q_lf_ok (q_newarray (ty := .byte) dJ2_newBytesFor_77867_4 q_w1201 rfl rfl (fun C h => by cases h) (by decide) (fun _ _ _ => rfl) (fun _ => trivial) rfl)) (q_lf_ok (q_areturn (qd_o176 6 0 qd_g707 rfl) rfl (Or.inr ⟨_, rfl⟩))))
/-! J2_newBytesLength_0f7a4 -/
set_option maxRecDepth 16384 in
noncomputable def q_t357 (TB : Nat → Option (Nat × Nat × (Nat → Int32))) : Nat → Option q_E := q_nd 21 (q_nd 7 (q_nd 0 (q_lf 0 (.inl (q_st 1 (q_fil 0)))) (q_nd 1 (q_lf 1 (.inr (.inl (q_br 12 4 (q_b1 fun x => decide (0 ≤ x)))))) (q_lf 7 (.inl (q_st 8 q_fdup))))) (q_nd 13 (q_nd 12 (q_lf 12 (.inl (q_st 13 (q_fil 0)))) (q_lf 13 (.inl (q_st 15 (q_fk (.int 1073741823)))))) (q_nd 15 (q_lf 15 (.inr (.inl (q_br 55 18 (q_b2 fun x y => decide (x < y)))))) (q_lf 21 (.inl (q_st 22 q_fdup)))))) (q_nd 43 (q_nd 25 (q_lf 25 (.inl (q_st 26 q_fdup))) (q_nd 34 (q_lf 34 (.inl (q_st 35 (q_fil 0)))) (q_lf 43 (.inl (q_st 45 (q_fk (.int 1073741823))))))) (q_nd 56 (q_nd 55 (q_lf 55 (.inl (q_st 56 (q_fil 0)))) (q_lf 56 (.inl (q_st 57 (q_fk (.int 1)))))) (q_nd 57 (q_lf 57 (.inl (q_st 58 (q_fii fun x y => x <<< (y &&& 31))))) (q_lf 58 (.inr (.inr (.inl q_ri)))))))
set_option maxRecDepth 16384 in
theorem q_sm357 {TB : Nat → Option (Nat × Nat × (Nat → Int32))} {τ : Nat → Nat} : ∀ pc x, q_t357 TB pc = some x → q_S9 TB τ q_m357 pc x := q_nd_ok (q_nd_ok (q_nd_ok (q_lf_ok (q_iload_n (qd_o26 0 0 qd_g708 rfl) rfl rfl)) (q_nd_ok (q_lf_ok (q_if_ge (qd_o156 0 1 qd_g708 rfl rfl) (by decide) rfl)) (q_lf_ok (q_dup (qd_o89 0 7 qd_g708 rfl) rfl)))) (q_nd_ok (q_nd_ok (q_lf_ok (q_iload_n (qd_o26 0 12 qd_g708 rfl) rfl rfl)) (q_lf_ok (q_ldc (qd_o18 0 13 qd_g708 rfl rfl) q_w1375 rfl))) (q_nd_ok (q_lf_ok (q_icmp_lt (qd_o161 0 15 qd_g708 rfl rfl) (by decide) rfl)) (q_lf_ok (q_dup (qd_o89 0 21 qd_g708 rfl) rfl))))) (q_nd_ok (q_nd_ok (q_lf_ok (q_dup (qd_o89 0 25 qd_g708 rfl) rfl)) (q_nd_ok (q_lf_ok (q_iload_n (qd_o26 0 34 qd_g708 rfl) rfl rfl)) (q_lf_ok (q_ldc (qd_o18 40 3 qd_g709 rfl rfl) q_w1375 rfl)))) (q_nd_ok (q_nd_ok (q_lf_ok (q_iload_n (qd_o26 40 15 qd_g709 rfl) rfl rfl)) (q_lf_ok (q_iconst (qd_o4 40 16 qd_g709 rfl) qk_i1 rfl))) (q_nd_ok (q_lf_ok (q_ishl (qd_o120 40 17 qd_g709 rfl) rfl)) (q_lf_ok (q_ireturn (qd_o172 40 18 qd_g709 rfl) rfl)))))
/-! J2_putChar_b72d1 -/
set_option maxRecDepth 16384 in
noncomputable def q_t358 (TB : Nat → Option (Nat × Nat × (Nat → Int32))) : Nat → Option q_E := q_nd 32 (q_nd 12 (q_nd 6 (q_nd 0 (q_lf 0 (.inl (q_st 3 (q_fk (.int 1))))) (q_nd 3 (q_lf 3 (.inr (.inl (q_br 28 6 (q_b1 fun x => decide (¬ x = 0)))))) (q_lf 6 (.inl (q_st 7 (q_fil 1)))))) (q_nd 10 (q_nd 7 (q_lf 7 (.inr (.inl (q_br 18 10 (q_b1 fun x => decide (x < 0)))))) (q_lf 10 (.inl (q_st 11 (q_fil 1))))) (q_nd 11 (q_lf 11 (.inl (q_st 12 (q_fal 0)))) (q_lf 12 (.inr (.inr (.inr (.inr (15, q_fc 360 1, none))))))))) (q_nd 28 (q_nd 15 (q_lf 15 (.inr (.inl (q_br 28 18 (q_b2 fun x y => decide (x < y)))))) (q_nd 21 (q_lf 21 (.inl (q_st 22 q_fdup))) (q_lf 28 (.inl (q_st 29 (q_fil 1)))))) (q_nd 30 (q_nd 29 (q_lf 29 (.inl (q_st 30 (q_fk (.int 1))))) (q_lf 30 (.inl (q_st 31 (q_fii fun x y => x <<< (y &&& 31)))))) (q_nd 31 (q_lf 31 (.inl (q_lo 32 (q_fis 1)))) (q_lf 32 (.inl (q_st 33 (q_fal 0)))))))) (q_nd 43 (q_nd 37 (q_nd 33 (q_lf 33 (.inl (q_st 34 (q_fil 1)))) (q_nd 34 (q_lf 34 (.inl (q_lo 37 (q_finc 1 1)))) (q_lf 37 (.inl (q_st 38 (q_fil 2)))))) (q_nd 41 (q_nd 38 (q_lf 38 (.inl (q_st 41 (q_fk (.int 0))))) (q_lf 41 (.inl (q_st 42 (q_fii fun x y => x >>> (y &&& 31)))))) (q_nd 42 (q_lf 42 (.inl (q_st 43 (q_f1 q_o_i2b)))) (q_lf 43 (.inr (.inl (q_ast 44 4 (vp_nar .byte)))))))) (q_nd 47 (q_nd 45 (q_nd 44 (q_lf 44 (.inl (q_st 45 (q_fal 0)))) (q_lf 45 (.inl (q_st 46 (q_fil 1))))) (q_nd 46 (q_lf 46 (.inl (q_st 47 (q_fil 2)))) (q_lf 47 (.inl (q_st 50 (q_fk (.int 8))))))) (q_nd 51 (q_nd 50 (q_lf 50 (.inl (q_st 51 (q_fii fun x y => x >>> (y &&& 31))))) (q_lf 51 (.inl (q_st 52 (q_f1 q_o_i2b))))) (q_nd 52 (q_lf 52 (.inr (.inl (q_ast 53 4 (vp_nar .byte))))) (q_lf 53 (.inr (.inr (.inl q_rv))))))))
set_option maxRecDepth 16384 in
theorem q_sm358 {TB : Nat → Option (Nat × Nat × (Nat → Int32))} {τ : Nat → Nat} : ∀ pc x, q_t358 TB pc = some x → q_S9 TB τ q_m358 pc x := q_nd_ok (q_nd_ok (q_nd_ok (q_nd_ok (q_lf_ok (q_getstatic (v := .int 1) (fun a h => by cases h) (fun _ _ _ h => h.2.2.2.2.2.2.1 _ (List.mem_append_left _ (List.mem_of_getElem? (i := 8) rfl))) (qd_o178 0 0 qd_g710 rfl rfl) q_w1376 rfl)) (q_nd_ok (q_lf_ok (q_if_ne (qd_o154 0 3 qd_g710 rfl rfl) (by decide) rfl)) (q_lf_ok (q_iload_n (qd_o27 0 6 qd_g710 rfl) rfl rfl)))) (q_nd_ok (q_nd_ok (q_lf_ok (q_if_lt (qd_o155 0 7 qd_g710 rfl rfl) (by decide) rfl)) (q_lf_ok (q_iload_n (qd_o27 0 10 qd_g710 rfl) rfl rfl))) (q_nd_ok (q_lf_ok (q_aload_n (qd_o42 0 11 qd_g710 rfl) rfl rfl)) (q_lf_ok (⟨q_callS' q_e360 (qd_o184 0 12 qd_g710 rfl rfl) rfl rfl (Nat.le_of_ble_eq_true rfl) q_w1377 q_w1379 q_w1245 q_w1378 (by decide +kernel), rfl⟩))))) (q_nd_ok (q_nd_ok (q_lf_ok (q_icmp_lt (qd_o161 0 15 qd_g710 rfl rfl) (by decide) rfl)) (q_nd_ok (q_lf_ok (q_dup (qd_o89 0 21 qd_g710 rfl) rfl)) (q_lf_ok (q_iload_n (qd_o27 0 28 qd_g710 rfl) rfl rfl)))) (q_nd_ok (q_nd_ok (q_lf_ok (q_iconst (qd_o4 0 29 qd_g710 rfl) qk_i1 rfl)) (q_lf_ok (q_ishl (qd_o120 0 30 qd_g710 rfl) rfl))) (q_nd_ok (q_lf_ok (q_istore_n (qd_o60 0 31 qd_g710 rfl) rfl (Nat.le_of_ble_eq_true rfl) rfl)) (q_lf_ok (q_aload_n (qd_o42 0 32 qd_g710 rfl) rfl rfl)))))) (q_nd_ok (q_nd_ok (q_nd_ok (q_lf_ok (q_iload_n (qd_o27 0 33 qd_g710 rfl) rfl rfl)) (q_nd_ok (q_lf_ok (q_iinc (qd_o132 0 34 qd_g710 rfl rfl) qk_i1 (Nat.le_of_ble_eq_true rfl) rfl)) (q_lf_ok (q_iload_n (qd_o28 0 37 qd_g710 rfl) rfl rfl)))) (q_nd_ok (q_nd_ok (q_lf_ok (q_getstatic (v := .int 0) (fun a h => by cases h) (fun _ _ _ h => h.2.2.2.2.2.2.1 _ (List.mem_append_left _ (List.mem_of_getElem? (i := 9) rfl))) (qd_o178 38 0 qd_g711 rfl rfl) q_w1380 rfl)) (q_lf_ok (q_ishr (qd_o122 38 3 qd_g711 rfl) rfl))) (q_nd_ok (q_lf_ok (q_i2b (qd_o145 38 4 qd_g711 rfl) rfl)) (q_lf_ok (q_bastore (qd_o84 38 5 qd_g711 rfl) rfl rfl))))) (q_nd_ok (q_nd_ok (q_nd_ok (q_lf_ok (q_aload_n (qd_o42 38 6 qd_g711 rfl) rfl rfl)) (q_lf_ok (q_iload_n (qd_o27 38 7 qd_g711 rfl) rfl rfl))) (q_nd_ok (q_lf_ok (q_iload_n (qd_o28 38 8 qd_g711 rfl) rfl rfl)) (q_lf_ok (q_getstatic (v := .int 8) (fun a h => by cases h) (fun _ _ _ h => h.2.2.2.2.2.2.1 _ (List.mem_append_left _ (List.mem_of_getElem? (i := 10) rfl))) (qd_o178 38 9 qd_g711 rfl rfl) q_w1381 rfl)))) (q_nd_ok (q_nd_ok (q_lf_ok (q_ishr (qd_o122 38 12 qd_g711 rfl) rfl)) (q_lf_ok (q_i2b (qd_o145 38 13 qd_g711 rfl) rfl))) (q_nd_ok (q_lf_ok (q_bastore (qd_o84 38 14 qd_g711 rfl) rfl rfl)) (q_lf_ok (q_return (qd_o177 38 15 qd_g711 rfl) rfl))))))
/-! J2_getChar_3b067 -/
set_option maxRecDepth 16384 in
noncomputable def q_t359 (TB : Nat → Option (Nat × Nat × (Nat → Int32))) : Nat → Option q_E := q_nd 33 (q_nd 12 (q_nd 6 (q_nd 0 (q_lf 0 (.inl (q_st 3 (q_fk (.int 1))))) (q_nd 3 (q_lf 3 (.inr (.inl (q_br 28 6 (q_b1 fun x => decide (¬ x = 0)))))) (q_lf 6 (.inl (q_st 7 (q_fil 1)))))) (q_nd 10 (q_nd 7 (q_lf 7 (.inr (.inl (q_br 18 10 (q_b1 fun x => decide (x < 0)))))) (q_lf 10 (.inl (q_st 11 (q_fil 1))))) (q_nd 11 (q_lf 11 (.inl (q_st 12 (q_fal 0)))) (q_lf 12 (.inr (.inr (.inr (.inr (15, q_fc 360 1, none))))))))) (q_nd 29 (q_nd 21 (q_nd 15 (q_lf 15 (.inr (.inl (q_br 28 18 (q_b2 fun x y => decide (x < y)))))) (q_lf 21 (.inl (q_st 22 q_fdup)))) (q_nd 28 (q_lf 28 (.inl (q_st 29 (q_fil 1)))) (q_lf 29 (.inl (q_st 30 (q_fk (.int 1))))))) (q_nd 31 (q_nd 30 (q_lf 30 (.inl (q_st 31 (q_fii fun x y => x <<< (y &&& 31))))) (q_lf 31 (.inl (q_lo 32 (q_fis 1))))) (q_nd 32 (q_lf 32 (.inl (q_st 33 (q_fal 0)))) (q_lf 33 (.inl (q_st 34 (q_fil 1)))))))) (q_nd 47 (q_nd 41 (q_nd 37 (q_nd 34 (q_lf 34 (.inl (q_lo 37 (q_finc 1 1)))) (q_lf 37 (.inr (.inl (q_ald TB 38 4))))) (q_nd 38 (q_lf 38 (.inl (q_st 41 (q_fk (.int 255))))) (q_lf 41 (.inl (q_st 42 (q_fii fun x y => x &&& y)))))) (q_nd 45 (q_nd 42 (q_lf 42 (.inl (q_st 45 (q_fk (.int 0))))) (q_lf 45 (.inl (q_st 46 (q_fii fun x y => x <<< (y &&& 31)))))) (q_nd 46 (q_lf 46 (.inl (q_st 47 (q_fal 0)))) (q_lf 47 (.inl (q_st 48 (q_fil 1))))))) (q_nd 53 (q_nd 49 (q_nd 48 (q_lf 48 (.inr (.inl (q_ald TB 49 4)))) (q_lf 49 (.inl (q_st 52 (q_fk (.int 255)))))) (q_nd 52 (q_lf 52 (.inl (q_st 53 (q_fii fun x y => x &&& y)))) (q_lf 53 (.inl (q_st 56 (q_fk (.int 8))))))) (q_nd 57 (q_nd 56 (q_lf 56 (.inl (q_st 57 (q_fii fun x y => x <<< (y &&& 31))))) (q_lf 57 (.inl (q_st 58 (q_fii fun x y => x ||| y))))) (q_nd 58 (q_lf 58 (.inl (q_st 59 (q_f1 q_o_i2c)))) (q_lf 59 (.inr (.inr (.inl q_rc))))))))
set_option maxRecDepth 16384 in
theorem q_sm359 {TB : Nat → Option (Nat × Nat × (Nat → Int32))} {τ : Nat → Nat} : ∀ pc x, q_t359 TB pc = some x → q_S9 TB τ q_m359 pc x := q_nd_ok (q_nd_ok (q_nd_ok (q_nd_ok (q_lf_ok (q_getstatic (v := .int 1) (fun a h => by cases h) (fun _ _ _ h => h.2.2.2.2.2.2.1 _ (List.mem_append_left _ (List.mem_of_getElem? (i := 8) rfl))) (qd_o178 0 0 qd_g712 rfl rfl) q_w1376 rfl)) (q_nd_ok (q_lf_ok (q_if_ne (qd_o154 0 3 qd_g712 rfl rfl) (by decide) rfl)) (q_lf_ok (q_iload_n (qd_o27 0 6 qd_g712 rfl) rfl rfl)))) (q_nd_ok (q_nd_ok (q_lf_ok (q_if_lt (qd_o155 0 7 qd_g712 rfl rfl) (by decide) rfl)) (q_lf_ok (q_iload_n (qd_o27 0 10 qd_g712 rfl) rfl rfl))) (q_nd_ok (q_lf_ok (q_aload_n (qd_o42 0 11 qd_g712 rfl) rfl rfl)) (q_lf_ok (⟨q_callS' q_e360 (qd_o184 0 12 qd_g712 rfl rfl) rfl rfl (Nat.le_of_ble_eq_true rfl) q_w1377 q_w1379 q_w1245 q_w1378 (by decide +kernel), rfl⟩))))) (q_nd_ok (q_nd_ok (q_nd_ok (q_lf_ok (q_icmp_lt (qd_o161 0 15 qd_g712 rfl rfl) (by decide) rfl)) (q_lf_ok (q_dup (qd_o89 0 21 qd_g712 rfl) rfl))) (q_nd_ok (q_lf_ok (q_iload_n (qd_o27 0 28 qd_g712 rfl) rfl rfl)) (q_lf_ok (q_iconst (qd_o4 0 29 qd_g712 rfl) qk_i1 rfl)))) (q_nd_ok (q_nd_ok (q_lf_ok (q_ishl (qd_o120 0 30 qd_g712 rfl) rfl)) (q_lf_ok (q_istore_n (qd_o60 0 31 qd_g712 rfl) rfl (Nat.le_of_ble_eq_true rfl) rfl))) (q_nd_ok (q_lf_ok (q_aload_n (qd_o42 0 32 qd_g712 rfl) rfl rfl)) (q_lf_ok (q_iload_n (qd_o27 0 33 qd_g712 rfl) rfl rfl)))))) (q_nd_ok (q_nd_ok (q_nd_ok (q_nd_ok (q_lf_ok (q_iinc (qd_o132 0 34 qd_g712 rfl rfl) qk_i1 (Nat.le_of_ble_eq_true rfl) rfl)) (q_lf_ok (q_baload q_hTB (qd_o51 0 37 qd_g712 rfl) rfl rfl))) (q_nd_ok (q_lf_ok (q_sipush (qd_o17 38 0 qd_g713 rfl rfl) qk_s255 rfl)) (q_lf_ok (q_iand (qd_o126 38 3 qd_g713 rfl) rfl)))) (q_nd_ok (q_nd_ok (q_lf_ok (q_getstatic (v := .int 0) (fun a h => by cases h) (fun _ _ _ h => h.2.2.2.2.2.2.1 _ (List.mem_append_left _ (List.mem_of_getElem? (i := 9) rfl))) (qd_o178 38 4 qd_g713 rfl rfl) q_w1380 rfl)) (q_lf_ok (q_ishl (qd_o120 38 7 qd_g713 rfl) rfl))) (q_nd_ok (q_lf_ok (q_aload_n (qd_o42 38 8 qd_g713 rfl) rfl rfl)) (q_lf_ok (q_iload_n (qd_o27 38 9 qd_g713 rfl) rfl rfl))))) (q_nd_ok (q_nd_ok (q_nd_ok (q_lf_ok (q_baload q_hTB (qd_o51 38 10 qd_g713 rfl) rfl rfl)) (q_lf_ok (q_sipush (qd_o17 38 11 qd_g713 rfl rfl) qk_s255 rfl))) (q_nd_ok (q_lf_ok (q_iand (qd_o126 38 14 qd_g713 rfl) rfl)) (q_lf_ok (q_getstatic (v := .int 8) (fun a h => by cases h) (fun _ _ _ h => h.2.2.2.2.2.2.1 _ (List.mem_append_left _ (List.mem_of_getElem? (i := 10) rfl))) (qd_o178 38 15 qd_g713 rfl rfl) q_w1381 rfl)))) (q_nd_ok (q_nd_ok (q_lf_ok (q_ishl (qd_o120 38 18 qd_g713 rfl) rfl)) (q_lf_ok (q_ior (qd_o128 38 19 qd_g713 rfl) rfl))) (q_nd_ok (q_lf_ok (q_i2c (qd_o146 38 20 qd_g713 rfl) rfl)) (q_lf_ok (q_creturn (qd_o172 38 21 qd_g713 rfl) rfl))))))
/-! J2_length_9d52b -/
noncomputable def q_t360 (TB : Nat → Option (Nat × Nat × (Nat → Int32))) : Nat → Option q_E := q_nd 1 (q_nd 0 (q_lf 0 (.inl (q_st 1 (q_fal 0)))) (q_lf 1 (.inl (q_aln TB 2 4)))) (q_nd 2 (q_lf 2 (.inl (q_st 3 (q_fk (.int 1))))) (q_nd 3 (q_lf 3 (.inl (q_st 4 (q_fii fun x y => x >>> (y &&& 31))))) (q_lf 4 (.inr (.inr (.inl q_ri))))))
theorem q_sm360 {TB : Nat → Option (Nat × Nat × (Nat → Int32))} {τ : Nat → Nat} : ∀ pc x, q_t360 TB pc = some x → q_S9 TB τ q_m360 pc x := q_nd_ok (q_nd_ok (q_lf_ok (q_aload_n (qd_o42 0 0 qd_g714 rfl) rfl rfl)) (q_lf_ok (q_arraylength q_hTB rfl (qd_o190 0 1 qd_g714 rfl) rfl))) (q_nd_ok (q_lf_ok (q_iconst (qd_o4 0 2 qd_g714 rfl) qk_i1 rfl)) (q_nd_ok (q_lf_ok (q_ishr (qd_o122 0 3 qd_g714 rfl) rfl)) (q_lf_ok (q_ireturn (qd_o172 0 4 qd_g714 rfl) rfl))))
/-! J2_fillNull_b72d1 -/
noncomputable def q_t361 (TB : Nat → Option (Nat × Nat × (Nat → Int32))) : Nat → Option q_E := q_nd 4 (q_nd 1 (q_nd 0 (q_lf 0 (.inl (q_st 1 (q_fal 0)))) (q_lf 1 (.inl (q_st 2 (q_fil 1))))) (q_nd 2 (q_lf 2 (.inl (q_st 3 (q_fk (.int 1))))) (q_nd 3 (q_lf 3 (.inl (q_st 4 (q_fii fun x y => x <<< (y &&& 31))))) (q_lf 4 (.inl (q_st 5 (q_fil 2))))))) (q_nd 6 (q_nd 5 (q_lf 5 (.inl (q_st 6 (q_fk (.int 1))))) (q_lf 6 (.inl (q_st 7 (q_fii fun x y => x <<< (y &&& 31)))))) (q_nd 7 (q_lf 7 (.inl (q_st 8 (q_fk (.int 0))))) (q_nd 8 (q_lf 8 (.inr (.inr (.inr (.inr (11, q_fc 318 4, none)))))) (q_lf 11 (.inr (.inr (.inl q_rv)))))))
theorem q_sm361 {TB : Nat → Option (Nat × Nat × (Nat → Int32))} {τ : Nat → Nat} : ∀ pc x, q_t361 TB pc = some x → q_S9 TB τ q_m361 pc x := q_nd_ok (q_nd_ok (q_nd_ok (q_lf_ok (q_aload_n (qd_o42 0 0 qd_g721 rfl) rfl rfl)) (q_lf_ok (q_iload_n (qd_o27 0 1 qd_g721 rfl) rfl rfl))) (q_nd_ok (q_lf_ok (q_iconst (qd_o4 0 2 qd_g721 rfl) qk_i1 rfl)) (q_nd_ok (q_lf_ok (q_ishl (qd_o120 0 3 qd_g721 rfl) rfl)) (q_lf_ok (q_iload_n (qd_o28 0 4 qd_g721 rfl) rfl rfl))))) (q_nd_ok (q_nd_ok (q_lf_ok (q_iconst (qd_o4 0 5 qd_g721 rfl) qk_i1 rfl)) (q_lf_ok (q_ishl (qd_o120 0 6 qd_g721 rfl) rfl))) (q_nd_ok (q_lf_ok (q_iconst (qd_o3 0 7 qd_g721 rfl) qk_i0 rfl)) (q_nd_ok (q_lf_ok (⟨q_callS' q_e318 (qd_o184 0 8 qd_g721 rfl rfl) rfl rfl (Nat.le_of_ble_eq_true rfl) q_w1382 q_w1368 q_w501 q_w1367 (by decide +kernel), rfl⟩)) (q_lf_ok (q_return (qd_o177 0 11 qd_g721 rfl) rfl)))))
/-! J2_putCharSB_b72d1 -/
noncomputable def q_t362 (TB : Nat → Option (Nat × Nat × (Nat → Int32))) : Nat → Option q_E := q_nd 5 (q_nd 1 (q_nd 0 (q_lf 0 (.inl (q_st 1 (q_fil 1)))) (q_lf 1 (.inl (q_st 2 (q_fal 0))))) (q_nd 2 (q_lf 2 (.inr (.inr (.inr (.inr (5, q_fc 368 2, none)))))) (q_lf 5 (.inl (q_st 6 (q_fal 0)))))) (q_nd 7 (q_nd 6 (q_lf 6 (.inl (q_st 7 (q_fil 1)))) (q_lf 7 (.inl (q_st 8 (q_fil 2))))) (q_nd 8 (q_lf 8 (.inr (.inr (.inr (.inr (11, q_fc 358 3, none)))))) (q_lf 11 (.inr (.inr (.inl q_rv))))))
theorem q_sm362 {TB : Nat → Option (Nat × Nat × (Nat → Int32))} {τ : Nat → Nat} : ∀ pc x, q_t362 TB pc = some x → q_S9 TB τ q_m362 pc x := q_nd_ok (q_nd_ok (q_nd_ok (q_lf_ok (q_iload_n (qd_o27 0 0 qd_g722 rfl) rfl rfl)) (q_lf_ok (q_aload_n (qd_o42 0 1 qd_g722 rfl) rfl rfl))) (q_nd_ok (q_lf_ok (⟨q_callS' q_e368 (qd_o184 0 2 qd_g722 rfl rfl) rfl rfl (Nat.le_of_ble_eq_true rfl) q_w1383 q_w1385 q_w1245 q_w1384 (by decide +kernel), rfl⟩)) (q_lf_ok (q_aload_n (qd_o42 0 5 qd_g722 rfl) rfl rfl)))) (q_nd_ok (q_nd_ok (q_lf_ok (q_iload_n (qd_o27 0 6 qd_g722 rfl) rfl rfl)) (q_lf_ok (q_iload_n (qd_o28 0 7 qd_g722 rfl) rfl rfl))) (q_nd_ok (q_lf_ok (⟨q_callS' q_e358 (qd_o184 0 8 qd_g722 rfl rfl) rfl rfl (Nat.le_of_ble_eq_true rfl) q_w1386 q_w1388 q_w1245 q_w1387 (by decide +kernel), rfl⟩)) (q_lf_ok (q_return (qd_o177 0 11 qd_g722 rfl) rfl))))
/-! J2_getChars_46870 -/
set_option maxRecDepth 16384 in
noncomputable def q_t363 (TB : Nat → Option (Nat × Nat × (Nat → Int32))) : Nat → Option q_E := q_nd 9 (q_nd 3 (q_nd 1 (q_nd 0 (q_lf 0 (.inl (q_st 1 (q_fil 1)))) (q_lf 1 (.inl (q_st 2 (q_fil 2))))) (q_nd 2 (q_lf 2 (.inl (q_st 3 (q_fal 3)))) (q_lf 3 (.inr (.inr (.inr (.inr (6, q_fc 369 3, none)))))))) (q_nd 7 (q_nd 6 (q_lf 6 (.inl (q_st 7 (q_fil 0)))) (q_lf 7 (.inl (q_st 8 (q_fil 2))))) (q_nd 8 (q_lf 8 (.inl (q_st 9 (q_fal 3)))) (q_lf 9 (.inr (.inr (.inr (.inr (12, q_fc 367 3, none))))))))) (q_nd 20 (q_nd 14 (q_nd 12 (q_lf 12 (.inl (q_lo 14 (q_fis 4)))) (q_lf 14 (.inl (q_st 17 (q_fk (.int 1)))))) (q_nd 17 (q_lf 17 (.inr (.inl (q_br 34 20 (q_b1 fun x => decide (¬ x = 0)))))) (q_lf 20 (.inl (q_st 21 (q_fil 1)))))) (q_nd 23 (q_nd 21 (q_lf 21 (.inl (q_st 23 (q_fil 4)))) (q_lf 23 (.inr (.inl (q_br 34 26 (q_b2 fun x y => decide (x = y))))))) (q_nd 29 (q_lf 29 (.inl (q_st 30 q_fdup))) (q_nd 34 (q_lf 34 (.inl (q_st 36 (q_fil 4)))) (q_lf 36 (.inr (.inr (.inl q_ri))))))))
set_option maxRecDepth 16384 in
theorem q_sm363 {TB : Nat → Option (Nat × Nat × (Nat → Int32))} {τ : Nat → Nat} : ∀ pc x, q_t363 TB pc = some x → q_S9 TB τ q_m363 pc x := q_nd_ok (q_nd_ok (q_nd_ok (q_nd_ok (q_lf_ok (q_iload_n (qd_o27 0 0 qd_g723 rfl) rfl rfl)) (q_lf_ok (q_iload_n (qd_o28 0 1 qd_g723 rfl) rfl rfl))) (q_nd_ok (q_lf_ok (q_aload_n (qd_o45 0 2 qd_g723 rfl) rfl rfl)) (q_lf_ok (⟨q_callS' q_e369 (qd_o184 0 3 qd_g723 rfl rfl) rfl rfl (Nat.le_of_ble_eq_true rfl) q_w1389 q_w1391 q_w1245 q_w1390 (by decide +kernel), rfl⟩)))) (q_nd_ok (q_nd_ok (q_lf_ok (q_iload_n (qd_o26 0 6 qd_g723 rfl) rfl rfl)) (q_lf_ok (q_iload_n (qd_o28 0 7 qd_g723 rfl) rfl rfl))) (q_nd_ok (q_lf_ok (q_aload_n (qd_o45 0 8 qd_g723 rfl) rfl rfl)) (q_lf_ok (⟨q_callS' q_e367 (qd_o184 0 9 qd_g723 rfl rfl) rfl rfl (Nat.le_of_ble_eq_true rfl) q_w1392 q_w1394 q_w1245 q_w1393 (by decide +kernel), rfl⟩))))) (q_nd_ok (q_nd_ok (q_nd_ok (q_lf_ok (q_istore (qd_o54 0 12 qd_g723 rfl rfl) (Nat.le_of_ble_eq_true rfl) rfl)) (q_lf_ok (q_getstatic (v := .int 1) (fun a h => by cases h) (fun _ _ _ h => h.2.2.2.2.2.2.1 _ (List.mem_append_left _ (List.mem_of_getElem? (i := 8) rfl))) (qd_o178 0 14 qd_g723 rfl rfl) q_w1376 rfl))) (q_nd_ok (q_lf_ok (q_if_ne (qd_o154 0 17 qd_g723 rfl rfl) (by decide) rfl)) (q_lf_ok (q_iload_n (qd_o27 0 20 qd_g723 rfl) rfl rfl)))) (q_nd_ok (q_nd_ok (q_lf_ok (q_iload (qd_o21 0 21 qd_g723 rfl rfl) rfl)) (q_lf_ok (q_icmp_eq (qd_o159 0 23 qd_g723 rfl rfl) (by decide) rfl))) (q_nd_ok (q_lf_ok (q_dup (qd_o89 0 29 qd_g723 rfl) rfl)) (q_nd_ok (q_lf_ok (q_iload (qd_o21 0 34 qd_g723 rfl rfl) rfl)) (q_lf_ok (q_ireturn (qd_o172 0 36 qd_g723 rfl) rfl))))))
/-! J2_putCharsAt_cd4e5 -/
set_option maxRecDepth 16384 in
noncomputable def q_t364 (TB : Nat → Option (Nat × Nat × (Nat → Int32))) : Nat → Option q_E := q_nd 27 (q_nd 12 (q_nd 3 (q_nd 1 (q_nd 0 (q_lf 0 (.inl (q_st 1 (q_fil 1)))) (q_lf 1 (.inl (q_st 2 (q_fk (.int 4)))))) (q_nd 2 (q_lf 2 (.inl (q_st 3 (q_fii fun x y => x + y)))) (q_lf 3 (.inl (q_lo 5 (q_fis 6)))))) (q_nd 6 (q_nd 5 (q_lf 5 (.inl (q_st 6 (q_fil 1)))) (q_lf 6 (.inl (q_st 8 (q_fil 6))))) (q_nd 8 (q_lf 8 (.inl (q_st 9 (q_fal 0)))) (q_nd 9 (q_lf 9 (.inr (.inr (.inr (.inr (12, q_fc 369 3, none)))))) (q_lf 12 (.inl (q_st 13 (q_fal 0)))))))) (q_nd 18 (q_nd 14 (q_nd 13 (q_lf 13 (.inl (q_st 14 (q_fil 1)))) (q_lf 14 (.inl (q_lo 17 (q_finc 1 1))))) (q_nd 17 (q_lf 17 (.inl (q_st 18 (q_fil 2)))) (q_lf 18 (.inr (.inr (.inr (.inr (21, q_fc 358 3, none)))))))) (q_nd 22 (q_nd 21 (q_lf 21 (.inl (q_st 22 (q_fal 0)))) (q_lf 22 (.inl (q_st 23 (q_fil 1))))) (q_nd 23 (q_lf 23 (.inl (q_lo 26 (q_finc 1 1)))) (q_nd 26 (q_lf 26 (.inl (q_st 27 (q_fil 3)))) (q_lf 27 (.inr (.inr (.inr (.inr (30, q_fc 358 3, none))))))))))) (q_nd 45 (q_nd 35 (q_nd 31 (q_nd 30 (q_lf 30 (.inl (q_st 31 (q_fal 0)))) (q_lf 31 (.inl (q_st 32 (q_fil 1))))) (q_nd 32 (q_lf 32 (.inl (q_lo 35 (q_finc 1 1)))) (q_lf 35 (.inl (q_st 37 (q_fil 4)))))) (q_nd 40 (q_nd 37 (q_lf 37 (.inr (.inr (.inr (.inr (40, q_fc 358 3, none)))))) (q_lf 40 (.inl (q_st 41 (q_fal 0))))) (q_nd 41 (q_lf 41 (.inl (q_st 42 (q_fil 1)))) (q_nd 42 (q_lf 42 (.inl (q_lo 45 (q_finc 1 1)))) (q_lf 45 (.inl (q_st 47 (q_fil 5)))))))) (q_nd 56 (q_nd 50 (q_nd 47 (q_lf 47 (.inr (.inr (.inr (.inr (50, q_fc 358 3, none)))))) (q_lf 50 (.inl (q_st 53 (q_fk (.int 1)))))) (q_nd 53 (q_lf 53 (.inr (.inl (q_br 70 56 (q_b1 fun x => decide (¬ x = 0)))))) (q_lf 56 (.inl (q_st 57 (q_fil 1)))))) (q_nd 59 (q_nd 57 (q_lf 57 (.inl (q_st 59 (q_fil 6)))) (q_lf 59 (.inr (.inl (q_br 70 62 (q_b2 fun x y => decide (x = y))))))) (q_nd 65 (q_lf 65 (.inl (q_st 66 q_fdup))) (q_nd 70 (q_lf 70 (.inl (q_st 72 (q_fil 6)))) (q_lf 72 (.inr (.inr (.inl q_ri)))))))))
set_option maxRecDepth 16384 in
theorem q_sm364 {TB : Nat → Option (Nat × Nat × (Nat → Int32))} {τ : Nat → Nat} : ∀ pc x, q_t364 TB pc = some x → q_S9 TB τ q_m364 pc x := q_nd_ok (q_nd_ok (q_nd_ok (q_nd_ok (q_nd_ok (q_lf_ok (q_iload_n (qd_o27 0 0 qd_g724 rfl) rfl rfl)) (q_lf_ok (q_iconst (qd_o7 0 1 qd_g724 rfl) qk_i4 rfl))) (q_nd_ok (q_lf_ok (q_iadd (qd_o96 0 2 qd_g724 rfl) rfl)) (q_lf_ok (q_istore (qd_o54 0 3 qd_g724 rfl rfl) (Nat.le_of_ble_eq_true rfl) rfl)))) (q_nd_ok (q_nd_ok (q_lf_ok (q_iload_n (qd_o27 0 5 qd_g724 rfl) rfl rfl)) (q_lf_ok (q_iload (qd_o21 0 6 qd_g724 rfl rfl) rfl))) (q_nd_ok (q_lf_ok (q_aload_n (qd_o42 0 8 qd_g724 rfl) rfl rfl)) (q_nd_ok (q_lf_ok (⟨q_callS' q_e369 (qd_o184 0 9 qd_g724 rfl rfl) rfl rfl (Nat.le_of_ble_eq_true rfl) q_w1389 q_w1391 q_w1245 q_w1390 (by decide +kernel), rfl⟩)) (q_lf_ok (q_aload_n (qd_o42 0 12 qd_g724 rfl) rfl rfl)))))) (q_nd_ok (q_nd_ok (q_nd_ok (q_lf_ok (q_iload_n (qd_o27 0 13 qd_g724 rfl) rfl rfl)) (q_lf_ok (q_iinc (qd_o132 0 14 qd_g724 rfl rfl) qk_i1 (Nat.le_of_ble_eq_true rfl) rfl))) (q_nd_ok (q_lf_ok (q_iload_n (qd_o28 0 17 qd_g724 rfl) rfl rfl)) (q_lf_ok (⟨q_callS' q_e358 (qd_o184 0 18 qd_g724 rfl rfl) rfl rfl (Nat.le_of_ble_eq_true rfl) q_w1386 q_w1388 q_w1245 q_w1387 (by decide +kernel), rfl⟩)))) (q_nd_ok (q_nd_ok (q_lf_ok (q_aload_n (qd_o42 0 21 qd_g724 rfl) rfl rfl)) (q_lf_ok (q_iload_n (qd_o27 0 22 qd_g724 rfl) rfl rfl))) (q_nd_ok (q_lf_ok (q_iinc (qd_o132 0 23 qd_g724 rfl rfl) qk_i1 (Nat.le_of_ble_eq_true rfl) rfl)) (q_nd_ok (q_lf_ok (q_iload_n (qd_o29 0 26 qd_g724 rfl) rfl rfl)) (q_lf_ok (⟨q_callS' q_e358 (qd_o184 0 27 qd_g724 rfl rfl) rfl rfl (Nat.le_of_ble_eq_true rfl) q_w1386 q_w1388 q_w1245 q_w1387 (by decide +kernel), rfl⟩))))))) (q_nd_ok (q_nd_ok (q_nd_ok (q_nd_ok (q_lf_ok (q_aload_n (qd_o42 0 30 qd_g724 rfl) rfl rfl)) (q_lf_ok (q_iload_n (qd_o27 0 31 qd_g724 rfl) rfl rfl))) (q_nd_ok (q_lf_ok (q_iinc (qd_o132 0 32 qd_g724 rfl rfl) qk_i1 (Nat.le_of_ble_eq_true rfl) rfl)) (q_lf_ok (q_iload (qd_o21 0 35 qd_g724 rfl rfl) rfl)))) (q_nd_ok (q_nd_ok (q_lf_ok (⟨q_callS' q_e358 (qd_o184 0 37 qd_g724 rfl rfl) rfl rfl (Nat.le_of_ble_eq_true rfl) q_w1386 q_w1388 q_w1245 q_w1387 (by decide +kernel), rfl⟩)) (q_lf_ok (q_aload_n (qd_o42 40 0 qd_g725 rfl) rfl rfl))) (q_nd_ok (q_lf_ok (q_iload_n (qd_o27 40 1 qd_g725 rfl) rfl rfl)) (q_nd_ok (q_lf_ok (q_iinc (qd_o132 40 2 qd_g725 rfl rfl) qk_i1 (Nat.le_of_ble_eq_true rfl) rfl)) (q_lf_ok (q_iload (qd_o21 40 5 qd_g725 rfl rfl) rfl)))))) (q_nd_ok (q_nd_ok (q_nd_ok (q_lf_ok (⟨q_callS' q_e358 (qd_o184 40 7 qd_g725 rfl rfl) rfl rfl (Nat.le_of_ble_eq_true rfl) q_w1386 q_w1388 q_w1245 q_w1387 (by decide +kernel), rfl⟩)) (q_lf_ok (q_getstatic (v := .int 1) (fun a h => by cases h) (fun _ _ _ h => h.2.2.2.2.2.2.1 _ (List.mem_append_left _ (List.mem_of_getElem? (i := 8) rfl))) (qd_o178 40 10 qd_g725 rfl rfl) q_w1376 rfl))) (q_nd_ok (q_lf_ok (q_if_ne (qd_o154 40 13 qd_g725 rfl rfl) (by decide) rfl)) (q_lf_ok (q_iload_n (qd_o27 40 16 qd_g725 rfl) rfl rfl)))) (q_nd_ok (q_nd_ok (q_lf_ok (q_iload (qd_o21 40 17 qd_g725 rfl rfl) rfl)) (q_lf_ok (q_icmp_eq (qd_o159 40 19 qd_g725 rfl rfl) (by decide) rfl))) (q_nd_ok (q_lf_ok (q_dup (qd_o89 40 25 qd_g725 rfl) rfl)) (q_nd_ok (q_lf_ok (q_iload (qd_o21 40 30 qd_g725 rfl rfl) rfl)) (q_lf_ok (q_ireturn (qd_o172 40 32 qd_g725 rfl) rfl)))))))
/-! J2_charAt_3b067 -/
noncomputable def q_t365 (TB : Nat → Option (Nat × Nat × (Nat → Int32))) : Nat → Option q_E := q_nd 2 (q_nd 0 (q_lf 0 (.inl (q_st 1 (q_fil 1)))) (q_nd 1 (q_lf 1 (.inl (q_st 2 (q_fal 0)))) (q_lf 2 (.inr (.inr (.inr (.inr (5, q_fc 368 2, none)))))))) (q_nd 6 (q_nd 5 (q_lf 5 (.inl (q_st 6 (q_fal 0)))) (q_lf 6 (.inl (q_st 7 (q_fil 1))))) (q_nd 7 (q_lf 7 (.inr (.inr (.inr (.inr (10, q_fc 359 2, none)))))) (q_lf 10 (.inr (.inr (.inl q_rc))))))
theorem q_sm365 {TB : Nat → Option (Nat × Nat × (Nat → Int32))} {τ : Nat → Nat} : ∀ pc x, q_t365 TB pc = some x → q_S9 TB τ q_m365 pc x := q_nd_ok (q_nd_ok (q_lf_ok (q_iload_n (qd_o27 0 0 qd_g726 rfl) rfl rfl)) (q_nd_ok (q_lf_ok (q_aload_n (qd_o42 0 1 qd_g726 rfl) rfl rfl)) (q_lf_ok (⟨q_callS' q_e368 (qd_o184 0 2 qd_g726 rfl rfl) rfl rfl (Nat.le_of_ble_eq_true rfl) q_w1383 q_w1385 q_w1245 q_w1384 (by decide +kernel), rfl⟩)))) (q_nd_ok (q_nd_ok (q_lf_ok (q_aload_n (qd_o42 0 5 qd_g726 rfl) rfl rfl)) (q_lf_ok (q_iload_n (qd_o27 0 6 qd_g726 rfl) rfl rfl))) (q_nd_ok (q_lf_ok (⟨q_callS' q_e359 (qd_o184 0 7 qd_g726 rfl rfl) rfl rfl (Nat.le_of_ble_eq_true rfl) q_w1395 q_w1290 q_w1245 q_w1289 (by decide +kernel), rfl⟩)) (q_lf_ok (q_creturn (qd_o172 0 10 qd_g726 rfl) rfl))))
/-! J2_inflate_0e8fd -/
set_option maxRecDepth 16384 in
noncomputable def q_t366 (TB : Nat → Option (Nat × Nat × (Nat → Int32))) : Nat → Option q_E := q_nd 18 (q_nd 7 (q_nd 1 (q_nd 0 (q_lf 0 (.inl (q_st 1 (q_fil 3)))) (q_lf 1 (.inl (q_st 3 (q_fil 4))))) (q_nd 3 (q_lf 3 (.inl (q_st 4 (q_fal 2)))) (q_nd 4 (q_lf 4 (.inr (.inr (.inr (.inr (7, q_fc 370 3, none)))))) (q_lf 7 (.inl (q_st 8 (q_fk (.int 0)))))))) (q_nd 12 (q_nd 8 (q_lf 8 (.inl (q_lo 10 (q_fis 5)))) (q_nd 10 (q_lf 10 (.inl (q_st 12 (q_fil 5)))) (q_lf 12 (.inl (q_st 14 (q_fil 4)))))) (q_nd 14 (q_lf 14 (.inr (.inl (q_br 41 17 (q_b2 fun x y => decide (y ≤ x)))))) (q_nd 17 (q_lf 17 (.inl (q_st 18 (q_fal 2)))) (q_lf 18 (.inl (q_st 19 (q_fil 3)))))))) (q_nd 27 (q_nd 22 (q_nd 19 (q_lf 19 (.inl (q_lo 22 (q_finc 3 1)))) (q_lf 22 (.inl (q_st 23 (q_fal 0))))) (q_nd 23 (q_lf 23 (.inl (q_st 24 (q_fil 1)))) (q_nd 24 (q_lf 24 (.inl (q_lo 27 (q_finc 1 1)))) (q_lf 27 (.inr (.inl (q_ald TB 28 4))))))) (q_nd 32 (q_nd 28 (q_lf 28 (.inl (q_st 31 (q_fk (.int 255))))) (q_nd 31 (q_lf 31 (.inl (q_st 32 (q_fii fun x y => x &&& y)))) (q_lf 32 (.inr (.inr (.inr (.inr (35, q_fc 358 3, none)))))))) (q_nd 35 (q_lf 35 (.inl (q_lo 38 (q_finc 5 1)))) (q_nd 38 (q_lf 38 (.inl (q_st 10 fun _ st => some st))) (q_lf 41 (.inr (.inr (.inl q_rv))))))))
set_option maxRecDepth 16384 in
theorem q_sm366 {TB : Nat → Option (Nat × Nat × (Nat → Int32))} {τ : Nat → Nat} : ∀ pc x, q_t366 TB pc = some x → q_S9 TB τ q_m366 pc x := q_nd_ok (q_nd_ok (q_nd_ok (q_nd_ok (q_lf_ok (q_iload_n (qd_o29 0 0 qd_g727 rfl) rfl rfl)) (q_lf_ok (q_iload (qd_o21 0 1 qd_g727 rfl rfl) rfl))) (q_nd_ok (q_lf_ok (q_aload_n (qd_o44 0 3 qd_g727 rfl) rfl rfl)) (q_nd_ok (q_lf_ok (⟨q_callS' q_e370 (qd_o184 0 4 qd_g727 rfl rfl) rfl rfl (Nat.le_of_ble_eq_true rfl) q_w1396 q_w1398 q_w1245 q_w1397 (by decide +kernel), rfl⟩)) (q_lf_ok (q_iconst (qd_o3 0 7 qd_g727 rfl) qk_i0 rfl))))) (q_nd_ok (q_nd_ok (q_lf_ok (q_istore (qd_o54 0 8 qd_g727 rfl rfl) (Nat.le_of_ble_eq_true rfl) rfl)) (q_nd_ok (q_lf_ok (q_iload (qd_o21 0 10 qd_g727 rfl rfl) rfl)) (q_lf_ok (q_iload (qd_o21 0 12 qd_g727 rfl rfl) rfl)))) (q_nd_ok (q_lf_ok (q_icmp_ge (qd_o162 0 14 qd_g727 rfl rfl) (by decide) rfl)) (q_nd_ok (q_lf_ok (q_aload_n (qd_o44 0 17 qd_g727 rfl) rfl rfl)) (q_lf_ok (q_iload_n (qd_o29 0 18 qd_g727 rfl) rfl rfl)))))) (q_nd_ok (q_nd_ok (q_nd_ok (q_lf_ok (q_iinc (qd_o132 0 19 qd_g727 rfl rfl) qk_i1 (Nat.le_of_ble_eq_true rfl) rfl)) (q_lf_ok (q_aload_n (qd_o42 0 22 qd_g727 rfl) rfl rfl))) (q_nd_ok (q_lf_ok (q_iload_n (qd_o27 0 23 qd_g727 rfl) rfl rfl)) (q_nd_ok (q_lf_ok (q_iinc (qd_o132 0 24 qd_g727 rfl rfl) qk_i1 (Nat.le_of_ble_eq_true rfl) rfl)) (q_lf_ok (q_baload q_hTB (qd_o51 0 27 qd_g727 rfl) rfl rfl))))) (q_nd_ok (q_nd_ok (q_lf_ok (q_sipush (qd_o17 0 28 qd_g727 rfl rfl) qk_s255 rfl)) (q_nd_ok (q_lf_ok (q_iand (qd_o126 0 31 qd_g727 rfl) rfl)) (q_lf_ok (⟨q_callS' q_e358 (qd_o184 0 32 qd_g727 rfl rfl) rfl rfl (Nat.le_of_ble_eq_true rfl) q_w1386 q_w1388 q_w1245 q_w1387 (by decide +kernel), rfl⟩)))) (q_nd_ok (q_lf_ok (q_iinc (qd_o132 0 35 qd_g727 rfl rfl) qk_i1 (Nat.le_of_ble_eq_true rfl) rfl)) (q_nd_ok (q_lf_ok (q_goto (qd_o167 38 0 qd_g728 rfl rfl) (by decide))) (q_lf_ok (q_return (qd_o177 38 3 qd_g728 rfl) rfl))))))
/-! J2_getChars_ba4f3 -/
set_option maxRecDepth 16384 in
noncomputable def q_t367 (TB : Nat → Option (Nat × Nat × (Nat → Int32))) : Nat → Option q_E := q_nd 55 (q_nd 28 (q_nd 12 (q_nd 4 (q_nd 1 (q_nd 0 (q_lf 0 (.inl (q_st 1 (q_fil 1)))) (q_lf 1 (.inl (q_lo 3 (q_fis 5))))) (q_nd 3 (q_lf 3 (.inl (q_st 4 (q_fil 0)))) (q_lf 4 (.inr (.inl (q_br 11 7 (q_b1 fun x => decide (0 ≤ x)))))))) (q_nd 8 (q_nd 7 (q_lf 7 (.inl (q_st 8 (q_fk (.int 1))))) (q_lf 8 (.inl (q_st 12 fun _ st => some st)))) (q_nd 11 (q_lf 11 (.inl (q_st 12 (q_fk (.int 0))))) (q_lf 12 (.inl (q_lo 14 (q_fis 6))))))) (q_nd 20 (q_nd 16 (q_nd 14 (q_lf 14 (.inl (q_st 16 (q_fil 6)))) (q_lf 16 (.inr (.inl (q_br 22 19 (q_b1 fun x => decide (¬ x = 0))))))) (q_nd 19 (q_lf 19 (.inl (q_st 20 (q_fil 0)))) (q_lf 20 (.inl (q_st 21 (q_f1 q_o_ineg)))))) (q_nd 22 (q_nd 21 (q_lf 21 (.inl (q_lo 22 (q_fis 0)))) (q_lf 22 (.inl (q_st 23 (q_fil 0))))) (q_nd 23 (q_lf 23 (.inl (q_st 25 (q_fk (.int (-100)))))) (q_nd 25 (q_lf 25 (.inr (.inl (q_br 76 28 (q_b2 fun x y => decide (y < x)))))) (q_lf 28 (.inl (q_st 29 (q_fil 0))))))))) (q_nd 39 (q_nd 33 (q_nd 31 (q_nd 29 (q_lf 29 (.inl (q_st 31 (q_fk (.int 100))))) (q_lf 31 (.inl (q_st 32 (q_fiz fun x y => x / y))))) (q_nd 32 (q_lf 32 (.inl (q_lo 33 (q_fis 3)))) (q_lf 33 (.inl (q_st 34 (q_fil 3)))))) (q_nd 36 (q_nd 34 (q_lf 34 (.inl (q_st 36 (q_fk (.int 100))))) (q_lf 36 (.inl (q_st 37 (q_fii fun x y => x * y))))) (q_nd 37 (q_lf 37 (.inl (q_st 38 (q_fil 0)))) (q_nd 38 (q_lf 38 (.inl (q_st 39 (q_fii fun x y => x - y)))) (q_lf 39 (.inl (q_lo 41 (q_fis 4)))))))) (q_nd 44 (q_nd 42 (q_nd 41 (q_lf 41 (.inl (q_st 42 (q_fil 3)))) (q_lf 42 (.inl (q_lo 43 (q_fis 0))))) (q_nd 43 (q_lf 43 (.inl (q_st 44 (q_fal 2)))) (q_lf 44 (.inl (q_lo 47 (q_finc 5 (-1))))))) (q_nd 49 (q_nd 47 (q_lf 47 (.inl (q_st 49 (q_fil 5)))) (q_lf 49 (.inl (q_st 52 (q_fk (.ref 6)))))) (q_nd 52 (q_lf 52 (.inl (q_st 54 (q_fil 4)))) (q_nd 54 (q_lf 54 (.inr (.inl (q_ald TB 55 4)))) (q_lf 55 (.inr (.inr (.inr (.inr (58, q_fc 358 3, none)))))))))))) (q_nd 92 (q_nd 76 (q_nd 64 (q_nd 59 (q_nd 58 (q_lf 58 (.inl (q_st 59 (q_fal 2)))) (q_lf 59 (.inl (q_lo 62 (q_finc 5 (-1)))))) (q_nd 62 (q_lf 62 (.inl (q_st 64 (q_fil 5)))) (q_lf 64 (.inl (q_st 67 (q_fk (.ref 7))))))) (q_nd 69 (q_nd 67 (q_lf 67 (.inl (q_st 69 (q_fil 4)))) (q_lf 69 (.inr (.inl (q_ald TB 70 4))))) (q_nd 70 (q_lf 70 (.inr (.inr (.inr (.inr (73, q_fc 358 3, none)))))) (q_nd 73 (q_lf 73 (.inl (q_st 22 fun _ st => some st))) (q_lf 76 (.inl (q_st 77 (q_fal 2)))))))) (q_nd 85 (q_nd 80 (q_nd 77 (q_lf 77 (.inl (q_lo 80 (q_finc 5 (-1))))) (q_lf 80 (.inl (q_st 82 (q_fil 5))))) (q_nd 82 (q_lf 82 (.inl (q_st 85 (q_fk (.ref 6))))) (q_lf 85 (.inl (q_st 86 (q_fil 0)))))) (q_nd 87 (q_nd 86 (q_lf 86 (.inl (q_st 87 (q_f1 q_o_ineg)))) (q_lf 87 (.inr (.inl (q_ald TB 88 4))))) (q_nd 88 (q_lf 88 (.inr (.inr (.inr (.inr (91, q_fc 358 3, none)))))) (q_nd 91 (q_lf 91 (.inl (q_st 92 (q_fil 0)))) (q_lf 92 (.inl (q_st 94 (q_fk (.int (-9))))))))))) (q_nd 109 (q_nd 101 (q_nd 97 (q_nd 94 (q_lf 94 (.inr (.inl (q_br 112 97 (q_b2 fun x y => decide (y ≤ x)))))) (q_lf 97 (.inl (q_st 98 (q_fal 2))))) (q_nd 98 (q_lf 98 (.inl (q_lo 101 (q_finc 5 (-1))))) (q_lf 101 (.inl (q_st 103 (q_fil 5)))))) (q_nd 106 (q_nd 103 (q_lf 103 (.inl (q_st 106 (q_fk (.ref 7))))) (q_lf 106 (.inl (q_st 107 (q_fil 0))))) (q_nd 107 (q_lf 107 (.inl (q_st 108 (q_f1 q_o_ineg)))) (q_nd 108 (q_lf 108 (.inr (.inl (q_ald TB 109 4)))) (q_lf 109 (.inr (.inr (.inr (.inr (112, q_fc 358 3, none)))))))))) (q_nd 118 (q_nd 114 (q_nd 112 (q_lf 112 (.inl (q_st 114 (q_fil 6)))) (q_lf 114 (.inr (.inl (q_br 128 117 (q_b1 fun x => decide (x = 0))))))) (q_nd 117 (q_lf 117 (.inl (q_st 118 (q_fal 2)))) (q_lf 118 (.inl (q_lo 121 (q_finc 5 (-1))))))) (q_nd 123 (q_nd 121 (q_lf 121 (.inl (q_st 123 (q_fil 5)))) (q_lf 123 (.inl (q_st 125 (q_fk (.int 45)))))) (q_nd 125 (q_lf 125 (.inr (.inr (.inr (.inr (128, q_fc 358 3, none)))))) (q_nd 128 (q_lf 128 (.inl (q_st 130 (q_fil 5)))) (q_lf 130 (.inr (.inr (.inl q_ri))))))))))
set_option maxRecDepth 16384 in
theorem q_sm367 {TB : Nat → Option (Nat × Nat × (Nat → Int32))} {τ : Nat → Nat} : ∀ pc x, q_t367 TB pc = some x → q_S9 TB τ q_m367 pc x := q_nd_ok (q_nd_ok (q_nd_ok (q_nd_ok (q_nd_ok (q_nd_ok (q_lf_ok (q_iload_n (qd_o27 0 0 qd_g729 rfl) rfl rfl)) (q_lf_ok (q_istore (qd_o54 0 1 qd_g729 rfl rfl) (Nat.le_of_ble_eq_true rfl) rfl))) (q_nd_ok (q_lf_ok (q_iload_n (qd_o26 0 3 qd_g729 rfl) rfl rfl)) (q_lf_ok (q_if_ge (qd_o156 0 4 qd_g729 rfl rfl) (by decide) rfl)))) (q_nd_ok (q_nd_ok (q_lf_ok (q_iconst (qd_o4 0 7 qd_g729 rfl) qk_i1 rfl)) (q_lf_ok (q_goto (qd_o167 0 8 qd_g729 rfl rfl) (by decide)))) (q_nd_ok (q_lf_ok (q_iconst (qd_o3 0 11 qd_g729 rfl) qk_i0 rfl)) (q_lf_ok (q_istore (qd_o54 0 12 qd_g729 rfl rfl) (Nat.le_of_ble_eq_true rfl) rfl))))) (q_nd_ok (q_nd_ok (q_nd_ok (q_lf_ok (q_iload (qd_o21 0 14 qd_g729 rfl rfl) rfl)) (q_lf_ok (q_if_ne (qd_o154 0 16 qd_g729 rfl rfl) (by decide) rfl))) (q_nd_ok (q_lf_ok (q_iload_n (qd_o26 0 19 qd_g729 rfl) rfl rfl)) (q_lf_ok (q_ineg (qd_o116 0 20 qd_g729 rfl) rfl)))) (q_nd_ok (q_nd_ok (q_lf_ok (q_istore_n (qd_o59 0 21 qd_g729 rfl) rfl (Nat.le_of_ble_eq_true rfl) rfl)) (q_lf_ok (q_iload_n (qd_o26 0 22 qd_g729 rfl) rfl rfl))) (q_nd_ok (q_lf_ok (q_bipush (qd_o16 0 23 qd_g729 rfl rfl) qk_bm100 rfl)) (q_nd_ok (q_lf_ok (q_icmp_gt (qd_o163 0 25 qd_g729 rfl rfl) (by decide) rfl)) (q_lf_ok (q_iload_n (qd_o26 0 28 qd_g729 rfl) rfl rfl))))))) (q_nd_ok (q_nd_ok (q_nd_ok (q_nd_ok (q_lf_ok (q_bipush (qd_o16 0 29 qd_g729 rfl rfl) qk_b100 rfl)) (q_lf_ok (q_idiv (qd_o108 0 31 qd_g729 rfl) rfl))) (q_nd_ok (q_lf_ok (q_istore_n (qd_o62 0 32 qd_g729 rfl) rfl (Nat.le_of_ble_eq_true rfl) rfl)) (q_lf_ok (q_iload_n (qd_o29 0 33 qd_g729 rfl) rfl rfl)))) (q_nd_ok (q_nd_ok (q_lf_ok (q_bipush (qd_o16 0 34 qd_g729 rfl rfl) qk_b100 rfl)) (q_lf_ok (q_imul (qd_o104 0 36 qd_g729 rfl) rfl))) (q_nd_ok (q_lf_ok (q_iload_n (qd_o26 0 37 qd_g729 rfl) rfl rfl)) (q_nd_ok (q_lf_ok (q_isub (qd_o100 0 38 qd_g729 rfl) rfl)) (q_lf_ok (q_istore (qd_o54 39 0 qd_g730 rfl rfl) (Nat.le_of_ble_eq_true rfl) rfl)))))) (q_nd_ok (q_nd_ok (q_nd_ok (q_lf_ok (q_iload_n (qd_o29 39 2 qd_g730 rfl) rfl rfl)) (q_lf_ok (q_istore_n (qd_o59 39 3 qd_g730 rfl) rfl (Nat.le_of_ble_eq_true rfl) rfl))) (q_nd_ok (q_lf_ok (q_aload_n (qd_o44 39 4 qd_g730 rfl) rfl rfl)) (q_lf_ok (q_iinc (qd_o132 39 5 qd_g730 rfl rfl) qk_im1 (Nat.le_of_ble_eq_true rfl) rfl)))) (q_nd_ok (q_nd_ok (q_lf_ok (q_iload (qd_o21 39 8 qd_g730 rfl rfl) rfl)) (q_lf_ok (q_getstatic (v := .ref 6) (fun a h => by cases h; exact Nat.le_of_ble_eq_true rfl) (fun _ _ _ h => h.2.2.2.2.2.2.1 _ (List.mem_append_left _ (List.mem_of_getElem? (i := 5) rfl))) (qd_o178 39 10 qd_g730 rfl rfl) q_w1399 rfl))) (q_nd_ok (q_lf_ok (q_iload (qd_o21 39 13 qd_g730 rfl rfl) rfl)) (q_nd_ok (q_lf_ok (q_baload q_hTB (qd_o51 39 15 qd_g730 rfl) rfl rfl)) (q_lf_ok (⟨q_callS' q_e358 (qd_o184 39 16 qd_g730 rfl rfl) rfl rfl (Nat.le_of_ble_eq_true rfl) q_w1386 q_w1388 q_w1245 q_w1387 (by decide +kernel), rfl⟩)))))))) (q_nd_ok (q_nd_ok (q_nd_ok (q_nd_ok (q_nd_ok (q_lf_ok (q_aload_n (qd_o44 39 19 qd_g730 rfl) rfl rfl)) (q_lf_ok (q_iinc (qd_o132 39 20 qd_g730 rfl rfl) qk_im1 (Nat.le_of_ble_eq_true rfl) rfl))) (q_nd_ok (q_lf_ok (q_iload (qd_o21 39 23 qd_g730 rfl rfl) rfl)) (q_lf_ok (q_getstatic (v := .ref 7) (fun a h => by cases h; exact Nat.le_of_ble_eq_true rfl) (fun _ _ _ h => h.2.2.2.2.2.2.1 _ (List.mem_append_left _ (List.mem_of_getElem? (i := 6) rfl))) (qd_o178 39 25 qd_g730 rfl rfl) q_w1400 rfl)))) (q_nd_ok (q_nd_ok (q_lf_ok (q_iload (qd_o21 39 28 qd_g730 rfl rfl) rfl)) (q_lf_ok (q_baload q_hTB (qd_o51 39 30 qd_g730 rfl) rfl rfl))) (q_nd_ok (q_lf_ok (⟨q_callS' q_e358 (qd_o184 39 31 qd_g730 rfl rfl) rfl rfl (Nat.le_of_ble_eq_true rfl) q_w1386 q_w1388 q_w1245 q_w1387 (by decide +kernel), rfl⟩)) (q_nd_ok (q_lf_ok (q_goto (qd_o167 39 34 qd_g730 rfl rfl) (by decide))) (q_lf_ok (q_aload_n (qd_o44 39 37 qd_g730 rfl) rfl rfl)))))) (q_nd_ok (q_nd_ok (q_nd_ok (q_lf_ok (q_iinc (qd_o132 77 0 qd_g731 rfl rfl) qk_im1 (Nat.le_of_ble_eq_true rfl) rfl)) (q_lf_ok (q_iload (qd_o21 77 3 qd_g731 rfl rfl) rfl))) (q_nd_ok (q_lf_ok (q_getstatic (v := .ref 6) (fun a h => by cases h; exact Nat.le_of_ble_eq_true rfl) (fun _ _ _ h => h.2.2.2.2.2.2.1 _ (List.mem_append_left _ (List.mem_of_getElem? (i := 5) rfl))) (qd_o178 77 5 qd_g731 rfl rfl) q_w1399 rfl)) (q_lf_ok (q_iload_n (qd_o26 77 8 qd_g731 rfl) rfl rfl)))) (q_nd_ok (q_nd_ok (q_lf_ok (q_ineg (qd_o116 77 9 qd_g731 rfl) rfl)) (q_lf_ok (q_baload q_hTB (qd_o51 77 10 qd_g731 rfl) rfl rfl))) (q_nd_ok (q_lf_ok (⟨q_callS' q_e358 (qd_o184 77 11 qd_g731 rfl rfl) rfl rfl (Nat.le_of_ble_eq_true rfl) q_w1386 q_w1388 q_w1245 q_w1387 (by decide +kernel), rfl⟩)) (q_nd_ok (q_lf_ok (q_iload_n (qd_o26 77 14 qd_g731 rfl) rfl rfl)) (q_lf_ok (q_bipush (qd_o16 77 15 qd_g731 rfl rfl) qk_bm9 rfl))))))) (q_nd_ok (q_nd_ok (q_nd_ok (q_nd_ok (q_lf_ok (q_icmp_ge (qd_o162 77 17 qd_g731 rfl rfl) (by decide) rfl)) (q_lf_ok (q_aload_n (qd_o44 77 20 qd_g731 rfl) rfl rfl))) (q_nd_ok (q_lf_ok (q_iinc (qd_o132 77 21 qd_g731 rfl rfl) qk_im1 (Nat.le_of_ble_eq_true rfl) rfl)) (q_lf_ok (q_iload (qd_o21 77 24 qd_g731 rfl rfl) rfl)))) (q_nd_ok (q_nd_ok (q_lf_ok (q_getstatic (v := .ref 7) (fun a h => by cases h; exact Nat.le_of_ble_eq_true rfl) (fun _ _ _ h => h.2.2.2.2.2.2.1 _ (List.mem_append_left _ (List.mem_of_getElem? (i := 6) rfl))) (qd_o178 77 26 qd_g731 rfl rfl) q_w1400 rfl)) (q_lf_ok (q_iload_n (qd_o26 77 29 qd_g731 rfl) rfl rfl))) (q_nd_ok (q_lf_ok (q_ineg (qd_o116 77 30 qd_g731 rfl) rfl)) (q_nd_ok (q_lf_ok (q_baload q_hTB (qd_o51 77 31 qd_g731 rfl) rfl rfl)) (q_lf_ok (⟨q_callS' q_e358 (qd_o184 77 32 qd_g731 rfl rfl) rfl rfl (Nat.le_of_ble_eq_true rfl) q_w1386 q_w1388 q_w1245 q_w1387 (by decide +kernel), rfl⟩)))))) (q_nd_ok (q_nd_ok (q_nd_ok (q_lf_ok (q_iload (qd_o21 77 35 qd_g731 rfl rfl) rfl)) (q_lf_ok (q_if_eq (qd_o153 77 37 qd_g731 rfl rfl) (by decide) rfl))) (q_nd_ok (q_lf_ok (q_aload_n (qd_o44 117 0 qd_g732 rfl) rfl rfl)) (q_lf_ok (q_iinc (qd_o132 117 1 qd_g732 rfl rfl) qk_im1 (Nat.le_of_ble_eq_true rfl) rfl)))) (q_nd_ok (q_nd_ok (q_lf_ok (q_iload (qd_o21 117 4 qd_g732 rfl rfl) rfl)) (q_lf_ok (q_bipush (qd_o16 117 6 qd_g732 rfl rfl) qk_b45 rfl))) (q_nd_ok (q_lf_ok (⟨q_callS' q_e358 (qd_o184 117 8 qd_g732 rfl rfl) rfl rfl (Nat.le_of_ble_eq_true rfl) q_w1386 q_w1388 q_w1245 q_w1387 (by decide +kernel), rfl⟩)) (q_nd_ok (q_lf_ok (q_iload (qd_o21 117 11 qd_g732 rfl rfl) rfl)) (q_lf_ok (q_ireturn (qd_o172 117 13 qd_g732 rfl) rfl))))))))
/-! J2_checkIndex_2214a -/
noncomputable def q_t368 (TB : Nat → Option (Nat × Nat × (Nat → Int32))) : Nat → Option q_E := q_nd 1 (q_nd 0 (q_lf 0 (.inl (q_st 1 (q_fil 0)))) (q_lf 1 (.inl (q_st 2 (q_fal 1))))) (q_nd 2 (q_lf 2 (.inr (.inr (.inr (.inr (5, q_fc 360 1, none)))))) (q_nd 5 (q_lf 5 (.inr (.inr (.inr (.inr (8, q_fc 349 2, none)))))) (q_lf 8 (.inr (.inr (.inl q_rv))))))
theorem q_sm368 {TB : Nat → Option (Nat × Nat × (Nat → Int32))} {τ : Nat → Nat} : ∀ pc x, q_t368 TB pc = some x → q_S9 TB τ q_m368 pc x := q_nd_ok (q_nd_ok (q_lf_ok (q_iload_n (qd_o26 0 0 qd_g733 rfl) rfl rfl)) (q_lf_ok (q_aload_n (qd_o43 0 1 qd_g733 rfl) rfl rfl))) (q_nd_ok (q_lf_ok (⟨q_callS' q_e360 (qd_o184 0 2 qd_g733 rfl rfl) rfl rfl (Nat.le_of_ble_eq_true rfl) q_w1377 q_w1379 q_w1245 q_w1378 (by decide +kernel), rfl⟩)) (q_nd_ok (q_lf_ok (⟨q_callS' q_e349 (qd_o184 0 5 qd_g733 rfl rfl) rfl rfl (Nat.le_of_ble_eq_true rfl) q_w1401 q_w1287 q_w806 q_w1286 (by decide +kernel), rfl⟩)) (q_lf_ok (q_return (qd_o177 0 8 qd_g733 rfl) rfl))))
/-! J2_checkBoundsBeginEnd_d044e -/
noncomputable def q_t369 (TB : Nat → Option (Nat × Nat × (Nat → Int32))) : Nat → Option q_E := q_nd 2 (q_nd 0 (q_lf 0 (.inl (q_st 1 (q_fil 0)))) (q_nd 1 (q_lf 1 (.inl (q_st 2 (q_fil 1)))) (q_lf 2 (.inl (q_st 3 (q_fal 2)))))) (q_nd 3 (q_lf 3 (.inr (.inr (.inr (.inr (6, q_fc 360 1, none)))))) (q_nd 6 (q_lf 6 (.inr (.inr (.inr (.inr (9, q_fc 351 3, none)))))) (q_lf 9 (.inr (.inr (.inl q_rv))))))
theorem q_sm369 {TB : Nat → Option (Nat × Nat × (Nat → Int32))} {τ : Nat → Nat} : ∀ pc x, q_t369 TB pc = some x → q_S9 TB τ q_m369 pc x := q_nd_ok (q_nd_ok (q_lf_ok (q_iload_n (qd_o26 0 0 qd_g734 rfl) rfl rfl)) (q_nd_ok (q_lf_ok (q_iload_n (qd_o27 0 1 qd_g734 rfl) rfl rfl)) (q_lf_ok (q_aload_n (qd_o44 0 2 qd_g734 rfl) rfl rfl)))) (q_nd_ok (q_lf_ok (⟨q_callS' q_e360 (qd_o184 0 3 qd_g734 rfl rfl) rfl rfl (Nat.le_of_ble_eq_true rfl) q_w1377 q_w1379 q_w1245 q_w1378 (by decide +kernel), rfl⟩)) (q_nd_ok (q_lf_ok (⟨q_callS' q_e351 (qd_o184 0 6 qd_g734 rfl rfl) rfl rfl (Nat.le_of_ble_eq_true rfl) q_w1402 q_w1404 q_w806 q_w1403 (by decide +kernel), rfl⟩)) (q_lf_ok (q_return (qd_o177 0 9 qd_g734 rfl) rfl))))
/-! J2_checkBoundsOffCount_d044e -/
noncomputable def q_t370 (TB : Nat → Option (Nat × Nat × (Nat → Int32))) : Nat → Option q_E := q_nd 2 (q_nd 0 (q_lf 0 (.inl (q_st 1 (q_fil 0)))) (q_nd 1 (q_lf 1 (.inl (q_st 2 (q_fil 1)))) (q_lf 2 (.inl (q_st 3 (q_fal 2)))))) (q_nd 6 (q_nd 3 (q_lf 3 (.inr (.inr (.inr (.inr (6, q_fc 360 1, none)))))) (q_lf 6 (.inr (.inr (.inr (.inr (9, q_fc 350 3, none))))))) (q_nd 9 (q_lf 9 (.inl (q_st 10 q_fpop))) (q_lf 10 (.inr (.inr (.inl q_rv))))))
theorem q_sm370 {TB : Nat → Option (Nat × Nat × (Nat → Int32))} {τ : Nat → Nat} : ∀ pc x, q_t370 TB pc = some x → q_S9 TB τ q_m370 pc x := q_nd_ok (q_nd_ok (q_lf_ok (q_iload_n (qd_o26 0 0 qd_g735 rfl) rfl rfl)) (q_nd_ok (q_lf_ok (q_iload_n (qd_o27 0 1 qd_g735 rfl) rfl rfl)) (q_lf_ok (q_aload_n (qd_o44 0 2 qd_g735 rfl) rfl rfl)))) (q_nd_ok (q_nd_ok (q_lf_ok (⟨q_callS' q_e360 (qd_o184 0 3 qd_g735 rfl rfl) rfl rfl (Nat.le_of_ble_eq_true rfl) q_w1377 q_w1379 q_w1245 q_w1378 (by decide +kernel), rfl⟩)) (q_lf_ok (⟨q_callS' q_e350 (qd_o184 0 6 qd_g735 rfl rfl) rfl rfl (Nat.le_of_ble_eq_true rfl) q_w1405 q_w1407 q_w806 q_w1406 (by decide +kernel), rfl⟩))) (q_nd_ok (q_lf_ok (q_pop (qd_o87 0 9 qd_g735 rfl) rfl)) (q_lf_ok (q_return (qd_o177 0 10 qd_g735 rfl) rfl))))
end
section
-- 32.1J30
/-! J3_checkIndex_8e157 -/
noncomputable def q_t371 (TB : Nat → Option (Nat × Nat × (Nat → Int32))) : Nat → Option q_E := q_nd 6 (q_nd 1 (q_nd 0 (q_lf 0 (.inl (q_st 1 (q_fil 0)))) (q_lf 1 (.inr (.inl (q_br 9 4 (q_b1 fun x => decide (x < 0))))))) (q_nd 4 (q_lf 4 (.inl (q_st 5 (q_fil 0)))) (q_nd 5 (q_lf 5 (.inl (q_st 6 (q_fil 1)))) (q_lf 6 (.inr (.inl (q_br 16 9 (q_b2 fun x y => decide (x < y))))))))) (q_nd 10 (q_nd 9 (q_lf 9 (.inl (q_st 10 (q_fal 2)))) (q_lf 10 (.inl (q_st 11 (q_fil 0))))) (q_nd 11 (q_lf 11 (.inl (q_st 12 (q_fil 1)))) (q_nd 16 (q_lf 16 (.inl (q_st 17 (q_fil 0)))) (q_lf 17 (.inr (.inr (.inl q_ri)))))))
theorem q_sm371 {TB : Nat → Option (Nat × Nat × (Nat → Int32))} {τ : Nat → Nat} : ∀ pc x, q_t371 TB pc = some x → q_S9 TB τ q_m371 pc x := q_nd_ok (q_nd_ok (q_nd_ok (q_lf_ok (q_iload_n (qd_o26 0 0 qd_g749 rfl) rfl rfl)) (q_lf_ok (q_if_lt (qd_o155 0 1 qd_g749 rfl rfl) (by decide) rfl))) (q_nd_ok (q_lf_ok (q_iload_n (qd_o26 0 4 qd_g749 rfl) rfl rfl)) (q_nd_ok (q_lf_ok (q_iload_n (qd_o27 0 5 qd_g749 rfl) rfl rfl)) (q_lf_ok (q_icmp_lt (qd_o161 0 6 qd_g749 rfl rfl) (by decide) rfl))))) (q_nd_ok (q_nd_ok (q_lf_ok (q_aload_n (qd_o44 0 9 qd_g749 rfl) rfl rfl)) (q_lf_ok (q_iload_n (qd_o26 0 10 qd_g749 rfl) rfl rfl))) (q_nd_ok (q_lf_ok (q_iload_n (qd_o27 0 11 qd_g749 rfl) rfl rfl)) (q_nd_ok (q_lf_ok (q_iload_n (qd_o26 0 16 qd_g749 rfl) rfl rfl)) (q_lf_ok (q_ireturn (qd_o172 0 17 qd_g749 rfl) rfl)))))
/-! J3_checkFromToIndex_8c36e -/
set_option maxRecDepth 16384 in
noncomputable def q_t372 (TB : Nat → Option (Nat × Nat × (Nat → Int32))) : Nat → Option q_E := q_nd 10 (q_nd 4 (q_nd 0 (q_lf 0 (.inl (q_st 1 (q_fil 0)))) (q_nd 1 (q_lf 1 (.inr (.inl (q_br 14 4 (q_b1 fun x => decide (x < 0)))))) (q_lf 4 (.inl (q_st 5 (q_fil 0)))))) (q_nd 6 (q_nd 5 (q_lf 5 (.inl (q_st 6 (q_fil 1)))) (q_lf 6 (.inr (.inl (q_br 14 9 (q_b2 fun x y => decide (y < x))))))) (q_nd 9 (q_lf 9 (.inl (q_st 10 (q_fil 1)))) (q_lf 10 (.inl (q_st 11 (q_fil 2))))))) (q_nd 15 (q_nd 11 (q_lf 11 (.inr (.inl (q_br 22 14 (q_b2 fun x y => decide (x ≤ y)))))) (q_nd 14 (q_lf 14 (.inl (q_st 15 (q_fal 3)))) (q_lf 15 (.inl (q_st 16 (q_fil 0)))))) (q_nd 17 (q_nd 16 (q_lf 16 (.inl (q_st 17 (q_fil 1)))) (q_lf 17 (.inl (q_st 18 (q_fil 2))))) (q_nd 22 (q_lf 22 (.inl (q_st 23 (q_fil 0)))) (q_lf 23 (.inr (.inr (.inl q_ri)))))))
set_option maxRecDepth 16384 in
theorem q_sm372 {TB : Nat → Option (Nat × Nat × (Nat → Int32))} {τ : Nat → Nat} : ∀ pc x, q_t372 TB pc = some x → q_S9 TB τ q_m372 pc x := q_nd_ok (q_nd_ok (q_nd_ok (q_lf_ok (q_iload_n (qd_o26 0 0 qd_g750 rfl) rfl rfl)) (q_nd_ok (q_lf_ok (q_if_lt (qd_o155 0 1 qd_g750 rfl rfl) (by decide) rfl)) (q_lf_ok (q_iload_n (qd_o26 0 4 qd_g750 rfl) rfl rfl)))) (q_nd_ok (q_nd_ok (q_lf_ok (q_iload_n (qd_o27 0 5 qd_g750 rfl) rfl rfl)) (q_lf_ok (q_icmp_gt (qd_o163 0 6 qd_g750 rfl rfl) (by decide) rfl))) (q_nd_ok (q_lf_ok (q_iload_n (qd_o27 0 9 qd_g750 rfl) rfl rfl)) (q_lf_ok (q_iload_n (qd_o28 0 10 qd_g750 rfl) rfl rfl))))) (q_nd_ok (q_nd_ok (q_lf_ok (q_icmp_le (qd_o164 0 11 qd_g750 rfl rfl) (by decide) rfl)) (q_nd_ok (q_lf_ok (q_aload_n (qd_o45 0 14 qd_g750 rfl) rfl rfl)) (q_lf_ok (q_iload_n (qd_o26 0 15 qd_g750 rfl) rfl rfl)))) (q_nd_ok (q_nd_ok (q_lf_ok (q_iload_n (qd_o27 0 16 qd_g750 rfl) rfl rfl)) (q_lf_ok (q_iload_n (qd_o28 0 17 qd_g750 rfl) rfl rfl))) (q_nd_ok (q_lf_ok (q_iload_n (qd_o26 0 22 qd_g750 rfl) rfl rfl)) (q_lf_ok (q_ireturn (qd_o172 0 23 qd_g750 rfl) rfl)))))
/-! J3_checkFromIndexSize_8c36e -/
set_option maxRecDepth 16384 in
noncomputable def q_t373 (TB : Nat → Option (Nat × Nat × (Nat → Int32))) : Nat → Option q_E := q_nd 9 (q_nd 3 (q_nd 1 (q_nd 0 (q_lf 0 (.inl (q_st 1 (q_fil 2)))) (q_lf 1 (.inl (q_st 2 (q_fil 0))))) (q_nd 2 (q_lf 2 (.inl (q_st 3 (q_fii fun x y => x ||| y)))) (q_lf 3 (.inl (q_st 4 (q_fil 1)))))) (q_nd 5 (q_nd 4 (q_lf 4 (.inl (q_st 5 (q_fii fun x y => x ||| y)))) (q_lf 5 (.inr (.inl (q_br 15 8 (q_b1 fun x => decide (x < 0))))))) (q_nd 8 (q_lf 8 (.inl (q_st 9 (q_fil 1)))) (q_lf 9 (.inl (q_st 10 (q_fil 2))))))) (q_nd 15 (q_nd 11 (q_nd 10 (q_lf 10 (.inl (q_st 11 (q_fil 0)))) (q_lf 11 (.inl (q_st 12 (q_fii fun x y => x - y))))) (q_nd 12 (q_lf 12 (.inr (.inl (q_br 23 15 (q_b2 fun x y => decide (x ≤ y)))))) (q_lf 15 (.inl (q_st 16 (q_fal 3)))))) (q_nd 17 (q_nd 16 (q_lf 16 (.inl (q_st 17 (q_fil 0)))) (q_lf 17 (.inl (q_st 18 (q_fil 1))))) (q_nd 18 (q_lf 18 (.inl (q_st 19 (q_fil 2)))) (q_nd 23 (q_lf 23 (.inl (q_st 24 (q_fil 0)))) (q_lf 24 (.inr (.inr (.inl q_ri))))))))
set_option maxRecDepth 16384 in
theorem q_sm373 {TB : Nat → Option (Nat × Nat × (Nat → Int32))} {τ : Nat → Nat} : ∀ pc x, q_t373 TB pc = some x → q_S9 TB τ q_m373 pc x := q_nd_ok (q_nd_ok (q_nd_ok (q_nd_ok (q_lf_ok (q_iload_n (qd_o28 0 0 qd_g751 rfl) rfl rfl)) (q_lf_ok (q_iload_n (qd_o26 0 1 qd_g751 rfl) rfl rfl))) (q_nd_ok (q_lf_ok (q_ior (qd_o128 0 2 qd_g751 rfl) rfl)) (q_lf_ok (q_iload_n (qd_o27 0 3 qd_g751 rfl) rfl rfl)))) (q_nd_ok (q_nd_ok (q_lf_ok (q_ior (qd_o128 0 4 qd_g751 rfl) rfl)) (q_lf_ok (q_if_lt (qd_o155 0 5 qd_g751 rfl rfl) (by decide) rfl))) (q_nd_ok (q_lf_ok (q_iload_n (qd_o27 0 8 qd_g751 rfl) rfl rfl)) (q_lf_ok (q_iload_n (qd_o28 0 9 qd_g751 rfl) rfl rfl))))) (q_nd_ok (q_nd_ok (q_nd_ok (q_lf_ok (q_iload_n (qd_o26 0 10 qd_g751 rfl) rfl rfl)) (q_lf_ok (q_isub (qd_o100 0 11 qd_g751 rfl) rfl))) (q_nd_ok (q_lf_ok (q_icmp_le (qd_o164 0 12 qd_g751 rfl rfl) (by decide) rfl)) (q_lf_ok (q_aload_n (qd_o45 0 15 qd_g751 rfl) rfl rfl)))) (q_nd_ok (q_nd_ok (q_lf_ok (q_iload_n (qd_o26 0 16 qd_g751 rfl) rfl rfl)) (q_lf_ok (q_iload_n (qd_o27 0 17 qd_g751 rfl) rfl rfl))) (q_nd_ok (q_lf_ok (q_iload_n (qd_o28 0 18 qd_g751 rfl) rfl rfl)) (q_nd_ok (q_lf_ok (q_iload_n (qd_o26 0 23 qd_g751 rfl) rfl rfl)) (q_lf_ok (q_ireturn (qd_o172 0 24 qd_g751 rfl) rfl))))))
end
section
-- 32.2J80
/-! J8_newLength_cabcc -/
set_option maxRecDepth 16384 in
noncomputable def q_t374 (TB : Nat → Option (Nat × Nat × (Nat → Int32))) : Nat → Option q_E := q_nd 10 (q_nd 3 (q_nd 1 (q_nd 0 (q_lf 0 (.inl (q_st 1 (q_fil 0)))) (q_lf 1 (.inl (q_st 2 (q_fil 1))))) (q_nd 2 (q_lf 2 (.inl (q_st 3 (q_fil 2)))) (q_lf 3 (.inl (q_st 6 (q_fm fun x y => if x < y then y else x)))))) (q_nd 7 (q_nd 6 (q_lf 6 (.inl (q_st 7 (q_fii fun x y => x + y)))) (q_lf 7 (.inl (q_lo 8 (q_fis 3))))) (q_nd 8 (q_lf 8 (.inl (q_st 9 (q_fk (.int 0))))) (q_nd 9 (q_lf 9 (.inl (q_st 10 (q_fil 3)))) (q_lf 10 (.inr (.inl (q_br 21 13 (q_b2 fun x y => decide (y ≤ x)))))))))) (q_nd 19 (q_nd 14 (q_nd 13 (q_lf 13 (.inl (q_st 14 (q_fil 3)))) (q_lf 14 (.inl (q_st 16 (q_fk (.int 2147483639)))))) (q_nd 16 (q_lf 16 (.inr (.inl (q_br 21 19 (q_b2 fun x y => decide (y < x)))))) (q_lf 19 (.inl (q_st 20 (q_fil 3)))))) (q_nd 21 (q_nd 20 (q_lf 20 (.inr (.inr (.inl q_ri)))) (q_lf 21 (.inl (q_st 22 (q_fil 0))))) (q_nd 22 (q_lf 22 (.inl (q_st 23 (q_fil 1)))) (q_nd 23 (q_lf 23 (.inr (.inr (.inr (.inr (26, q_fc 375 2, none)))))) (q_lf 26 (.inr (.inr (.inl q_ri))))))))
set_option maxRecDepth 16384 in
theorem q_sm374 {TB : Nat → Option (Nat × Nat × (Nat → Int32))} {τ : Nat → Nat} : ∀ pc x, q_t374 TB pc = some x → q_S9 TB τ q_m374 pc x := q_nd_ok (q_nd_ok (q_nd_ok (q_nd_ok (q_lf_ok (q_iload_n (qd_o26 0 0 qd_g746 rfl) rfl rfl)) (q_lf_ok (q_iload_n (qd_o27 0 1 qd_g746 rfl) rfl rfl))) (q_nd_ok (q_lf_ok (q_iload_n (qd_o28 0 2 qd_g746 rfl) rfl rfl)) (q_lf_ok (q_mmax (qd_o184 0 3 qd_g746 rfl rfl) q_w1408 q_w973 q_w970 q_w974 rfl)))) (q_nd_ok (q_nd_ok (q_lf_ok (q_iadd (qd_o96 0 6 qd_g746 rfl) rfl)) (q_lf_ok (q_istore_n (qd_o62 0 7 qd_g746 rfl) rfl (Nat.le_of_ble_eq_true rfl) rfl))) (q_nd_ok (q_lf_ok (q_iconst (qd_o3 0 8 qd_g746 rfl) qk_i0 rfl)) (q_nd_ok (q_lf_ok (q_iload_n (qd_o29 0 9 qd_g746 rfl) rfl rfl)) (q_lf_ok (q_icmp_ge (qd_o162 0 10 qd_g746 rfl rfl) (by decide) rfl)))))) (q_nd_ok (q_nd_ok (q_nd_ok (q_lf_ok (q_iload_n (qd_o29 0 13 qd_g746 rfl) rfl rfl)) (q_lf_ok (q_ldc (qd_o18 0 14 qd_g746 rfl rfl) q_w1409 rfl))) (q_nd_ok (q_lf_ok (q_icmp_gt (qd_o163 0 16 qd_g746 rfl rfl) (by decide) rfl)) (q_lf_ok (q_iload_n (qd_o29 0 19 qd_g746 rfl) rfl rfl)))) (q_nd_ok (q_nd_ok (q_lf_ok (q_ireturn (qd_o172 0 20 qd_g746 rfl) rfl)) (q_lf_ok (q_iload_n (qd_o26 0 21 qd_g746 rfl) rfl rfl))) (q_nd_ok (q_lf_ok (q_iload_n (qd_o27 0 22 qd_g746 rfl) rfl rfl)) (q_nd_ok (q_lf_ok (⟨q_callS' q_e375 (qd_o184 0 23 qd_g746 rfl rfl) rfl rfl (Nat.le_of_ble_eq_true rfl) q_w1410 q_w1412 q_w1258 q_w1411 (by decide +kernel), rfl⟩)) (q_lf_ok (q_ireturn (qd_o172 0 26 qd_g746 rfl) rfl))))))
/-! J8_hugeLength_7cf53 -/
set_option maxRecDepth 16384 in
noncomputable def q_t375 (TB : Nat → Option (Nat × Nat × (Nat → Int32))) : Nat → Option q_E := q_nd 15 (q_nd 3 (q_nd 1 (q_nd 0 (q_lf 0 (.inl (q_st 1 (q_fil 0)))) (q_lf 1 (.inl (q_st 2 (q_fil 1))))) (q_nd 2 (q_lf 2 (.inl (q_st 3 (q_fii fun x y => x + y)))) (q_lf 3 (.inl (q_lo 4 (q_fis 2)))))) (q_nd 5 (q_nd 4 (q_lf 4 (.inl (q_st 5 (q_fil 2)))) (q_lf 5 (.inr (.inl (q_br 49 8 (q_b1 fun x => decide (0 ≤ x))))))) (q_nd 11 (q_lf 11 (.inl (q_st 12 q_fdup))) (q_lf 15 (.inl (q_st 16 q_fdup)))))) (q_nd 50 (q_nd 33 (q_nd 24 (q_lf 24 (.inl (q_st 25 (q_fil 0)))) (q_lf 33 (.inl (q_st 34 (q_fil 1))))) (q_nd 49 (q_lf 49 (.inl (q_st 50 (q_fil 2)))) (q_lf 50 (.inl (q_st 52 (q_fk (.int 2147483639))))))) (q_nd 55 (q_nd 52 (q_lf 52 (.inr (.inl (q_br 58 55 (q_b2 fun x y => decide (y < x)))))) (q_lf 55 (.inl (q_st 57 (q_fk (.int 2147483639)))))) (q_nd 57 (q_lf 57 (.inr (.inr (.inl q_ri)))) (q_nd 58 (q_lf 58 (.inl (q_st 59 (q_fil 2)))) (q_lf 59 (.inr (.inr (.inl q_ri))))))))
set_option maxRecDepth 16384 in
theorem q_sm375 {TB : Nat → Option (Nat × Nat × (Nat → Int32))} {τ : Nat → Nat} : ∀ pc x, q_t375 TB pc = some x → q_S9 TB τ q_m375 pc x := q_nd_ok (q_nd_ok (q_nd_ok (q_nd_ok (q_lf_ok (q_iload_n (qd_o26 0 0 qd_g747 rfl) rfl rfl)) (q_lf_ok (q_iload_n (qd_o27 0 1 qd_g747 rfl) rfl rfl))) (q_nd_ok (q_lf_ok (q_iadd (qd_o96 0 2 qd_g747 rfl) rfl)) (q_lf_ok (q_istore_n (qd_o61 0 3 qd_g747 rfl) rfl (Nat.le_of_ble_eq_true rfl) rfl)))) (q_nd_ok (q_nd_ok (q_lf_ok (q_iload_n (qd_o28 0 4 qd_g747 rfl) rfl rfl)) (q_lf_ok (q_if_ge (qd_o156 0 5 qd_g747 rfl rfl) (by decide) rfl))) (q_nd_ok (q_lf_ok (q_dup (qd_o89 0 11 qd_g747 rfl) rfl)) (q_lf_ok (q_dup (qd_o89 0 15 qd_g747 rfl) rfl))))) (q_nd_ok (q_nd_ok (q_nd_ok (q_lf_ok (q_iload_n (qd_o26 0 24 qd_g747 rfl) rfl rfl)) (q_lf_ok (q_iload_n (qd_o27 0 33 qd_g747 rfl) rfl rfl))) (q_nd_ok (q_lf_ok (q_iload_n (qd_o28 39 10 qd_g748 rfl) rfl rfl)) (q_lf_ok (q_ldc (qd_o18 39 11 qd_g748 rfl rfl) q_w1409 rfl)))) (q_nd_ok (q_nd_ok (q_lf_ok (q_icmp_gt (qd_o163 39 13 qd_g748 rfl rfl) (by decide) rfl)) (q_lf_ok (q_ldc (qd_o18 39 16 qd_g748 rfl rfl) q_w1409 rfl))) (q_nd_ok (q_lf_ok (q_ireturn (qd_o172 39 18 qd_g748 rfl) rfl)) (q_nd_ok (q_lf_ok (q_iload_n (qd_o28 39 19 qd_g748 rfl) rfl rfl)) (q_lf_ok (q_ireturn (qd_o172 39 20 qd_g748 rfl) rfl))))))
end
section
-- 33.mtab
noncomputable def q_mtab (TB : Nat → Option (Nat × Nat × (Nat → Int32))) : Nat → Nat → Option q_E := q_md 187 (q_md 93 (q_md 46 (q_md 22 (q_md 10 (q_md 4 (q_md 1 (q_md 0 (q_ml 0 (q_t0 TB)) (q_ml 1 (q_t1 TB))) (q_md 2 (q_ml 2 (q_t2 TB)) (q_md 3 (q_ml 3 (q_t3 TB)) (q_ml 4 (q_t4 TB))))) (q_md 7 (q_md 5 (q_ml 5 (q_t5 TB)) (q_md 6 (q_ml 6 (q_t6 TB)) (q_ml 7 (q_t7 TB)))) (q_md 8 (q_ml 8 (q_t8 TB)) (q_md 9 (q_ml 9 (q_t9 TB)) (q_ml 10 (q_t10 TB)))))) (q_md 16 (q_md 13 (q_md 11 (q_ml 11 (q_t11 TB)) (q_md 12 (q_ml 12 (q_t12 TB)) (q_ml 13 (q_t13 TB)))) (q_md 14 (q_ml 14 (q_t14 TB)) (q_md 15 (q_ml 15 (q_t15 TB)) (q_ml 16 (q_t16 TB))))) (q_md 19 (q_md 17 (q_ml 17 (q_t17 TB)) (q_md 18 (q_ml 18 (q_t18 TB)) (q_ml 19 (q_t19 TB)))) (q_md 20 (q_ml 20 (q_t20 TB)) (q_md 21 (q_ml 21 (q_t21 TB)) (q_ml 22 (q_t22 TB))))))) (q_md 34 (q_md 28 (q_md 25 (q_md 23 (q_ml 23 (q_t23 TB)) (q_md 24 (q_ml 24 (q_t24 TB)) (q_ml 25 (q_t25 TB)))) (q_md 26 (q_ml 26 (q_t26 TB)) (q_md 27 (q_ml 27 (q_t27 TB)) (q_ml 28 (q_t28 TB))))) (q_md 31 (q_md 29 (q_ml 29 (q_t29 TB)) (q_md 30 (q_ml 30 (q_t30 TB)) (q_ml 31 (q_t31 TB)))) (q_md 32 (q_ml 32 (q_t32 TB)) (q_md 33 (q_ml 33 (q_t33 TB)) (q_ml 34 (q_t34 TB)))))) (q_md 40 (q_md 37 (q_md 35 (q_ml 35 (q_t35 TB)) (q_md 36 (q_ml 36 (q_t36 TB)) (q_ml 37 (q_t37 TB)))) (q_md 38 (q_ml 38 (q_t38 TB)) (q_md 39 (q_ml 39 (q_t39 TB)) (q_ml 40 (q_t40 TB))))) (q_md 43 (q_md 41 (q_ml 41 (q_t41 TB)) (q_md 42 (q_ml 42 (q_t42 TB)) (q_ml 43 (q_t43 TB)))) (q_md 44 (q_ml 44 (q_t44 TB)) (q_md 45 (q_ml 45 (q_t45 TB)) (q_ml 46 (q_t46 TB)))))))) (q_md 69 (q_md 57 (q_md 51 (q_md 48 (q_md 47 (q_ml 47 (q_t47 TB)) (q_ml 48 (q_t48 TB))) (q_md 49 (q_ml 49 (q_t49 TB)) (q_md 50 (q_ml 50 (q_t50 TB)) (q_ml 51 (q_t51 TB))))) (q_md 54 (q_md 52 (q_ml 52 (q_t52 TB)) (q_md 53 (q_ml 53 (q_t53 TB)) (q_ml 54 (q_t54 TB)))) (q_md 55 (q_ml 55 (q_t55 TB)) (q_md 56 (q_ml 56 (q_t56 TB)) (q_ml 57 (q_t57 TB)))))) (q_md 63 (q_md 60 (q_md 58 (q_ml 58 (q_t58 TB)) (q_md 59 (q_ml 59 (q_t59 TB)) (q_ml 60 (q_t60 TB)))) (q_md 61 (q_ml 61 (q_t61 TB)) (q_md 62 (q_ml 62 (q_t62 TB)) (q_ml 63 (q_t63 TB))))) (q_md 66 (q_md 64 (q_ml 64 (q_t64 TB)) (q_md 65 (q_ml 65 (q_t65 TB)) (q_ml 66 (q_t66 TB)))) (q_md 67 (q_ml 67 (q_t67 TB)) (q_md 68 (q_ml 68 (q_t68 TB)) (q_ml 69 (q_t69 TB))))))) (q_md 81 (q_md 75 (q_md 72 (q_md 70 (q_ml 70 (q_t70 TB)) (q_md 71 (q_ml 71 (q_t71 TB)) (q_ml 72 (q_t72 TB)))) (q_md 73 (q_ml 73 (q_t73 TB)) (q_md 74 (q_ml 74 (q_t74 TB)) (q_ml 75 (q_t75 TB))))) (q_md 78 (q_md 76 (q_ml 76 (q_t76 TB)) (q_md 77 (q_ml 77 (q_t77 TB)) (q_ml 78 (q_t78 TB)))) (q_md 79 (q_ml 79 (q_t79 TB)) (q_md 80 (q_ml 80 (q_t80 TB)) (q_ml 81 (q_t81 TB)))))) (q_md 87 (q_md 84 (q_md 82 (q_ml 82 (q_t82 TB)) (q_md 83 (q_ml 83 (q_t83 TB)) (q_ml 84 (q_t84 TB)))) (q_md 85 (q_ml 85 (q_t85 TB)) (q_md 86 (q_ml 86 (q_t86 TB)) (q_ml 87 (q_t87 TB))))) (q_md 90 (q_md 88 (q_ml 88 (q_t88 TB)) (q_md 89 (q_ml 89 (q_t89 TB)) (q_ml 90 (q_t90 TB)))) (q_md 91 (q_ml 91 (q_t91 TB)) (q_md 92 (q_ml 92 (q_t92 TB)) (q_ml 93 (q_t93 TB))))))))) (q_md 140 (q_md 116 (q_md 104 (q_md 98 (q_md 95 (q_md 94 (q_ml 94 (q_t94 TB)) (q_ml 95 (q_t95 TB))) (q_md 96 (q_ml 96 (q_t96 TB)) (q_md 97 (q_ml 97 (q_t97 TB)) (q_ml 98 (q_t98 TB))))) (q_md 101 (q_md 99 (q_ml 99 (q_t99 TB)) (q_md 100 (q_ml 100 (q_t100 TB)) (q_ml 101 (q_t101 TB)))) (q_md 102 (q_ml 102 (q_t102 TB)) (q_md 103 (q_ml 103 (q_t103 TB)) (q_ml 104 (q_t104 TB)))))) (q_md 110 (q_md 107 (q_md 105 (q_ml 105 (q_t105 TB)) (q_md 106 (q_ml 106 (q_t106 TB)) (q_ml 107 (q_t107 TB)))) (q_md 108 (q_ml 108 (q_t108 TB)) (q_md 109 (q_ml 109 (q_t109 TB)) (q_ml 110 (q_t110 TB))))) (q_md 113 (q_md 111 (q_ml 111 (q_t111 TB)) (q_md 112 (q_ml 112 (q_t112 TB)) (q_ml 113 (q_t113 TB)))) (q_md 114 (q_ml 114 (q_t114 TB)) (q_md 115 (q_ml 115 (q_t115 TB)) (q_ml 116 (q_t116 TB))))))) (q_md 128 (q_md 122 (q_md 119 (q_md 117 (q_ml 117 (q_t117 TB)) (q_md 118 (q_ml 118 (q_t118 TB)) (q_ml 119 (q_t119 TB)))) (q_md 120 (q_ml 120 (q_t120 TB)) (q_md 121 (q_ml 121 (q_t121 TB)) (q_ml 122 (q_t122 TB))))) (q_md 125 (q_md 123 (q_ml 123 (q_t123 TB)) (q_md 124 (q_ml 124 (q_t124 TB)) (q_ml 125 (q_t125 TB)))) (q_md 126 (q_ml 126 (q_t126 TB)) (q_md 127 (q_ml 127 (q_t127 TB)) (q_ml 128 (q_t128 TB)))))) (q_md 134 (q_md 131 (q_md 129 (q_ml 129 (q_t129 TB)) (q_md 130 (q_ml 130 (q_t130 TB)) (q_ml 131 (q_t131 TB)))) (q_md 132 (q_ml 132 (q_t132 TB)) (q_md 133 (q_ml 133 (q_t133 TB)) (q_ml 134 (q_t134 TB))))) (q_md 137 (q_md 135 (q_ml 135 (q_t135 TB)) (q_md 136 (q_ml 136 (q_t136 TB)) (q_ml 137 (q_t137 TB)))) (q_md 138 (q_ml 138 (q_t138 TB)) (q_md 139 (q_ml 139 (q_t139 TB)) (q_ml 140 (q_t140 TB)))))))) (q_md 163 (q_md 151 (q_md 145 (q_md 142 (q_md 141 (q_ml 141 (q_t141 TB)) (q_ml 142 (q_t142 TB))) (q_md 143 (q_ml 143 (q_t143 TB)) (q_md 144 (q_ml 144 (q_t144 TB)) (q_ml 145 (q_t145 TB))))) (q_md 148 (q_md 146 (q_ml 146 (q_t146 TB)) (q_md 147 (q_ml 147 (q_t147 TB)) (q_ml 148 (q_t148 TB)))) (q_md 149 (q_ml 149 (q_t149 TB)) (q_md 150 (q_ml 150 (q_t150 TB)) (q_ml 151 (q_t151 TB)))))) (q_md 157 (q_md 154 (q_md 152 (q_ml 152 (q_t152 TB)) (q_md 153 (q_ml 153 (q_t153 TB)) (q_ml 154 (q_t154 TB)))) (q_md 155 (q_ml 155 (q_t155 TB)) (q_md 156 (q_ml 156 (q_t156 TB)) (q_ml 157 (q_t157 TB))))) (q_md 160 (q_md 158 (q_ml 158 (q_t158 TB)) (q_md 159 (q_ml 159 (q_t159 TB)) (q_ml 160 (q_t160 TB)))) (q_md 161 (q_ml 161 (q_t161 TB)) (q_md 162 (q_ml 162 (q_t162 TB)) (q_ml 163 (q_t163 TB))))))) (q_md 175 (q_md 169 (q_md 166 (q_md 164 (q_ml 164 (q_t164 TB)) (q_md 165 (q_ml 165 (q_t165 TB)) (q_ml 166 (q_t166 TB)))) (q_md 167 (q_ml 167 (q_t167 TB)) (q_md 168 (q_ml 168 (q_t168 TB)) (q_ml 169 (q_t169 TB))))) (q_md 172 (q_md 170 (q_ml 170 (q_t170 TB)) (q_md 171 (q_ml 171 (q_t171 TB)) (q_ml 172 (q_t172 TB)))) (q_md 173 (q_ml 173 (q_t173 TB)) (q_md 174 (q_ml 174 (q_t174 TB)) (q_ml 175 (q_t175 TB)))))) (q_md 181 (q_md 178 (q_md 176 (q_ml 176 (q_t176 TB)) (q_md 177 (q_ml 177 (q_t177 TB)) (q_ml 178 (q_t178 TB)))) (q_md 179 (q_ml 179 (q_t179 TB)) (q_md 180 (q_ml 180 (q_t180 TB)) (q_ml 181 (q_t181 TB))))) (q_md 184 (q_md 182 (q_ml 182 (q_t182 TB)) (q_md 183 (q_ml 183 (q_t183 TB)) (q_ml 184 (q_t184 TB)))) (q_md 185 (q_ml 185 (q_t185 TB)) (q_md 186 (q_ml 186 (q_t186 TB)) (q_ml 187 (q_t187 TB)))))))))) (q_md 281 (q_md 234 (q_md 210 (q_md 198 (q_md 192 (q_md 189 (q_md 188 (q_ml 188 (q_t188 TB)) (q_ml 189 (q_t189 TB))) (q_md 190 (q_ml 190 (q_t190 TB)) (q_md 191 (q_ml 191 (q_t191 TB)) (q_ml 192 (q_t192 TB))))) (q_md 195 (q_md 193 (q_ml 193 (q_t193 TB)) (q_md 194 (q_ml 194 (q_t194 TB)) (q_ml 195 (q_t195 TB)))) (q_md 196 (q_ml 196 (q_t196 TB)) (q_md 197 (q_ml 197 (q_t197 TB)) (q_ml 198 (q_t198 TB)))))) (q_md 204 (q_md 201 (q_md 199 (q_ml 199 (q_t199 TB)) (q_md 200 (q_ml 200 (q_t200 TB)) (q_ml 201 (q_t201 TB)))) (q_md 202 (q_ml 202 (q_t202 TB)) (q_md 203 (q_ml 203 (q_t203 TB)) (q_ml 204 (q_t204 TB))))) (q_md 207 (q_md 205 (q_ml 205 (q_t205 TB)) (q_md 206 (q_ml 206 (q_t206 TB)) (q_ml 207 (q_t207 TB)))) (q_md 208 (q_ml 208 (q_t208 TB)) (q_md 209 (q_ml 209 (q_t209 TB)) (q_ml 210 (q_t210 TB))))))) (q_md 222 (q_md 216 (q_md 213 (q_md 211 (q_ml 211 (q_t211 TB)) (q_md 212 (q_ml 212 (q_t212 TB)) (q_ml 213 (q_t213 TB)))) (q_md 214 (q_ml 214 (q_t214 TB)) (q_md 215 (q_ml 215 (q_t215 TB)) (q_ml 216 (q_t216 TB))))) (q_md 219 (q_md 217 (q_ml 217 (q_t217 TB)) (q_md 218 (q_ml 218 (q_t218 TB)) (q_ml 219 (q_t219 TB)))) (q_md 220 (q_ml 220 (q_t220 TB)) (q_md 221 (q_ml 221 (q_t221 TB)) (q_ml 222 (q_t222 TB)))))) (q_md 228 (q_md 225 (q_md 223 (q_ml 223 (q_t223 TB)) (q_md 224 (q_ml 224 (q_t224 TB)) (q_ml 225 (q_t225 TB)))) (q_md 226 (q_ml 226 (q_t226 TB)) (q_md 227 (q_ml 227 (q_t227 TB)) (q_ml 228 (q_t228 TB))))) (q_md 231 (q_md 229 (q_ml 229 (q_t229 TB)) (q_md 230 (q_ml 230 (q_t230 TB)) (q_ml 231 (q_t231 TB)))) (q_md 232 (q_ml 232 (q_t232 TB)) (q_md 233 (q_ml 233 (q_t233 TB)) (q_ml 234 (q_t234 TB)))))))) (q_md 257 (q_md 245 (q_md 239 (q_md 236 (q_md 235 (q_ml 235 (q_t235 TB)) (q_ml 236 (q_t236 TB))) (q_md 237 (q_ml 237 (q_t237 TB)) (q_md 238 (q_ml 238 (q_t238 TB)) (q_ml 239 (q_t239 TB))))) (q_md 242 (q_md 240 (q_ml 240 (q_t240 TB)) (q_md 241 (q_ml 241 (q_t241 TB)) (q_ml 242 (q_t242 TB)))) (q_md 243 (q_ml 243 (q_t243 TB)) (q_md 244 (q_ml 244 (q_t244 TB)) (q_ml 245 (q_t245 TB)))))) (q_md 251 (q_md 248 (q_md 246 (q_ml 246 (q_t246 TB)) (q_md 247 (q_ml 247 (q_t247 TB)) (q_ml 248 (q_t248 TB)))) (q_md 249 (q_ml 249 (q_t249 TB)) (q_md 250 (q_ml 250 (q_t250 TB)) (q_ml 251 (q_t251 TB))))) (q_md 254 (q_md 252 (q_ml 252 (q_t252 TB)) (q_md 253 (q_ml 253 (q_t253 TB)) (q_ml 254 (q_t254 TB)))) (q_md 255 (q_ml 255 (q_t255 TB)) (q_md 256 (q_ml 256 (q_t256 TB)) (q_ml 257 (q_t257 TB))))))) (q_md 269 (q_md 263 (q_md 260 (q_md 258 (q_ml 258 (q_t258 TB)) (q_md 259 (q_ml 259 (q_t259 TB)) (q_ml 260 (q_t260 TB)))) (q_md 261 (q_ml 261 (q_t261 TB)) (q_md 262 (q_ml 262 (q_t262 TB)) (q_ml 263 (q_t263 TB))))) (q_md 266 (q_md 264 (q_ml 264 (q_t264 TB)) (q_md 265 (q_ml 265 (q_t265 TB)) (q_ml 266 (q_t266 TB)))) (q_md 267 (q_ml 267 (q_t267 TB)) (q_md 268 (q_ml 268 (q_t268 TB)) (q_ml 269 (q_t269 TB)))))) (q_md 275 (q_md 272 (q_md 270 (q_ml 270 (q_t270 TB)) (q_md 271 (q_ml 271 (q_t271 TB)) (q_ml 272 (q_t272 TB)))) (q_md 273 (q_ml 273 (q_t273 TB)) (q_md 274 (q_ml 274 (q_t274 TB)) (q_ml 275 (q_t275 TB))))) (q_md 278 (q_md 276 (q_ml 276 (q_t276 TB)) (q_md 277 (q_ml 277 (q_t277 TB)) (q_ml 278 (q_t278 TB)))) (q_md 279 (q_ml 279 (q_t279 TB)) (q_md 280 (q_ml 280 (q_t280 TB)) (q_ml 281 (q_t281 TB))))))))) (q_md 328 (q_md 304 (q_md 292 (q_md 286 (q_md 283 (q_md 282 (q_ml 282 (q_t282 TB)) (q_ml 283 (q_t283 TB))) (q_md 284 (q_ml 284 (q_t284 TB)) (q_md 285 (q_ml 285 (q_t285 TB)) (q_ml 286 (q_t286 TB))))) (q_md 289 (q_md 287 (q_ml 287 (q_t287 TB)) (q_md 288 (q_ml 288 (q_t288 TB)) (q_ml 289 (q_t289 TB)))) (q_md 290 (q_ml 290 (q_t290 TB)) (q_md 291 (q_ml 291 (q_t291 TB)) (q_ml 292 (q_t292 TB)))))) (q_md 298 (q_md 295 (q_md 293 (q_ml 293 (q_t293 TB)) (q_md 294 (q_ml 294 (q_t294 TB)) (q_ml 295 (q_t295 TB)))) (q_md 296 (q_ml 296 (q_t296 TB)) (q_md 297 (q_ml 297 (q_t297 TB)) (q_ml 298 (q_t298 TB))))) (q_md 301 (q_md 299 (q_ml 299 (q_t299 TB)) (q_md 300 (q_ml 300 (q_t300 TB)) (q_ml 301 (q_t301 TB)))) (q_md 302 (q_ml 302 (q_t302 TB)) (q_md 303 (q_ml 303 (q_t303 TB)) (q_ml 304 (q_t304 TB))))))) (q_md 316 (q_md 310 (q_md 307 (q_md 305 (q_ml 305 (q_t305 TB)) (q_md 306 (q_ml 306 (q_t306 TB)) (q_ml 307 (q_t307 TB)))) (q_md 308 (q_ml 308 (q_t308 TB)) (q_md 309 (q_ml 309 (q_t309 TB)) (q_ml 310 (q_t310 TB))))) (q_md 313 (q_md 311 (q_ml 311 (q_t311 TB)) (q_md 312 (q_ml 312 (q_t312 TB)) (q_ml 313 (q_t313 TB)))) (q_md 314 (q_ml 314 (q_t314 TB)) (q_md 315 (q_ml 315 (q_t315 TB)) (q_ml 316 (q_t316 TB)))))) (q_md 322 (q_md 319 (q_md 317 (q_ml 317 (q_t317 TB)) (q_md 318 (q_ml 318 (q_t318 TB)) (q_ml 319 (q_t319 TB)))) (q_md 320 (q_ml 320 (q_t320 TB)) (q_md 321 (q_ml 321 (q_t321 TB)) (q_ml 322 (q_t322 TB))))) (q_md 325 (q_md 323 (q_ml 323 (q_t323 TB)) (q_md 324 (q_ml 324 (q_t324 TB)) (q_ml 325 (q_t325 TB)))) (q_md 326 (q_ml 326 (q_t326 TB)) (q_md 327 (q_ml 327 (q_t327 TB)) (q_ml 328 (q_t328 TB)))))))) (q_md 352 (q_md 340 (q_md 334 (q_md 331 (q_md 329 (q_ml 329 (q_t329 TB)) (q_md 330 (q_ml 330 (q_t330 TB)) (q_ml 331 (q_t331 TB)))) (q_md 332 (q_ml 332 (q_t332 TB)) (q_md 333 (q_ml 333 (q_t333 TB)) (q_ml 334 (q_t334 TB))))) (q_md 337 (q_md 335 (q_ml 335 (q_t335 TB)) (q_md 336 (q_ml 336 (q_t336 TB)) (q_ml 337 (q_t337 TB)))) (q_md 338 (q_ml 338 (q_t338 TB)) (q_md 339 (q_ml 339 (q_t339 TB)) (q_ml 340 (q_t340 TB)))))) (q_md 346 (q_md 343 (q_md 341 (q_ml 341 (q_t341 TB)) (q_md 342 (q_ml 342 (q_t342 TB)) (q_ml 343 (q_t343 TB)))) (q_md 344 (q_ml 344 (q_t344 TB)) (q_md 345 (q_ml 345 (q_t345 TB)) (q_ml 346 (q_t346 TB))))) (q_md 349 (q_md 347 (q_ml 347 (q_t347 TB)) (q_md 348 (q_ml 348 (q_t348 TB)) (q_ml 349 (q_t349 TB)))) (q_md 350 (q_ml 350 (q_t350 TB)) (q_md 351 (q_ml 351 (q_t351 TB)) (q_ml 352 (q_t352 TB))))))) (q_md 364 (q_md 358 (q_md 355 (q_md 353 (q_ml 353 (q_t353 TB)) (q_md 354 (q_ml 354 (q_t354 TB)) (q_ml 355 (q_t355 TB)))) (q_md 356 (q_ml 356 (q_t356 TB)) (q_md 357 (q_ml 357 (q_t357 TB)) (q_ml 358 (q_t358 TB))))) (q_md 361 (q_md 359 (q_ml 359 (q_t359 TB)) (q_md 360 (q_ml 360 (q_t360 TB)) (q_ml 361 (q_t361 TB)))) (q_md 362 (q_ml 362 (q_t362 TB)) (q_md 363 (q_ml 363 (q_t363 TB)) (q_ml 364 (q_t364 TB)))))) (q_md 370 (q_md 367 (q_md 365 (q_ml 365 (q_t365 TB)) (q_md 366 (q_ml 366 (q_t366 TB)) (q_ml 367 (q_t367 TB)))) (q_md 368 (q_ml 368 (q_t368 TB)) (q_md 369 (q_ml 369 (q_t369 TB)) (q_ml 370 (q_t370 TB))))) (q_md 373 (q_md 371 (q_ml 371 (q_t371 TB)) (q_md 372 (q_ml 372 (q_t372 TB)) (q_ml 373 (q_t373 TB)))) (q_md 374 (q_ml 374 (q_t374 TB)) (q_md 375 (q_ml 375 (q_t375 TB)) (q_ml 376 (q_t376 TB))))))))))
theorem q_mdS {TB : Nat → Option (Nat × Nat × (Nat → Int32))} {τ : Nat → Nat} {m : Nat} {A B : Nat → Nat → Option q_E} (hA : ∀ k pc x, A k pc = some x → q_S9 TB τ (q_mt k) pc x) (hB : ∀ k pc x, B k pc = some x → q_S9 TB τ (q_mt k) pc x) : ∀ k pc x, q_md m A B k pc = some x → q_S9 TB τ (q_mt k) pc x := q_md_ok (P := fun k pc x => q_S9 TB τ (q_mt k) pc x) hA hB
theorem q_mlS {TB : Nat → Option (Nat × Nat × (Nat → Int32))} {τ : Nat → Nat} {n : Nat} {M : q_M} {t : Nat → Option q_E} (e : q_mt n = M) (h : ∀ pc x, t pc = some x → q_S9 TB τ M pc x) : ∀ k pc x, q_ml n t k pc = some x → q_S9 TB τ (q_mt k) pc x := by
  subst e
  exact q_ml_ok (P := fun k pc x => q_S9 TB τ (q_mt k) pc x) h
theorem q_mtab_ok {TB : Nat → Option (Nat × Nat × (Nat → Int32))} {τ : Nat → Nat} : ∀ k pc x, q_mtab TB k pc = some x → q_S9 TB τ (q_mt k) pc x := q_mdS (q_mdS (q_mdS (q_mdS (q_mdS (q_mdS (q_mdS (q_mdS (q_mlS q_e0 q_sm0) (q_mlS q_e1 q_sm1)) (q_mdS (q_mlS q_e2 q_sm2) (q_mdS (q_mlS q_e3 q_sm3) (q_mlS q_e4 q_sm4)))) (q_mdS (q_mdS (q_mlS q_e5 q_sm5) (q_mdS (q_mlS q_e6 q_sm6) (q_mlS q_e7 q_sm7))) (q_mdS (q_mlS q_e8 q_sm8) (q_mdS (q_mlS q_e9 q_sm9) (q_mlS q_e10 q_sm10))))) (q_mdS (q_mdS (q_mdS (q_mlS q_e11 q_sm11) (q_mdS (q_mlS q_e12 q_sm12) (q_mlS q_e13 q_sm13))) (q_mdS (q_mlS q_e14 q_sm14) (q_mdS (q_mlS q_e15 q_sm15) (q_mlS q_e16 q_sm16)))) (q_mdS (q_mdS (q_mlS q_e17 q_sm17) (q_mdS (q_mlS q_e18 q_sm18) (q_mlS q_e19 q_sm19))) (q_mdS (q_mlS q_e20 q_sm20) (q_mdS (q_mlS q_e21 q_sm21) (q_mlS q_e22 q_sm22)))))) (q_mdS (q_mdS (q_mdS (q_mdS (q_mlS q_e23 q_sm23) (q_mdS (q_mlS q_e24 q_sm24) (q_mlS q_e25 q_sm25))) (q_mdS (q_mlS q_e26 q_sm26) (q_mdS (q_mlS q_e27 q_sm27) (q_mlS q_e28 q_sm28)))) (q_mdS (q_mdS (q_mlS q_e29 q_sm29) (q_mdS (q_mlS q_e30 q_sm30) (q_mlS q_e31 q_sm31))) (q_mdS (q_mlS q_e32 q_sm32) (q_mdS (q_mlS q_e33 q_sm33) (q_mlS q_e34 q_sm34))))) (q_mdS (q_mdS (q_mdS (q_mlS q_e35 q_sm35) (q_mdS (q_mlS q_e36 q_sm36) (q_mlS q_e37 q_sm37))) (q_mdS (q_mlS q_e38 q_sm38) (q_mdS (q_mlS q_e39 q_sm39) (q_mlS q_e40 q_sm40)))) (q_mdS (q_mdS (q_mlS q_e41 q_sm41) (q_mdS (q_mlS q_e42 q_sm42) (q_mlS q_e43 q_sm43))) (q_mdS (q_mlS q_e44 q_sm44) (q_mdS (q_mlS q_e45 q_sm45) (q_mlS q_e46 q_sm46))))))) (q_mdS (q_mdS (q_mdS (q_mdS (q_mdS (q_mlS q_e47 q_sm47) (q_mlS q_e48 q_sm48)) (q_mdS (q_mlS q_e49 q_sm49) (q_mdS (q_mlS q_e50 q_sm50) (q_mlS q_e51 q_sm51)))) (q_mdS (q_mdS (q_mlS q_e52 q_sm52) (q_mdS (q_mlS q_e53 q_sm53) (q_mlS q_e54 q_sm54))) (q_mdS (q_mlS q_e55 q_sm55) (q_mdS (q_mlS q_e56 q_sm56) (q_mlS q_e57 q_sm57))))) (q_mdS (q_mdS (q_mdS (q_mlS q_e58 q_sm58) (q_mdS (q_mlS q_e59 q_sm59) (q_mlS q_e60 q_sm60))) (q_mdS (q_mlS q_e61 q_sm61) (q_mdS (q_mlS q_e62 q_sm62) (q_mlS q_e63 q_sm63)))) (q_mdS (q_mdS (q_mlS q_e64 q_sm64) (q_mdS (q_mlS q_e65 q_sm65) (q_mlS q_e66 q_sm66))) (q_mdS (q_mlS q_e67 q_sm67) (q_mdS (q_mlS q_e68 q_sm68) (q_mlS q_e69 q_sm69)))))) (q_mdS (q_mdS (q_mdS (q_mdS (q_mlS q_e70 q_sm70) (q_mdS (q_mlS q_e71 q_sm71) (q_mlS q_e72 q_sm72))) (q_mdS (q_mlS q_e73 q_sm73) (q_mdS (q_mlS q_e74 q_sm74) (q_mlS q_e75 q_sm75)))) (q_mdS (q_mdS (q_mlS q_e76 q_sm76) (q_mdS (q_mlS q_e77 q_sm77) (q_mlS q_e78 q_sm78))) (q_mdS (q_mlS q_e79 q_sm79) (q_mdS (q_mlS q_e80 q_sm80) (q_mlS q_e81 q_sm81))))) (q_mdS (q_mdS (q_mdS (q_mlS q_e82 q_sm82) (q_mdS (q_mlS q_e83 q_sm83) (q_mlS q_e84 q_sm84))) (q_mdS (q_mlS q_e85 q_sm85) (q_mdS (q_mlS q_e86 q_sm86) (q_mlS q_e87 q_sm87)))) (q_mdS (q_mdS (q_mlS q_e88 q_sm88) (q_mdS (q_mlS q_e89 q_sm89) (q_mlS q_e90 q_sm90))) (q_mdS (q_mlS q_e91 q_sm91) (q_mdS (q_mlS q_e92 q_sm92) (q_mlS q_e93 q_sm93)))))))) (q_mdS (q_mdS (q_mdS (q_mdS (q_mdS (q_mdS (q_mlS q_e94 q_sm94) (q_mlS q_e95 q_sm95)) (q_mdS (q_mlS q_e96 q_sm96) (q_mdS (q_mlS q_e97 q_sm97) (q_mlS q_e98 q_sm98)))) (q_mdS (q_mdS (q_mlS q_e99 q_sm99) (q_mdS (q_mlS q_e100 q_sm100) (q_mlS q_e101 q_sm101))) (q_mdS (q_mlS q_e102 q_sm102) (q_mdS (q_mlS q_e103 q_sm103) (q_mlS q_e104 q_sm104))))) (q_mdS (q_mdS (q_mdS (q_mlS q_e105 q_sm105) (q_mdS (q_mlS q_e106 q_sm106) (q_mlS q_e107 q_sm107))) (q_mdS (q_mlS q_e108 q_sm108) (q_mdS (q_mlS q_e109 q_sm109) (q_mlS q_e110 q_sm110)))) (q_mdS (q_mdS (q_mlS q_e111 q_sm111) (q_mdS (q_mlS q_e112 q_sm112) (q_mlS q_e113 q_sm113))) (q_mdS (q_mlS q_e114 q_sm114) (q_mdS (q_mlS q_e115 q_sm115) (q_mlS q_e116 q_sm116)))))) (q_mdS (q_mdS (q_mdS (q_mdS (q_mlS q_e117 q_sm117) (q_mdS (q_mlS q_e118 q_sm118) (q_mlS q_e119 q_sm119))) (q_mdS (q_mlS q_e120 q_sm120) (q_mdS (q_mlS q_e121 q_sm121) (q_mlS q_e122 q_sm122)))) (q_mdS (q_mdS (q_mlS q_e123 q_sm123) (q_mdS (q_mlS q_e124 q_sm124) (q_mlS q_e125 q_sm125))) (q_mdS (q_mlS q_e126 q_sm126) (q_mdS (q_mlS q_e127 q_sm127) (q_mlS q_e128 q_sm128))))) (q_mdS (q_mdS (q_mdS (q_mlS q_e129 q_sm129) (q_mdS (q_mlS q_e130 q_sm130) (q_mlS q_e131 q_sm131))) (q_mdS (q_mlS q_e132 q_sm132) (q_mdS (q_mlS q_e133 q_sm133) (q_mlS q_e134 q_sm134)))) (q_mdS (q_mdS (q_mlS q_e135 q_sm135) (q_mdS (q_mlS q_e136 q_sm136) (q_mlS q_e137 q_sm137))) (q_mdS (q_mlS q_e138 q_sm138) (q_mdS (q_mlS q_e139 q_sm139) (q_mlS q_e140 q_sm140))))))) (q_mdS (q_mdS (q_mdS (q_mdS (q_mdS (q_mlS q_e141 q_sm141) (q_mlS q_e142 q_sm142)) (q_mdS (q_mlS q_e143 q_sm143) (q_mdS (q_mlS q_e144 q_sm144) (q_mlS q_e145 q_sm145)))) (q_mdS (q_mdS (q_mlS q_e146 q_sm146) (q_mdS (q_mlS q_e147 q_sm147) (q_mlS q_e148 q_sm148))) (q_mdS (q_mlS q_e149 q_sm149) (q_mdS (q_mlS q_e150 q_sm150) (q_mlS q_e151 q_sm151))))) (q_mdS (q_mdS (q_mdS (q_mlS q_e152 q_sm152) (q_mdS (q_mlS q_e153 q_sm153) (q_mlS q_e154 q_sm154))) (q_mdS (q_mlS q_e155 q_sm155) (q_mdS (q_mlS q_e156 q_sm156) (q_mlS q_e157 q_sm157)))) (q_mdS (q_mdS (q_mlS q_e158 q_sm158) (q_mdS (q_mlS q_e159 q_sm159) (q_mlS q_e160 q_sm160))) (q_mdS (q_mlS q_e161 q_sm161) (q_mdS (q_mlS q_e162 q_sm162) (q_mlS q_e163 q_sm163)))))) (q_mdS (q_mdS (q_mdS (q_mdS (q_mlS q_e164 q_sm164) (q_mdS (q_mlS q_e165 q_sm165) (q_mlS q_e166 q_sm166))) (q_mdS (q_mlS q_e167 q_sm167) (q_mdS (q_mlS q_e168 q_sm168) (q_mlS q_e169 q_sm169)))) (q_mdS (q_mdS (q_mlS q_e170 q_sm170) (q_mdS (q_mlS q_e171 q_sm171) (q_mlS q_e172 q_sm172))) (q_mdS (q_mlS q_e173 q_sm173) (q_mdS (q_mlS q_e174 q_sm174) (q_mlS q_e175 q_sm175))))) (q_mdS (q_mdS (q_mdS (q_mlS q_e176 q_sm176) (q_mdS (q_mlS q_e177 q_sm177) (q_mlS q_e178 q_sm178))) (q_mdS (q_mlS q_e179 q_sm179) (q_mdS (q_mlS q_e180 q_sm180) (q_mlS q_e181 q_sm181)))) (q_mdS (q_mdS (q_mlS q_e182 q_sm182) (q_mdS (q_mlS q_e183 q_sm183) (q_mlS q_e184 q_sm184))) (q_mdS (q_mlS q_e185 q_sm185) (q_mdS (q_mlS q_e186 q_sm186) (q_mlS q_e187 q_sm187))))))))) (q_mdS (q_mdS (q_mdS (q_mdS (q_mdS (q_mdS (q_mdS (q_mlS q_e188 q_sm188) (q_mlS q_e189 q_sm189)) (q_mdS (q_mlS q_e190 q_sm190) (q_mdS (q_mlS q_e191 q_sm191) (q_mlS q_e192 q_sm192)))) (q_mdS (q_mdS (q_mlS q_e193 q_sm193) (q_mdS (q_mlS q_e194 q_sm194) (q_mlS q_e195 q_sm195))) (q_mdS (q_mlS q_e196 q_sm196) (q_mdS (q_mlS q_e197 q_sm197) (q_mlS q_e198 q_sm198))))) (q_mdS (q_mdS (q_mdS (q_mlS q_e199 q_sm199) (q_mdS (q_mlS q_e200 q_sm200) (q_mlS q_e201 q_sm201))) (q_mdS (q_mlS q_e202 q_sm202) (q_mdS (q_mlS q_e203 q_sm203) (q_mlS q_e204 q_sm204)))) (q_mdS (q_mdS (q_mlS q_e205 q_sm205) (q_mdS (q_mlS q_e206 q_sm206) (q_mlS q_e207 q_sm207))) (q_mdS (q_mlS q_e208 q_sm208) (q_mdS (q_mlS q_e209 q_sm209) (q_mlS q_e210 q_sm210)))))) (q_mdS (q_mdS (q_mdS (q_mdS (q_mlS q_e211 q_sm211) (q_mdS (q_mlS q_e212 q_sm212) (q_mlS q_e213 q_sm213))) (q_mdS (q_mlS q_e214 q_sm214) (q_mdS (q_mlS q_e215 q_sm215) (q_mlS q_e216 q_sm216)))) (q_mdS (q_mdS (q_mlS q_e217 q_sm217) (q_mdS (q_mlS q_e218 q_sm218) (q_mlS q_e219 q_sm219))) (q_mdS (q_mlS q_e220 q_sm220) (q_mdS (q_mlS q_e221 q_sm221) (q_mlS q_e222 q_sm222))))) (q_mdS (q_mdS (q_mdS (q_mlS q_e223 q_sm223) (q_mdS (q_mlS q_e224 q_sm224) (q_mlS q_e225 q_sm225))) (q_mdS (q_mlS q_e226 q_sm226) (q_mdS (q_mlS q_e227 q_sm227) (q_mlS q_e228 q_sm228)))) (q_mdS (q_mdS (q_mlS q_e229 q_sm229) (q_mdS (q_mlS q_e230 q_sm230) (q_mlS q_e231 q_sm231))) (q_mdS (q_mlS q_e232 q_sm232) (q_mdS (q_mlS q_e233 q_sm233) (q_mlS q_e234 q_sm234))))))) (q_mdS (q_mdS (q_mdS (q_mdS (q_mdS (q_mlS q_e235 q_sm235) (q_mlS q_e236 q_sm236)) (q_mdS (q_mlS q_e237 q_sm237) (q_mdS (q_mlS q_e238 q_sm238) (q_mlS q_e239 q_sm239)))) (q_mdS (q_mdS (q_mlS q_e240 q_sm240) (q_mdS (q_mlS q_e241 q_sm241) (q_mlS q_e242 q_sm242))) (q_mdS (q_mlS q_e243 q_sm243) (q_mdS (q_mlS q_e244 q_sm244) (q_mlS q_e245 q_sm245))))) (q_mdS (q_mdS (q_mdS (q_mlS q_e246 q_sm246) (q_mdS (q_mlS q_e247 q_sm247) (q_mlS q_e248 q_sm248))) (q_mdS (q_mlS q_e249 q_sm249) (q_mdS (q_mlS q_e250 q_sm250) (q_mlS q_e251 q_sm251)))) (q_mdS (q_mdS (q_mlS q_e252 q_sm252) (q_mdS (q_mlS q_e253 q_sm253) (q_mlS q_e254 q_sm254))) (q_mdS (q_mlS q_e255 q_sm255) (q_mdS (q_mlS q_e256 q_sm256) (q_mlS q_e257 q_sm257)))))) (q_mdS (q_mdS (q_mdS (q_mdS (q_mlS q_e258 q_sm258) (q_mdS (q_mlS q_e259 q_sm259) (q_mlS q_e260 q_sm260))) (q_mdS (q_mlS q_e261 q_sm261) (q_mdS (q_mlS q_e262 q_sm262) (q_mlS q_e263 q_sm263)))) (q_mdS (q_mdS (q_mlS q_e264 q_sm264) (q_mdS (q_mlS q_e265 q_sm265) (q_mlS q_e266 q_sm266))) (q_mdS (q_mlS q_e267 q_sm267) (q_mdS (q_mlS q_e268 q_sm268) (q_mlS q_e269 q_sm269))))) (q_mdS (q_mdS (q_mdS (q_mlS q_e270 q_sm270) (q_mdS (q_mlS q_e271 q_sm271) (q_mlS q_e272 q_sm272))) (q_mdS (q_mlS q_e273 q_sm273) (q_mdS (q_mlS q_e274 q_sm274) (q_mlS q_e275 q_sm275)))) (q_mdS (q_mdS (q_mlS q_e276 q_sm276) (q_mdS (q_mlS q_e277 q_sm277) (q_mlS q_e278 q_sm278))) (q_mdS (q_mlS q_e279 q_sm279) (q_mdS (q_mlS q_e280 q_sm280) (q_mlS q_e281 q_sm281)))))))) (q_mdS (q_mdS (q_mdS (q_mdS (q_mdS (q_mdS (q_mlS q_e282 q_sm282) (q_mlS q_e283 q_sm283)) (q_mdS (q_mlS q_e284 q_sm284) (q_mdS (q_mlS q_e285 q_sm285) (q_mlS q_e286 q_sm286)))) (q_mdS (q_mdS (q_mlS q_e287 q_sm287) (q_mdS (q_mlS q_e288 q_sm288) (q_mlS q_e289 q_sm289))) (q_mdS (q_mlS q_e290 q_sm290) (q_mdS (q_mlS q_e291 q_sm291) (q_mlS q_e292 q_sm292))))) (q_mdS (q_mdS (q_mdS (q_mlS q_e293 q_sm293) (q_mdS (q_mlS q_e294 q_sm294) (q_mlS q_e295 q_sm295))) (q_mdS (q_mlS q_e296 q_sm296) (q_mdS (q_mlS q_e297 q_sm297) (q_mlS q_e298 q_sm298)))) (q_mdS (q_mdS (q_mlS q_e299 q_sm299) (q_mdS (q_mlS q_e300 q_sm300) (q_mlS q_e301 q_sm301))) (q_mdS (q_mlS q_e302 q_sm302) (q_mdS (q_mlS q_e303 q_sm303) (q_mlS q_e304 q_sm304)))))) (q_mdS (q_mdS (q_mdS (q_mdS (q_mlS q_e305 q_sm305) (q_mdS (q_mlS q_e306 q_sm306) (q_mlS q_e307 q_sm307))) (q_mdS (q_mlS q_e308 q_sm308) (q_mdS (q_mlS q_e309 q_sm309) (q_mlS q_e310 q_sm310)))) (q_mdS (q_mdS (q_mlS q_e311 q_sm311) (q_mdS (q_mlS q_e312 q_sm312) (q_mlS q_e313 q_sm313))) (q_mdS (q_mlS q_e314 q_sm314) (q_mdS (q_mlS q_e315 q_sm315) (q_mlS q_e316 q_sm316))))) (q_mdS (q_mdS (q_mdS (q_mlS q_e317 q_sm317) (q_mdS (q_mlS q_e318 q_sm318) (q_mlS q_e319 q_sm319))) (q_mdS (q_mlS q_e320 q_sm320) (q_mdS (q_mlS q_e321 q_sm321) (q_mlS q_e322 q_sm322)))) (q_mdS (q_mdS (q_mlS q_e323 q_sm323) (q_mdS (q_mlS q_e324 q_sm324) (q_mlS q_e325 q_sm325))) (q_mdS (q_mlS q_e326 q_sm326) (q_mdS (q_mlS q_e327 q_sm327) (q_mlS q_e328 q_sm328))))))) (q_mdS (q_mdS (q_mdS (q_mdS (q_mdS (q_mlS q_e329 q_sm329) (q_mdS (q_mlS q_e330 q_sm330) (q_mlS q_e331 q_sm331))) (q_mdS (q_mlS q_e332 q_sm332) (q_mdS (q_mlS q_e333 q_sm333) (q_mlS q_e334 q_sm334)))) (q_mdS (q_mdS (q_mlS q_e335 q_sm335) (q_mdS (q_mlS q_e336 q_sm336) (q_mlS q_e337 q_sm337))) (q_mdS (q_mlS q_e338 q_sm338) (q_mdS (q_mlS q_e339 q_sm339) (q_mlS q_e340 q_sm340))))) (q_mdS (q_mdS (q_mdS (q_mlS q_e341 q_sm341) (q_mdS (q_mlS q_e342 q_sm342) (q_mlS q_e343 q_sm343))) (q_mdS (q_mlS q_e344 q_sm344) (q_mdS (q_mlS q_e345 q_sm345) (q_mlS q_e346 q_sm346)))) (q_mdS (q_mdS (q_mlS q_e347 q_sm347) (q_mdS (q_mlS q_e348 q_sm348) (q_mlS q_e349 q_sm349))) (q_mdS (q_mlS q_e350 q_sm350) (q_mdS (q_mlS q_e351 q_sm351) (q_mlS q_e352 q_sm352)))))) (q_mdS (q_mdS (q_mdS (q_mdS (q_mlS q_e353 q_sm353) (q_mdS (q_mlS q_e354 q_sm354) (q_mlS q_e355 q_sm355))) (q_mdS (q_mlS q_e356 q_sm356) (q_mdS (q_mlS q_e357 q_sm357) (q_mlS q_e358 q_sm358)))) (q_mdS (q_mdS (q_mlS q_e359 q_sm359) (q_mdS (q_mlS q_e360 q_sm360) (q_mlS q_e361 q_sm361))) (q_mdS (q_mlS q_e362 q_sm362) (q_mdS (q_mlS q_e363 q_sm363) (q_mlS q_e364 q_sm364))))) (q_mdS (q_mdS (q_mdS (q_mlS q_e365 q_sm365) (q_mdS (q_mlS q_e366 q_sm366) (q_mlS q_e367 q_sm367))) (q_mdS (q_mlS q_e368 q_sm368) (q_mdS (q_mlS q_e369 q_sm369) (q_mlS q_e370 q_sm370)))) (q_mdS (q_mdS (q_mlS q_e371 q_sm371) (q_mdS (q_mlS q_e372 q_sm372) (q_mlS q_e373 q_sm373))) (q_mdS (q_mlS q_e374 q_sm374) (q_mdS (q_mlS q_e375 q_sm375) (q_mlS q_e376 q_sm376)))))))))
end
section
-- 34.mono
/-! ===== more fuel, more depth, more rows outside: the same end ===== -/
def q_TBle (TB TB9 : Nat → Option (Nat × Nat × (Nat → Int32))) : Prop := ∀ a v, TB a = some v → TB9 a = some v
def q_Le (x y : q_E) : Prop := x = y ∨ (∃ f f9, x = .inl f ∧ y = .inl f9 ∧ ∀ g r, f g = some r → f9 g = some r) ∨ (∃ f f9, x = .inr (.inl f) ∧ y = .inr (.inl f9) ∧ ∀ g r, f g = some r → f9 g = some r)
def q_LeT (t t9 : Nat → Option q_E) : Prop := ∀ pc x, t pc = some x → ∃ y, t9 pc = some y ∧ q_Le x y
theorem q_LeT_rf {t : Nat → Option q_E} : q_LeT t t := fun _ x h => ⟨x, h, Or.inl rfl⟩
theorem q_nd_le {m : Nat} {A B A9 B9 : Nat → Option q_E} (hA : q_LeT A A9) (hB : q_LeT B B9) : q_LeT (q_nd m A B) (q_nd m A9 B9) := by
  intro pc x h
  unfold q_nd at h ⊢
  cases hb : Nat.ble pc m with
  | true => rw [hb] at h; exact hA pc x h
  | false => rw [hb] at h; exact hB pc x h
theorem q_lf_le {m : Nat} {a b : q_E} (h9 : q_Le a b) : q_LeT (q_lf m a) (q_lf m b) := by
  intro pc x h
  unfold q_lf at h ⊢
  cases hb : Nat.beq pc m with
  | true => rw [hb] at h; cases h; exact ⟨b, rfl, h9⟩
  | false => rw [hb] at h; cases h
theorem q_md_le {m : Nat} {A B A9 B9 : Nat → Nat → Option q_E} (hA : ∀ k, q_LeT (A k) (A9 k)) (hB : ∀ k, q_LeT (B k) (B9 k)) : ∀ k, q_LeT (q_md m A B k) (q_md m A9 B9 k) := by
  intro k
  unfold q_md
  cases Nat.ble k m with
  | true => exact hA k
  | false => exact hB k
theorem q_ml_le {n : Nat} {t t9 : Nat → Option q_E} (h : q_LeT t t9) : ∀ k, q_LeT (q_ml n t k) (q_ml n t9 k) := by
  intro k
  unfold q_ml
  cases Nat.beq k n with
  | true => exact h
  | false => exact q_LeT_rf
theorem q_ar_le {TB TB9 : Nat → Option (Nat × Nat × (Nat → Int32))} (h : q_TBle TB TB9) {hp : q_H} {a : Nat} {v : Nat × Nat × (Nat → Int32)} (e : q_ar TB hp a = some v) : q_ar TB9 hp a = some v := by
  unfold q_ar at e ⊢
  split
  · rename_i hlt
    rw [if_pos hlt] at e
    exact h _ _ e
  · rename_i hlt
    rw [if_neg hlt] at e
    exact e
theorem q_Le_ald {TB TB9 : Nat → Option (Nat × Nat × (Nat → Int32))} (h : q_TBle TB TB9) {nx t : Nat} : q_Le (.inr (.inl (q_ald TB nx t))) (.inr (.inl (q_ald TB9 nx t))) := by
  refine Or.inr (Or.inr ⟨_, _, rfl, rfl, fun g r e => ?_⟩)
  unfold q_ald at e ⊢
  split at e
  · split at e
    · rename_i he
      rw [q_ar_le h he]
      exact e
    · cases e
  · cases e
theorem q_Le_aln {TB TB9 : Nat → Option (Nat × Nat × (Nat → Int32))} (h : q_TBle TB TB9) {nx t : Nat} : q_Le (.inl (q_aln TB nx t)) (.inl (q_aln TB9 nx t)) := by
  refine Or.inr (Or.inl ⟨_, _, rfl, rfl, fun g r e => ?_⟩)
  unfold q_aln at e ⊢
  split at e
  · rename_i a r9 hst
    by_cases hlt : a < 64
    · rw [if_pos hlt] at e ⊢
      cases hT : TB a with
      | none => rw [hT] at e; cases e
      | some v =>
        rw [hT] at e
        rw [h _ _ hT]
        exact e
    · rw [if_neg hlt] at e ⊢
      exact e
  · cases e
theorem q_Le_vS {TB TB9 : Nat → Option (Nat × Nat × (Nat → Int32))} (h : q_TBle TB TB9) {nx : Nat} : q_Le (.inl (q_st nx (q_fvS TB))) (.inl (q_st nx (q_fvS TB9))) := by
  refine Or.inr (Or.inl ⟨_, _, rfl, rfl, fun g r e => ?_⟩)
  unfold q_st q_fvS at e ⊢
  cases hT : TB 9 with
  | none => rw [hT] at e; cases e
  | some v =>
    rw [hT] at e
    rw [h _ _ hT]
    exact e
def q_xLe (ex ex9 : Nat → List Value → q_H → Option q_Out) : Prop := ∀ k as h o, ex k as h = some o → ex9 k as h = some o
theorem q_rs_le {f f9 : q_G → Option (Bool × q_G × Option q_G)} (h : ∀ g r, f g = some r → f9 g = some r) {g r : q_G} (e : q_rs f g = some r) : q_rs f9 g = some r := by
  unfold q_rs at e ⊢
  cases hf : f g with
  | none => rw [hf] at e; cases e
  | some v =>
    rw [hf] at e
    rw [h _ _ hf]
    exact e
theorem q_step_le {ex ex9 : Nat → List Value → q_H → Option q_Out} {tb tb9 : Nat → Option q_E} (hx : q_xLe ex ex9) (ht : q_LeT tb tb9) {g : q_G} {r : q_G ⊕ q_Out} (e : q_step ex tb g = some r) : q_step ex9 tb9 g = some r := by
  unfold q_step at e
  cases hb : tb g.1 with
  | none => rw [hb] at e; cases e
  | some x =>
    rw [hb] at e
    obtain ⟨y, hy, hL⟩ := ht _ _ hb
    unfold q_step
    rw [hy]
    rcases hL with rfl | ⟨f, f9, rfl, rfl, hf⟩ | ⟨f, f9, rfl, rfl, hf⟩
    · rcases x with f | f | f | f | ⟨nx, f, hd⟩
      · exact e
      · exact e
      · exact e
      · exact e
      · dsimp only at e ⊢
        cases hf : f g with
        | none => rw [hf] at e; cases e
        | some v =>
          obtain ⟨k, as, rest⟩ := v
          rw [hf] at e
          dsimp only at e ⊢
          cases ho : ex k as g.2.2.2 with
          | none => rw [ho] at e; cases e
          | some o =>
            rw [ho] at e
            rw [hx _ _ _ _ ho]
            exact e
    · dsimp only at e ⊢
      cases hq : f g with
      | none => rw [hq] at e; cases e
      | some v =>
        rw [hq] at e
        rw [hf _ _ hq]
        exact e
    · dsimp only at e ⊢
      cases hq : q_rs f g with
      | none => rw [hq] at e; cases e
      | some v =>
        rw [hq] at e
        rw [q_rs_le hf hq]
        exact e
theorem q_loop_le {ex ex9 : Nat → List Value → q_H → Option q_Out} {tb tb9 : Nat → Option q_E} (hx : q_xLe ex ex9) (ht : q_LeT tb tb9) : ∀ (n n9 : Nat), n ≤ n9 → ∀ (g : q_G) (o : q_Out), q_loop ex tb n g = some o → q_loop ex9 tb9 n9 g = some o := by
  intro n
  induction n with
  | zero => intro n9 _ g o h; cases h
  | succ n ih =>
    intro n9 hn g o h
    obtain ⟨k, rfl⟩ : ∃ k, n9 = k + 1 := ⟨n9 - 1, by omega⟩
    rw [q_loop_s] at h ⊢
    cases hst : q_step ex tb g with
    | none => rw [hst] at h; cases h
    | some r =>
      rw [hst] at h
      rw [q_step_le hx ht hst]
      cases r with
      | inr o9 => exact h
      | inl g9 => exact ih k (by omega) g9 o h
theorem q_exec_le {mt : Nat → q_M} {mtab mtab9 : Nat → Nat → Option q_E} (ht : ∀ k, q_LeT (mtab k) (mtab9 k)) {n n9 : Nat} (hn : n ≤ n9) : ∀ (d d9 : Nat), d ≤ d9 → q_xLe (q_exec mt mtab n d) (q_exec mt mtab9 n9 d9) := by
  intro d
  induction d with
  | zero => intro d9 _ k as h o e; cases e
  | succ d ih =>
    intro d9 hd k as h o e
    obtain ⟨j, rfl⟩ : ∃ j, d9 = j + 1 := ⟨d9 - 1, by omega⟩
    have hw := q_exec_w e
    rw [q_exec_s hw] at e ⊢
    exact q_loop_le (ih j (by omega)) (ht k) n n9 hn _ _ e
theorem q_Le_acpT {TB TB9 : Nat → Option (Nat × Nat × (Nat → Int32))} (h : q_TBle TB TB9) {nx t : Nat} {fit : Int32 → Bool} : q_Le (.inr (.inl (q_acpT TB nx t fit))) (.inr (.inl (q_acpT TB9 nx t fit))) := by
  refine Or.inr (Or.inr ⟨_, _, rfl, rfl, fun g r e => ?_⟩)
  unfold q_acpT at e ⊢
  split at e
  · split at e
    · rename_i he he2
      rw [q_ar_le h he, he2]
      exact e
    · cases e
  · cases e
end
section
-- 35.le
theorem q_le0 {TB TB9 : Nat → Option (Nat × Nat × (Nat → Int32))} (h : q_TBle TB TB9) : q_LeT (q_t0 TB) (q_t0 TB9) := q_LeT_rf
theorem q_le1 {TB TB9 : Nat → Option (Nat × Nat × (Nat → Int32))} (h : q_TBle TB TB9) : q_LeT (q_t1 TB) (q_t1 TB9) := q_LeT_rf
theorem q_le2 {TB TB9 : Nat → Option (Nat × Nat × (Nat → Int32))} (h : q_TBle TB TB9) : q_LeT (q_t2 TB) (q_t2 TB9) := q_LeT_rf
theorem q_le3 {TB TB9 : Nat → Option (Nat × Nat × (Nat → Int32))} (h : q_TBle TB TB9) : q_LeT (q_t3 TB) (q_t3 TB9) := q_LeT_rf
theorem q_le4 {TB TB9 : Nat → Option (Nat × Nat × (Nat → Int32))} (h : q_TBle TB TB9) : q_LeT (q_t4 TB) (q_t4 TB9) := q_LeT_rf
theorem q_le5 {TB TB9 : Nat → Option (Nat × Nat × (Nat → Int32))} (h : q_TBle TB TB9) : q_LeT (q_t5 TB) (q_t5 TB9) := q_LeT_rf
theorem q_le6 {TB TB9 : Nat → Option (Nat × Nat × (Nat → Int32))} (h : q_TBle TB TB9) : q_LeT (q_t6 TB) (q_t6 TB9) := q_LeT_rf
theorem q_le7 {TB TB9 : Nat → Option (Nat × Nat × (Nat → Int32))} (h : q_TBle TB TB9) : q_LeT (q_t7 TB) (q_t7 TB9) := q_LeT_rf
theorem q_le8 {TB TB9 : Nat → Option (Nat × Nat × (Nat → Int32))} (h : q_TBle TB TB9) : q_LeT (q_t8 TB) (q_t8 TB9) := q_LeT_rf
theorem q_le9 {TB TB9 : Nat → Option (Nat × Nat × (Nat → Int32))} (h : q_TBle TB TB9) : q_LeT (q_t9 TB) (q_t9 TB9) := q_LeT_rf
theorem q_le10 {TB TB9 : Nat → Option (Nat × Nat × (Nat → Int32))} (h : q_TBle TB TB9) : q_LeT (q_t10 TB) (q_t10 TB9) := q_LeT_rf
theorem q_le11 {TB TB9 : Nat → Option (Nat × Nat × (Nat → Int32))} (h : q_TBle TB TB9) : q_LeT (q_t11 TB) (q_t11 TB9) := q_LeT_rf
theorem q_le12 {TB TB9 : Nat → Option (Nat × Nat × (Nat → Int32))} (h : q_TBle TB TB9) : q_LeT (q_t12 TB) (q_t12 TB9) := q_LeT_rf
theorem q_le13 {TB TB9 : Nat → Option (Nat × Nat × (Nat → Int32))} (h : q_TBle TB TB9) : q_LeT (q_t13 TB) (q_t13 TB9) := q_LeT_rf
theorem q_le14 {TB TB9 : Nat → Option (Nat × Nat × (Nat → Int32))} (h : q_TBle TB TB9) : q_LeT (q_t14 TB) (q_t14 TB9) := q_LeT_rf
theorem q_le15 {TB TB9 : Nat → Option (Nat × Nat × (Nat → Int32))} (h : q_TBle TB TB9) : q_LeT (q_t15 TB) (q_t15 TB9) := q_LeT_rf
theorem q_le16 {TB TB9 : Nat → Option (Nat × Nat × (Nat → Int32))} (h : q_TBle TB TB9) : q_LeT (q_t16 TB) (q_t16 TB9) := q_LeT_rf
theorem q_le17 {TB TB9 : Nat → Option (Nat × Nat × (Nat → Int32))} (h : q_TBle TB TB9) : q_LeT (q_t17 TB) (q_t17 TB9) := q_LeT_rf
theorem q_le18 {TB TB9 : Nat → Option (Nat × Nat × (Nat → Int32))} (h : q_TBle TB TB9) : q_LeT (q_t18 TB) (q_t18 TB9) := q_LeT_rf
theorem q_le19 {TB TB9 : Nat → Option (Nat × Nat × (Nat → Int32))} (h : q_TBle TB TB9) : q_LeT (q_t19 TB) (q_t19 TB9) := q_LeT_rf
theorem q_le20 {TB TB9 : Nat → Option (Nat × Nat × (Nat → Int32))} (h : q_TBle TB TB9) : q_LeT (q_t20 TB) (q_t20 TB9) := q_LeT_rf
theorem q_le21 {TB TB9 : Nat → Option (Nat × Nat × (Nat → Int32))} (h : q_TBle TB TB9) : q_LeT (q_t21 TB) (q_t21 TB9) := q_LeT_rf
theorem q_le22 {TB TB9 : Nat → Option (Nat × Nat × (Nat → Int32))} (h : q_TBle TB TB9) : q_LeT (q_t22 TB) (q_t22 TB9) := q_LeT_rf
theorem q_le23 {TB TB9 : Nat → Option (Nat × Nat × (Nat → Int32))} (h : q_TBle TB TB9) : q_LeT (q_t23 TB) (q_t23 TB9) := q_LeT_rf
theorem q_le24 {TB TB9 : Nat → Option (Nat × Nat × (Nat → Int32))} (h : q_TBle TB TB9) : q_LeT (q_t24 TB) (q_t24 TB9) := q_LeT_rf
theorem q_le25 {TB TB9 : Nat → Option (Nat × Nat × (Nat → Int32))} (h : q_TBle TB TB9) : q_LeT (q_t25 TB) (q_t25 TB9) := q_LeT_rf
theorem q_le26 {TB TB9 : Nat → Option (Nat × Nat × (Nat → Int32))} (h : q_TBle TB TB9) : q_LeT (q_t26 TB) (q_t26 TB9) := q_LeT_rf
theorem q_le27 {TB TB9 : Nat → Option (Nat × Nat × (Nat → Int32))} (h : q_TBle TB TB9) : q_LeT (q_t27 TB) (q_t27 TB9) := q_LeT_rf
theorem q_le28 {TB TB9 : Nat → Option (Nat × Nat × (Nat → Int32))} (h : q_TBle TB TB9) : q_LeT (q_t28 TB) (q_t28 TB9) := q_LeT_rf
theorem q_le29 {TB TB9 : Nat → Option (Nat × Nat × (Nat → Int32))} (h : q_TBle TB TB9) : q_LeT (q_t29 TB) (q_t29 TB9) := q_LeT_rf
theorem q_le30 {TB TB9 : Nat → Option (Nat × Nat × (Nat → Int32))} (h : q_TBle TB TB9) : q_LeT (q_t30 TB) (q_t30 TB9) := q_LeT_rf
theorem q_le31 {TB TB9 : Nat → Option (Nat × Nat × (Nat → Int32))} (h : q_TBle TB TB9) : q_LeT (q_t31 TB) (q_t31 TB9) := q_LeT_rf
theorem q_le32 {TB TB9 : Nat → Option (Nat × Nat × (Nat → Int32))} (h : q_TBle TB TB9) : q_LeT (q_t32 TB) (q_t32 TB9) := q_nd_le (q_LeT_rf) (q_nd_le (q_LeT_rf) (q_nd_le (q_LeT_rf) (q_nd_le (q_lf_le (q_Le_ald h)) (q_LeT_rf))))
theorem q_le33 {TB TB9 : Nat → Option (Nat × Nat × (Nat → Int32))} (h : q_TBle TB TB9) : q_LeT (q_t33 TB) (q_t33 TB9) := q_LeT_rf
theorem q_le34 {TB TB9 : Nat → Option (Nat × Nat × (Nat → Int32))} (h : q_TBle TB TB9) : q_LeT (q_t34 TB) (q_t34 TB9) := q_LeT_rf
theorem q_le35 {TB TB9 : Nat → Option (Nat × Nat × (Nat → Int32))} (h : q_TBle TB TB9) : q_LeT (q_t35 TB) (q_t35 TB9) := q_LeT_rf
theorem q_le36 {TB TB9 : Nat → Option (Nat × Nat × (Nat → Int32))} (h : q_TBle TB TB9) : q_LeT (q_t36 TB) (q_t36 TB9) := q_LeT_rf
theorem q_le37 {TB TB9 : Nat → Option (Nat × Nat × (Nat → Int32))} (h : q_TBle TB TB9) : q_LeT (q_t37 TB) (q_t37 TB9) := q_LeT_rf
theorem q_le38 {TB TB9 : Nat → Option (Nat × Nat × (Nat → Int32))} (h : q_TBle TB TB9) : q_LeT (q_t38 TB) (q_t38 TB9) := q_LeT_rf
theorem q_le39 {TB TB9 : Nat → Option (Nat × Nat × (Nat → Int32))} (h : q_TBle TB TB9) : q_LeT (q_t39 TB) (q_t39 TB9) := q_LeT_rf
theorem q_le40 {TB TB9 : Nat → Option (Nat × Nat × (Nat → Int32))} (h : q_TBle TB TB9) : q_LeT (q_t40 TB) (q_t40 TB9) := q_LeT_rf
theorem q_le41 {TB TB9 : Nat → Option (Nat × Nat × (Nat → Int32))} (h : q_TBle TB TB9) : q_LeT (q_t41 TB) (q_t41 TB9) := q_LeT_rf
theorem q_le42 {TB TB9 : Nat → Option (Nat × Nat × (Nat → Int32))} (h : q_TBle TB TB9) : q_LeT (q_t42 TB) (q_t42 TB9) := q_LeT_rf
theorem q_le43 {TB TB9 : Nat → Option (Nat × Nat × (Nat → Int32))} (h : q_TBle TB TB9) : q_LeT (q_t43 TB) (q_t43 TB9) := q_LeT_rf
theorem q_le44 {TB TB9 : Nat → Option (Nat × Nat × (Nat → Int32))} (h : q_TBle TB TB9) : q_LeT (q_t44 TB) (q_t44 TB9) := q_LeT_rf
theorem q_le45 {TB TB9 : Nat → Option (Nat × Nat × (Nat → Int32))} (h : q_TBle TB TB9) : q_LeT (q_t45 TB) (q_t45 TB9) := q_LeT_rf
theorem q_le46 {TB TB9 : Nat → Option (Nat × Nat × (Nat → Int32))} (h : q_TBle TB TB9) : q_LeT (q_t46 TB) (q_t46 TB9) := q_LeT_rf
theorem q_le47 {TB TB9 : Nat → Option (Nat × Nat × (Nat → Int32))} (h : q_TBle TB TB9) : q_LeT (q_t47 TB) (q_t47 TB9) := q_LeT_rf
theorem q_le48 {TB TB9 : Nat → Option (Nat × Nat × (Nat → Int32))} (h : q_TBle TB TB9) : q_LeT (q_t48 TB) (q_t48 TB9) := q_LeT_rf
theorem q_le49 {TB TB9 : Nat → Option (Nat × Nat × (Nat → Int32))} (h : q_TBle TB TB9) : q_LeT (q_t49 TB) (q_t49 TB9) := q_nd_le (q_LeT_rf) (q_nd_le (q_LeT_rf) (q_nd_le (q_LeT_rf) (q_nd_le (q_LeT_rf) (q_nd_le (q_lf_le (q_Le_ald h)) (q_LeT_rf)))))
theorem q_le50 {TB TB9 : Nat → Option (Nat × Nat × (Nat → Int32))} (h : q_TBle TB TB9) : q_LeT (q_t50 TB) (q_t50 TB9) := q_nd_le (q_LeT_rf) (q_nd_le (q_LeT_rf) (q_nd_le (q_LeT_rf) (q_nd_le (q_LeT_rf) (q_nd_le (q_lf_le (q_Le_ald h)) (q_LeT_rf)))))
theorem q_le51 {TB TB9 : Nat → Option (Nat × Nat × (Nat → Int32))} (h : q_TBle TB TB9) : q_LeT (q_t51 TB) (q_t51 TB9) := q_LeT_rf
theorem q_le52 {TB TB9 : Nat → Option (Nat × Nat × (Nat → Int32))} (h : q_TBle TB TB9) : q_LeT (q_t52 TB) (q_t52 TB9) := q_nd_le (q_LeT_rf) (q_nd_le (q_LeT_rf) (q_nd_le (q_LeT_rf) (q_nd_le (q_lf_le (q_Le_ald h)) (q_LeT_rf))))
theorem q_le53 {TB TB9 : Nat → Option (Nat × Nat × (Nat → Int32))} (h : q_TBle TB TB9) : q_LeT (q_t53 TB) (q_t53 TB9) := q_nd_le (q_LeT_rf) (q_nd_le (q_LeT_rf) (q_nd_le (q_LeT_rf) (q_nd_le (q_lf_le (q_Le_ald h)) (q_LeT_rf))))
theorem q_le54 {TB TB9 : Nat → Option (Nat × Nat × (Nat → Int32))} (h : q_TBle TB TB9) : q_LeT (q_t54 TB) (q_t54 TB9) := q_LeT_rf
theorem q_le55 {TB TB9 : Nat → Option (Nat × Nat × (Nat → Int32))} (h : q_TBle TB TB9) : q_LeT (q_t55 TB) (q_t55 TB9) := q_nd_le (q_LeT_rf) (q_nd_le (q_LeT_rf) (q_nd_le (q_LeT_rf) (q_nd_le (q_lf_le (q_Le_ald h)) (q_LeT_rf))))
theorem q_le56 {TB TB9 : Nat → Option (Nat × Nat × (Nat → Int32))} (h : q_TBle TB TB9) : q_LeT (q_t56 TB) (q_t56 TB9) := q_LeT_rf
theorem q_le57 {TB TB9 : Nat → Option (Nat × Nat × (Nat → Int32))} (h : q_TBle TB TB9) : q_LeT (q_t57 TB) (q_t57 TB9) := q_LeT_rf
theorem q_le58 {TB TB9 : Nat → Option (Nat × Nat × (Nat → Int32))} (h : q_TBle TB TB9) : q_LeT (q_t58 TB) (q_t58 TB9) := q_LeT_rf
theorem q_le59 {TB TB9 : Nat → Option (Nat × Nat × (Nat → Int32))} (h : q_TBle TB TB9) : q_LeT (q_t59 TB) (q_t59 TB9) := q_LeT_rf
theorem q_le60 {TB TB9 : Nat → Option (Nat × Nat × (Nat → Int32))} (h : q_TBle TB TB9) : q_LeT (q_t60 TB) (q_t60 TB9) := q_LeT_rf
theorem q_le61 {TB TB9 : Nat → Option (Nat × Nat × (Nat → Int32))} (h : q_TBle TB TB9) : q_LeT (q_t61 TB) (q_t61 TB9) := q_LeT_rf
theorem q_le62 {TB TB9 : Nat → Option (Nat × Nat × (Nat → Int32))} (h : q_TBle TB TB9) : q_LeT (q_t62 TB) (q_t62 TB9) := q_LeT_rf
theorem q_le63 {TB TB9 : Nat → Option (Nat × Nat × (Nat → Int32))} (h : q_TBle TB TB9) : q_LeT (q_t63 TB) (q_t63 TB9) := q_LeT_rf
theorem q_le64 {TB TB9 : Nat → Option (Nat × Nat × (Nat → Int32))} (h : q_TBle TB TB9) : q_LeT (q_t64 TB) (q_t64 TB9) := q_LeT_rf
theorem q_le65 {TB TB9 : Nat → Option (Nat × Nat × (Nat → Int32))} (h : q_TBle TB TB9) : q_LeT (q_t65 TB) (q_t65 TB9) := q_nd_le (q_nd_le (q_LeT_rf) (q_nd_le (q_LeT_rf) (q_nd_le (q_LeT_rf) (q_nd_le (q_LeT_rf) (q_nd_le (q_lf_le (q_Le_ald h)) (q_LeT_rf)))))) (q_nd_le (q_nd_le (q_nd_le (q_nd_le (q_LeT_rf) (q_nd_le (q_LeT_rf) (q_lf_le (q_Le_ald h)))) (q_LeT_rf)) (q_nd_le (q_nd_le (q_lf_le (q_Le_ald h)) (q_LeT_rf)) (q_nd_le (q_LeT_rf) (q_nd_le (q_lf_le (q_Le_ald h)) (q_LeT_rf))))) (q_LeT_rf))
theorem q_le66 {TB TB9 : Nat → Option (Nat × Nat × (Nat → Int32))} (h : q_TBle TB TB9) : q_LeT (q_t66 TB) (q_t66 TB9) := q_nd_le (q_LeT_rf) (q_nd_le (q_nd_le (q_LeT_rf) (q_nd_le (q_LeT_rf) (q_nd_le (q_LeT_rf) (q_lf_le (q_Le_ald h))))) (q_LeT_rf))
theorem q_le67 {TB TB9 : Nat → Option (Nat × Nat × (Nat → Int32))} (h : q_TBle TB TB9) : q_LeT (q_t67 TB) (q_t67 TB9) := q_LeT_rf
theorem q_le68 {TB TB9 : Nat → Option (Nat × Nat × (Nat → Int32))} (h : q_TBle TB TB9) : q_LeT (q_t68 TB) (q_t68 TB9) := q_nd_le (q_nd_le (q_nd_le (q_LeT_rf) (q_nd_le (q_LeT_rf) (q_nd_le (q_LeT_rf) (q_lf_le (q_Le_ald h))))) (q_LeT_rf)) (q_nd_le (q_nd_le (q_LeT_rf) (q_nd_le (q_nd_le (q_LeT_rf) (q_lf_le (q_Le_ald h))) (q_LeT_rf))) (q_LeT_rf))
theorem q_le69 {TB TB9 : Nat → Option (Nat × Nat × (Nat → Int32))} (h : q_TBle TB TB9) : q_LeT (q_t69 TB) (q_t69 TB9) := q_nd_le (q_LeT_rf) (q_nd_le (q_nd_le (q_nd_le (q_LeT_rf) (q_nd_le (q_LeT_rf) (q_lf_le (q_Le_ald h)))) (q_LeT_rf)) (q_LeT_rf))
theorem q_le70 {TB TB9 : Nat → Option (Nat × Nat × (Nat → Int32))} (h : q_TBle TB TB9) : q_LeT (q_t70 TB) (q_t70 TB9) := q_LeT_rf
theorem q_le71 {TB TB9 : Nat → Option (Nat × Nat × (Nat → Int32))} (h : q_TBle TB TB9) : q_LeT (q_t71 TB) (q_t71 TB9) := q_LeT_rf
theorem q_le72 {TB TB9 : Nat → Option (Nat × Nat × (Nat → Int32))} (h : q_TBle TB TB9) : q_LeT (q_t72 TB) (q_t72 TB9) := q_LeT_rf
theorem q_le73 {TB TB9 : Nat → Option (Nat × Nat × (Nat → Int32))} (h : q_TBle TB TB9) : q_LeT (q_t73 TB) (q_t73 TB9) := q_LeT_rf
theorem q_le74 {TB TB9 : Nat → Option (Nat × Nat × (Nat → Int32))} (h : q_TBle TB TB9) : q_LeT (q_t74 TB) (q_t74 TB9) := q_LeT_rf
theorem q_le75 {TB TB9 : Nat → Option (Nat × Nat × (Nat → Int32))} (h : q_TBle TB TB9) : q_LeT (q_t75 TB) (q_t75 TB9) := q_LeT_rf
theorem q_le76 {TB TB9 : Nat → Option (Nat × Nat × (Nat → Int32))} (h : q_TBle TB TB9) : q_LeT (q_t76 TB) (q_t76 TB9) := q_LeT_rf
theorem q_le77 {TB TB9 : Nat → Option (Nat × Nat × (Nat → Int32))} (h : q_TBle TB TB9) : q_LeT (q_t77 TB) (q_t77 TB9) := q_nd_le (q_nd_le (q_LeT_rf) (q_nd_le (q_LeT_rf) (q_nd_le (q_LeT_rf) (q_nd_le (q_LeT_rf) (q_nd_le (q_lf_le (q_Le_ald h)) (q_LeT_rf)))))) (q_nd_le (q_nd_le (q_nd_le (q_nd_le (q_LeT_rf) (q_nd_le (q_lf_le (q_Le_ald h)) (q_LeT_rf))) (q_LeT_rf)) (q_LeT_rf)) (q_LeT_rf))
theorem q_le78 {TB TB9 : Nat → Option (Nat × Nat × (Nat → Int32))} (h : q_TBle TB TB9) : q_LeT (q_t78 TB) (q_t78 TB9) := q_LeT_rf
theorem q_le79 {TB TB9 : Nat → Option (Nat × Nat × (Nat → Int32))} (h : q_TBle TB TB9) : q_LeT (q_t79 TB) (q_t79 TB9) := q_LeT_rf
theorem q_le80 {TB TB9 : Nat → Option (Nat × Nat × (Nat → Int32))} (h : q_TBle TB TB9) : q_LeT (q_t80 TB) (q_t80 TB9) := q_nd_le (q_nd_le (q_LeT_rf) (q_nd_le (q_nd_le (q_lf_le (q_Le_ald h)) (q_LeT_rf)) (q_LeT_rf))) (q_LeT_rf)
theorem q_le81 {TB TB9 : Nat → Option (Nat × Nat × (Nat → Int32))} (h : q_TBle TB TB9) : q_LeT (q_t81 TB) (q_t81 TB9) := q_LeT_rf
theorem q_le82 {TB TB9 : Nat → Option (Nat × Nat × (Nat → Int32))} (h : q_TBle TB TB9) : q_LeT (q_t82 TB) (q_t82 TB9) := q_LeT_rf
theorem q_le83 {TB TB9 : Nat → Option (Nat × Nat × (Nat → Int32))} (h : q_TBle TB TB9) : q_LeT (q_t83 TB) (q_t83 TB9) := q_LeT_rf
theorem q_le84 {TB TB9 : Nat → Option (Nat × Nat × (Nat → Int32))} (h : q_TBle TB TB9) : q_LeT (q_t84 TB) (q_t84 TB9) := q_LeT_rf
theorem q_le85 {TB TB9 : Nat → Option (Nat × Nat × (Nat → Int32))} (h : q_TBle TB TB9) : q_LeT (q_t85 TB) (q_t85 TB9) := q_LeT_rf
theorem q_le86 {TB TB9 : Nat → Option (Nat × Nat × (Nat → Int32))} (h : q_TBle TB TB9) : q_LeT (q_t86 TB) (q_t86 TB9) := q_LeT_rf
theorem q_le87 {TB TB9 : Nat → Option (Nat × Nat × (Nat → Int32))} (h : q_TBle TB TB9) : q_LeT (q_t87 TB) (q_t87 TB9) := q_LeT_rf
theorem q_le88 {TB TB9 : Nat → Option (Nat × Nat × (Nat → Int32))} (h : q_TBle TB TB9) : q_LeT (q_t88 TB) (q_t88 TB9) := q_LeT_rf
theorem q_le89 {TB TB9 : Nat → Option (Nat × Nat × (Nat → Int32))} (h : q_TBle TB TB9) : q_LeT (q_t89 TB) (q_t89 TB9) := q_nd_le (q_nd_le (q_nd_le (q_LeT_rf) (q_nd_le (q_LeT_rf) (q_nd_le (q_nd_le (q_LeT_rf) (q_lf_le (q_Le_ald h))) (q_LeT_rf)))) (q_nd_le (q_nd_le (q_nd_le (q_LeT_rf) (q_nd_le (q_LeT_rf) (q_lf_le (q_Le_ald h)))) (q_LeT_rf)) (q_LeT_rf))) (q_nd_le (q_nd_le (q_nd_le (q_nd_le (q_LeT_rf) (q_nd_le (q_lf_le (q_Le_ald h)) (q_LeT_rf))) (q_LeT_rf)) (q_LeT_rf)) (q_nd_le (q_LeT_rf) (q_nd_le (q_nd_le (q_nd_le (q_lf_le (q_Le_ald h)) (q_LeT_rf)) (q_LeT_rf)) (q_nd_le (q_LeT_rf) (q_nd_le (q_LeT_rf) (q_nd_le (q_lf_le (q_Le_ald h)) (q_LeT_rf)))))))
theorem q_le90 {TB TB9 : Nat → Option (Nat × Nat × (Nat → Int32))} (h : q_TBle TB TB9) : q_LeT (q_t90 TB) (q_t90 TB9) := q_nd_le (q_nd_le (q_nd_le (q_LeT_rf) (q_nd_le (q_LeT_rf) (q_nd_le (q_nd_le (q_lf_le (q_Le_ald h)) (q_LeT_rf)) (q_LeT_rf)))) (q_nd_le (q_nd_le (q_nd_le (q_LeT_rf) (q_nd_le (q_lf_le (q_Le_ald h)) (q_LeT_rf))) (q_LeT_rf)) (q_nd_le (q_nd_le (q_nd_le (q_lf_le (q_Le_ald h)) (q_LeT_rf)) (q_LeT_rf)) (q_nd_le (q_LeT_rf) (q_nd_le (q_LeT_rf) (q_nd_le (q_lf_le (q_Le_ald h)) (q_LeT_rf))))))) (q_nd_le (q_nd_le (q_nd_le (q_LeT_rf) (q_nd_le (q_LeT_rf) (q_nd_le (q_LeT_rf) (q_nd_le (q_LeT_rf) (q_lf_le (q_Le_ald h)))))) (q_LeT_rf)) (q_LeT_rf))
theorem q_le91 {TB TB9 : Nat → Option (Nat × Nat × (Nat → Int32))} (h : q_TBle TB TB9) : q_LeT (q_t91 TB) (q_t91 TB9) := q_LeT_rf
theorem q_le92 {TB TB9 : Nat → Option (Nat × Nat × (Nat → Int32))} (h : q_TBle TB TB9) : q_LeT (q_t92 TB) (q_t92 TB9) := q_LeT_rf
theorem q_le93 {TB TB9 : Nat → Option (Nat × Nat × (Nat → Int32))} (h : q_TBle TB TB9) : q_LeT (q_t93 TB) (q_t93 TB9) := q_nd_le (q_nd_le (q_nd_le (q_LeT_rf) (q_nd_le (q_LeT_rf) (q_nd_le (q_LeT_rf) (q_nd_le (q_lf_le (q_Le_ald h)) (q_LeT_rf))))) (q_LeT_rf)) (q_nd_le (q_nd_le (q_nd_le (q_LeT_rf) (q_nd_le (q_LeT_rf) (q_nd_le (q_LeT_rf) (q_lf_le (q_Le_ald h))))) (q_LeT_rf)) (q_LeT_rf))
theorem q_le94 {TB TB9 : Nat → Option (Nat × Nat × (Nat → Int32))} (h : q_TBle TB TB9) : q_LeT (q_t94 TB) (q_t94 TB9) := q_nd_le (q_LeT_rf) (q_nd_le (q_nd_le (q_nd_le (q_LeT_rf) (q_nd_le (q_lf_le (q_Le_ald h)) (q_LeT_rf))) (q_LeT_rf)) (q_nd_le (q_nd_le (q_LeT_rf) (q_nd_le (q_LeT_rf) (q_nd_le (q_LeT_rf) (q_lf_le (q_Le_ald h))))) (q_LeT_rf)))
theorem q_le95 {TB TB9 : Nat → Option (Nat × Nat × (Nat → Int32))} (h : q_TBle TB TB9) : q_LeT (q_t95 TB) (q_t95 TB9) := q_LeT_rf
theorem q_le96 {TB TB9 : Nat → Option (Nat × Nat × (Nat → Int32))} (h : q_TBle TB TB9) : q_LeT (q_t96 TB) (q_t96 TB9) := q_LeT_rf
theorem q_le97 {TB TB9 : Nat → Option (Nat × Nat × (Nat → Int32))} (h : q_TBle TB TB9) : q_LeT (q_t97 TB) (q_t97 TB9) := q_nd_le (q_nd_le (q_LeT_rf) (q_nd_le (q_LeT_rf) (q_nd_le (q_LeT_rf) (q_lf_le (q_Le_ald h))))) (q_LeT_rf)
theorem q_le98 {TB TB9 : Nat → Option (Nat × Nat × (Nat → Int32))} (h : q_TBle TB TB9) : q_LeT (q_t98 TB) (q_t98 TB9) := q_nd_le (q_nd_le (q_LeT_rf) (q_nd_le (q_LeT_rf) (q_nd_le (q_LeT_rf) (q_lf_le (q_Le_ald h))))) (q_LeT_rf)
theorem q_le99 {TB TB9 : Nat → Option (Nat × Nat × (Nat → Int32))} (h : q_TBle TB TB9) : q_LeT (q_t99 TB) (q_t99 TB9) := q_LeT_rf
theorem q_le100 {TB TB9 : Nat → Option (Nat × Nat × (Nat → Int32))} (h : q_TBle TB TB9) : q_LeT (q_t100 TB) (q_t100 TB9) := q_nd_le (q_LeT_rf) (q_nd_le (q_nd_le (q_nd_le (q_lf_le (q_Le_ald h)) (q_LeT_rf)) (q_LeT_rf)) (q_nd_le (q_nd_le (q_LeT_rf) (q_nd_le (q_lf_le (q_Le_ald h)) (q_LeT_rf))) (q_LeT_rf)))
theorem q_le101 {TB TB9 : Nat → Option (Nat × Nat × (Nat → Int32))} (h : q_TBle TB TB9) : q_LeT (q_t101 TB) (q_t101 TB9) := q_LeT_rf
theorem q_le102 {TB TB9 : Nat → Option (Nat × Nat × (Nat → Int32))} (h : q_TBle TB TB9) : q_LeT (q_t102 TB) (q_t102 TB9) := q_LeT_rf
theorem q_le103 {TB TB9 : Nat → Option (Nat × Nat × (Nat → Int32))} (h : q_TBle TB TB9) : q_LeT (q_t103 TB) (q_t103 TB9) := q_nd_le (q_nd_le (q_nd_le (q_LeT_rf) (q_nd_le (q_nd_le (q_lf_le (q_Le_ald h)) (q_LeT_rf)) (q_LeT_rf))) (q_LeT_rf)) (q_LeT_rf)
theorem q_le104 {TB TB9 : Nat → Option (Nat × Nat × (Nat → Int32))} (h : q_TBle TB TB9) : q_LeT (q_t104 TB) (q_t104 TB9) := q_nd_le (q_nd_le (q_nd_le (q_LeT_rf) (q_nd_le (q_LeT_rf) (q_nd_le (q_LeT_rf) (q_nd_le (q_lf_le (q_Le_ald h)) (q_LeT_rf))))) (q_nd_le (q_LeT_rf) (q_nd_le (q_nd_le (q_lf_le (q_Le_ald h)) (q_LeT_rf)) (q_LeT_rf)))) (q_nd_le (q_LeT_rf) (q_nd_le (q_nd_le (q_LeT_rf) (q_nd_le (q_lf_le (q_Le_ald h)) (q_LeT_rf))) (q_LeT_rf)))
theorem q_le105 {TB TB9 : Nat → Option (Nat × Nat × (Nat → Int32))} (h : q_TBle TB TB9) : q_LeT (q_t105 TB) (q_t105 TB9) := q_nd_le (q_nd_le (q_nd_le (q_LeT_rf) (q_nd_le (q_LeT_rf) (q_nd_le (q_LeT_rf) (q_lf_le (q_Le_ald h))))) (q_LeT_rf)) (q_nd_le (q_LeT_rf) (q_nd_le (q_nd_le (q_LeT_rf) (q_nd_le (q_lf_le (q_Le_ald h)) (q_LeT_rf))) (q_LeT_rf)))
theorem q_le106 {TB TB9 : Nat → Option (Nat × Nat × (Nat → Int32))} (h : q_TBle TB TB9) : q_LeT (q_t106 TB) (q_t106 TB9) := q_LeT_rf
theorem q_le107 {TB TB9 : Nat → Option (Nat × Nat × (Nat → Int32))} (h : q_TBle TB TB9) : q_LeT (q_t107 TB) (q_t107 TB9) := q_LeT_rf
theorem q_le108 {TB TB9 : Nat → Option (Nat × Nat × (Nat → Int32))} (h : q_TBle TB TB9) : q_LeT (q_t108 TB) (q_t108 TB9) := q_LeT_rf
theorem q_le109 {TB TB9 : Nat → Option (Nat × Nat × (Nat → Int32))} (h : q_TBle TB TB9) : q_LeT (q_t109 TB) (q_t109 TB9) := q_LeT_rf
theorem q_le110 {TB TB9 : Nat → Option (Nat × Nat × (Nat → Int32))} (h : q_TBle TB TB9) : q_LeT (q_t110 TB) (q_t110 TB9) := q_nd_le (q_LeT_rf) (q_nd_le (q_nd_le (q_nd_le (q_lf_le (q_Le_ald h)) (q_LeT_rf)) (q_nd_le (q_LeT_rf) (q_nd_le (q_LeT_rf) (q_lf_le (q_Le_ald h))))) (q_LeT_rf))
theorem q_le111 {TB TB9 : Nat → Option (Nat × Nat × (Nat → Int32))} (h : q_TBle TB TB9) : q_LeT (q_t111 TB) (q_t111 TB9) := q_nd_le (q_LeT_rf) (q_nd_le (q_nd_le (q_LeT_rf) (q_nd_le (q_nd_le (q_LeT_rf) (q_lf_le (q_Le_ald h))) (q_LeT_rf))) (q_nd_le (q_LeT_rf) (q_nd_le (q_nd_le (q_LeT_rf) (q_lf_le (q_Le_ald h))) (q_LeT_rf))))
theorem q_le112 {TB TB9 : Nat → Option (Nat × Nat × (Nat → Int32))} (h : q_TBle TB TB9) : q_LeT (q_t112 TB) (q_t112 TB9) := q_LeT_rf
theorem q_le113 {TB TB9 : Nat → Option (Nat × Nat × (Nat → Int32))} (h : q_TBle TB TB9) : q_LeT (q_t113 TB) (q_t113 TB9) := q_nd_le (q_LeT_rf) (q_nd_le (q_nd_le (q_lf_le (q_Le_ald h)) (q_LeT_rf)) (q_LeT_rf))
theorem q_le114 {TB TB9 : Nat → Option (Nat × Nat × (Nat → Int32))} (h : q_TBle TB TB9) : q_LeT (q_t114 TB) (q_t114 TB9) := q_nd_le (q_LeT_rf) (q_nd_le (q_nd_le (q_lf_le (q_Le_ald h)) (q_LeT_rf)) (q_LeT_rf))
theorem q_le115 {TB TB9 : Nat → Option (Nat × Nat × (Nat → Int32))} (h : q_TBle TB TB9) : q_LeT (q_t115 TB) (q_t115 TB9) := q_nd_le (q_LeT_rf) (q_nd_le (q_nd_le (q_nd_le (q_nd_le (q_lf_le (q_Le_ald h)) (q_LeT_rf)) (q_LeT_rf)) (q_LeT_rf)) (q_nd_le (q_nd_le (q_LeT_rf) (q_nd_le (q_lf_le (q_Le_ald h)) (q_LeT_rf))) (q_LeT_rf)))
theorem q_le116 {TB TB9 : Nat → Option (Nat × Nat × (Nat → Int32))} (h : q_TBle TB TB9) : q_LeT (q_t116 TB) (q_t116 TB9) := q_nd_le (q_nd_le (q_LeT_rf) (q_nd_le (q_nd_le (q_nd_le (q_lf_le (q_Le_ald h)) (q_LeT_rf)) (q_LeT_rf)) (q_LeT_rf))) (q_LeT_rf)
theorem q_le117 {TB TB9 : Nat → Option (Nat × Nat × (Nat → Int32))} (h : q_TBle TB TB9) : q_LeT (q_t117 TB) (q_t117 TB9) := q_nd_le (q_LeT_rf) (q_nd_le (q_nd_le (q_nd_le (q_lf_le (q_Le_ald h)) (q_LeT_rf)) (q_LeT_rf)) (q_LeT_rf))
theorem q_le118 {TB TB9 : Nat → Option (Nat × Nat × (Nat → Int32))} (h : q_TBle TB TB9) : q_LeT (q_t118 TB) (q_t118 TB9) := q_nd_le (q_nd_le (q_nd_le (q_LeT_rf) (q_nd_le (q_LeT_rf) (q_nd_le (q_nd_le (q_lf_le (q_Le_ald h)) (q_LeT_rf)) (q_LeT_rf)))) (q_nd_le (q_nd_le (q_LeT_rf) (q_nd_le (q_LeT_rf) (q_nd_le (q_LeT_rf) (q_nd_le (q_lf_le (q_Le_ald h)) (q_LeT_rf))))) (q_LeT_rf))) (q_nd_le (q_nd_le (q_nd_le (q_LeT_rf) (q_nd_le (q_nd_le (q_lf_le (q_Le_ald h)) (q_LeT_rf)) (q_LeT_rf))) (q_LeT_rf)) (q_LeT_rf))
theorem q_le119 {TB TB9 : Nat → Option (Nat × Nat × (Nat → Int32))} (h : q_TBle TB TB9) : q_LeT (q_t119 TB) (q_t119 TB9) := q_nd_le (q_LeT_rf) (q_nd_le (q_LeT_rf) (q_nd_le (q_lf_le (q_Le_ald h)) (q_LeT_rf)))
theorem q_le120 {TB TB9 : Nat → Option (Nat × Nat × (Nat → Int32))} (h : q_TBle TB TB9) : q_LeT (q_t120 TB) (q_t120 TB9) := q_nd_le (q_nd_le (q_nd_le (q_LeT_rf) (q_nd_le (q_LeT_rf) (q_nd_le (q_lf_le (q_Le_ald h)) (q_LeT_rf)))) (q_LeT_rf)) (q_LeT_rf)
theorem q_le121 {TB TB9 : Nat → Option (Nat × Nat × (Nat → Int32))} (h : q_TBle TB TB9) : q_LeT (q_t121 TB) (q_t121 TB9) := q_nd_le (q_nd_le (q_nd_le (q_LeT_rf) (q_nd_le (q_LeT_rf) (q_nd_le (q_LeT_rf) (q_nd_le (q_LeT_rf) (q_nd_le (q_lf_le (q_Le_ald h)) (q_LeT_rf)))))) (q_nd_le (q_nd_le (q_LeT_rf) (q_nd_le (q_LeT_rf) (q_nd_le (q_LeT_rf) (q_nd_le (q_LeT_rf) (q_lf_le (q_Le_ald h)))))) (q_LeT_rf))) (q_nd_le (q_nd_le (q_LeT_rf) (q_nd_le (q_nd_le (q_LeT_rf) (q_nd_le (q_LeT_rf) (q_nd_le (q_LeT_rf) (q_lf_le (q_Le_ald h))))) (q_LeT_rf))) (q_LeT_rf))
theorem q_le122 {TB TB9 : Nat → Option (Nat × Nat × (Nat → Int32))} (h : q_TBle TB TB9) : q_LeT (q_t122 TB) (q_t122 TB9) := q_nd_le (q_LeT_rf) (q_nd_le (q_nd_le (q_LeT_rf) (q_nd_le (q_nd_le (q_lf_le (q_Le_ald h)) (q_LeT_rf)) (q_nd_le (q_LeT_rf) (q_nd_le (q_lf_le (q_Le_ald h)) (q_LeT_rf))))) (q_nd_le (q_LeT_rf) (q_nd_le (q_LeT_rf) (q_nd_le (q_LeT_rf) (q_nd_le (q_lf_le (q_Le_ald h)) (q_LeT_rf))))))
theorem q_le123 {TB TB9 : Nat → Option (Nat × Nat × (Nat → Int32))} (h : q_TBle TB TB9) : q_LeT (q_t123 TB) (q_t123 TB9) := q_nd_le (q_nd_le (q_LeT_rf) (q_nd_le (q_nd_le (q_LeT_rf) (q_nd_le (q_LeT_rf) (q_lf_le (q_Le_ald h)))) (q_LeT_rf))) (q_nd_le (q_LeT_rf) (q_nd_le (q_nd_le (q_LeT_rf) (q_nd_le (q_LeT_rf) (q_lf_le (q_Le_ald h)))) (q_LeT_rf)))
theorem q_le124 {TB TB9 : Nat → Option (Nat × Nat × (Nat → Int32))} (h : q_TBle TB TB9) : q_LeT (q_t124 TB) (q_t124 TB9) := q_LeT_rf
theorem q_le125 {TB TB9 : Nat → Option (Nat × Nat × (Nat → Int32))} (h : q_TBle TB TB9) : q_LeT (q_t125 TB) (q_t125 TB9) := q_LeT_rf
theorem q_le126 {TB TB9 : Nat → Option (Nat × Nat × (Nat → Int32))} (h : q_TBle TB TB9) : q_LeT (q_t126 TB) (q_t126 TB9) := q_LeT_rf
theorem q_le127 {TB TB9 : Nat → Option (Nat × Nat × (Nat → Int32))} (h : q_TBle TB TB9) : q_LeT (q_t127 TB) (q_t127 TB9) := q_LeT_rf
theorem q_le128 {TB TB9 : Nat → Option (Nat × Nat × (Nat → Int32))} (h : q_TBle TB TB9) : q_LeT (q_t128 TB) (q_t128 TB9) := q_nd_le (q_nd_le (q_LeT_rf) (q_nd_le (q_nd_le (q_LeT_rf) (q_nd_le (q_LeT_rf) (q_nd_le (q_lf_le (q_Le_ald h)) (q_LeT_rf)))) (q_LeT_rf))) (q_nd_le (q_nd_le (q_nd_le (q_nd_le (q_LeT_rf) (q_nd_le (q_lf_le (q_Le_ald h)) (q_LeT_rf))) (q_LeT_rf)) (q_LeT_rf)) (q_nd_le (q_LeT_rf) (q_nd_le (q_nd_le (q_lf_le (q_Le_ald h)) (q_LeT_rf)) (q_LeT_rf))))
theorem q_le129 {TB TB9 : Nat → Option (Nat × Nat × (Nat → Int32))} (h : q_TBle TB TB9) : q_LeT (q_t129 TB) (q_t129 TB9) := q_LeT_rf
theorem q_le130 {TB TB9 : Nat → Option (Nat × Nat × (Nat → Int32))} (h : q_TBle TB TB9) : q_LeT (q_t130 TB) (q_t130 TB9) := q_LeT_rf
theorem q_le131 {TB TB9 : Nat → Option (Nat × Nat × (Nat → Int32))} (h : q_TBle TB TB9) : q_LeT (q_t131 TB) (q_t131 TB9) := q_LeT_rf
theorem q_le132 {TB TB9 : Nat → Option (Nat × Nat × (Nat → Int32))} (h : q_TBle TB TB9) : q_LeT (q_t132 TB) (q_t132 TB9) := q_LeT_rf
theorem q_le133 {TB TB9 : Nat → Option (Nat × Nat × (Nat → Int32))} (h : q_TBle TB TB9) : q_LeT (q_t133 TB) (q_t133 TB9) := q_LeT_rf
theorem q_le134 {TB TB9 : Nat → Option (Nat × Nat × (Nat → Int32))} (h : q_TBle TB TB9) : q_LeT (q_t134 TB) (q_t134 TB9) := q_LeT_rf
theorem q_le135 {TB TB9 : Nat → Option (Nat × Nat × (Nat → Int32))} (h : q_TBle TB TB9) : q_LeT (q_t135 TB) (q_t135 TB9) := q_nd_le (q_nd_le (q_nd_le (q_nd_le (q_LeT_rf) (q_nd_le (q_nd_le (q_LeT_rf) (q_lf_le (q_Le_ald h))) (q_LeT_rf))) (q_nd_le (q_nd_le (q_LeT_rf) (q_nd_le (q_LeT_rf) (q_lf_le (q_Le_ald h)))) (q_LeT_rf))) (q_LeT_rf)) (q_LeT_rf)
theorem q_le136 {TB TB9 : Nat → Option (Nat × Nat × (Nat → Int32))} (h : q_TBle TB TB9) : q_LeT (q_t136 TB) (q_t136 TB9) := q_LeT_rf
theorem q_le137 {TB TB9 : Nat → Option (Nat × Nat × (Nat → Int32))} (h : q_TBle TB TB9) : q_LeT (q_t137 TB) (q_t137 TB9) := q_LeT_rf
theorem q_le138 {TB TB9 : Nat → Option (Nat × Nat × (Nat → Int32))} (h : q_TBle TB TB9) : q_LeT (q_t138 TB) (q_t138 TB9) := q_LeT_rf
theorem q_le139 {TB TB9 : Nat → Option (Nat × Nat × (Nat → Int32))} (h : q_TBle TB TB9) : q_LeT (q_t139 TB) (q_t139 TB9) := q_LeT_rf
theorem q_le140 {TB TB9 : Nat → Option (Nat × Nat × (Nat → Int32))} (h : q_TBle TB TB9) : q_LeT (q_t140 TB) (q_t140 TB9) := q_LeT_rf
theorem q_le141 {TB TB9 : Nat → Option (Nat × Nat × (Nat → Int32))} (h : q_TBle TB TB9) : q_LeT (q_t141 TB) (q_t141 TB9) := q_LeT_rf
theorem q_le142 {TB TB9 : Nat → Option (Nat × Nat × (Nat → Int32))} (h : q_TBle TB TB9) : q_LeT (q_t142 TB) (q_t142 TB9) := q_LeT_rf
theorem q_le143 {TB TB9 : Nat → Option (Nat × Nat × (Nat → Int32))} (h : q_TBle TB TB9) : q_LeT (q_t143 TB) (q_t143 TB9) := q_LeT_rf
theorem q_le144 {TB TB9 : Nat → Option (Nat × Nat × (Nat → Int32))} (h : q_TBle TB TB9) : q_LeT (q_t144 TB) (q_t144 TB9) := q_LeT_rf
theorem q_le145 {TB TB9 : Nat → Option (Nat × Nat × (Nat → Int32))} (h : q_TBle TB TB9) : q_LeT (q_t145 TB) (q_t145 TB9) := q_LeT_rf
theorem q_le146 {TB TB9 : Nat → Option (Nat × Nat × (Nat → Int32))} (h : q_TBle TB TB9) : q_LeT (q_t146 TB) (q_t146 TB9) := q_LeT_rf
theorem q_le147 {TB TB9 : Nat → Option (Nat × Nat × (Nat → Int32))} (h : q_TBle TB TB9) : q_LeT (q_t147 TB) (q_t147 TB9) := q_LeT_rf
theorem q_le148 {TB TB9 : Nat → Option (Nat × Nat × (Nat → Int32))} (h : q_TBle TB TB9) : q_LeT (q_t148 TB) (q_t148 TB9) := q_LeT_rf
theorem q_le149 {TB TB9 : Nat → Option (Nat × Nat × (Nat → Int32))} (h : q_TBle TB TB9) : q_LeT (q_t149 TB) (q_t149 TB9) := q_LeT_rf
theorem q_le150 {TB TB9 : Nat → Option (Nat × Nat × (Nat → Int32))} (h : q_TBle TB TB9) : q_LeT (q_t150 TB) (q_t150 TB9) := q_LeT_rf
theorem q_le151 {TB TB9 : Nat → Option (Nat × Nat × (Nat → Int32))} (h : q_TBle TB TB9) : q_LeT (q_t151 TB) (q_t151 TB9) := q_LeT_rf
theorem q_le152 {TB TB9 : Nat → Option (Nat × Nat × (Nat → Int32))} (h : q_TBle TB TB9) : q_LeT (q_t152 TB) (q_t152 TB9) := q_LeT_rf
theorem q_le153 {TB TB9 : Nat → Option (Nat × Nat × (Nat → Int32))} (h : q_TBle TB TB9) : q_LeT (q_t153 TB) (q_t153 TB9) := q_LeT_rf
theorem q_le154 {TB TB9 : Nat → Option (Nat × Nat × (Nat → Int32))} (h : q_TBle TB TB9) : q_LeT (q_t154 TB) (q_t154 TB9) := q_LeT_rf
theorem q_le155 {TB TB9 : Nat → Option (Nat × Nat × (Nat → Int32))} (h : q_TBle TB TB9) : q_LeT (q_t155 TB) (q_t155 TB9) := q_LeT_rf
theorem q_le156 {TB TB9 : Nat → Option (Nat × Nat × (Nat → Int32))} (h : q_TBle TB TB9) : q_LeT (q_t156 TB) (q_t156 TB9) := q_LeT_rf
theorem q_le157 {TB TB9 : Nat → Option (Nat × Nat × (Nat → Int32))} (h : q_TBle TB TB9) : q_LeT (q_t157 TB) (q_t157 TB9) := q_LeT_rf
theorem q_le158 {TB TB9 : Nat → Option (Nat × Nat × (Nat → Int32))} (h : q_TBle TB TB9) : q_LeT (q_t158 TB) (q_t158 TB9) := q_LeT_rf
theorem q_le159 {TB TB9 : Nat → Option (Nat × Nat × (Nat → Int32))} (h : q_TBle TB TB9) : q_LeT (q_t159 TB) (q_t159 TB9) := q_LeT_rf
theorem q_le160 {TB TB9 : Nat → Option (Nat × Nat × (Nat → Int32))} (h : q_TBle TB TB9) : q_LeT (q_t160 TB) (q_t160 TB9) := q_LeT_rf
theorem q_le161 {TB TB9 : Nat → Option (Nat × Nat × (Nat → Int32))} (h : q_TBle TB TB9) : q_LeT (q_t161 TB) (q_t161 TB9) := q_LeT_rf
theorem q_le162 {TB TB9 : Nat → Option (Nat × Nat × (Nat → Int32))} (h : q_TBle TB TB9) : q_LeT (q_t162 TB) (q_t162 TB9) := q_LeT_rf
theorem q_le163 {TB TB9 : Nat → Option (Nat × Nat × (Nat → Int32))} (h : q_TBle TB TB9) : q_LeT (q_t163 TB) (q_t163 TB9) := q_LeT_rf
theorem q_le164 {TB TB9 : Nat → Option (Nat × Nat × (Nat → Int32))} (h : q_TBle TB TB9) : q_LeT (q_t164 TB) (q_t164 TB9) := q_LeT_rf
theorem q_le165 {TB TB9 : Nat → Option (Nat × Nat × (Nat → Int32))} (h : q_TBle TB TB9) : q_LeT (q_t165 TB) (q_t165 TB9) := q_LeT_rf
theorem q_le166 {TB TB9 : Nat → Option (Nat × Nat × (Nat → Int32))} (h : q_TBle TB TB9) : q_LeT (q_t166 TB) (q_t166 TB9) := q_nd_le (q_nd_le (q_LeT_rf) (q_nd_le (q_LeT_rf) (q_nd_le (q_LeT_rf) (q_nd_le (q_lf_le (q_Le_ald h)) (q_LeT_rf))))) (q_nd_le (q_nd_le (q_LeT_rf) (q_nd_le (q_lf_le (q_Le_ald h)) (q_LeT_rf))) (q_LeT_rf))
theorem q_le167 {TB TB9 : Nat → Option (Nat × Nat × (Nat → Int32))} (h : q_TBle TB TB9) : q_LeT (q_t167 TB) (q_t167 TB9) := q_nd_le (q_nd_le (q_nd_le (q_nd_le (q_nd_le (q_nd_le (q_LeT_rf) (q_lf_le (q_Le_aln h))) (q_LeT_rf)) (q_LeT_rf)) (q_LeT_rf)) (q_nd_le (q_nd_le (q_nd_le (q_nd_le (q_LeT_rf) (q_nd_le (q_LeT_rf) (q_lf_le (q_Le_ald h)))) (q_LeT_rf)) (q_nd_le (q_nd_le (q_LeT_rf) (q_nd_le (q_LeT_rf) (q_lf_le (q_Le_ald h)))) (q_LeT_rf))) (q_nd_le (q_LeT_rf) (q_nd_le (q_nd_le (q_lf_le (q_Le_ald h)) (q_LeT_rf)) (q_LeT_rf))))) (q_nd_le (q_nd_le (q_nd_le (q_LeT_rf) (q_nd_le (q_nd_le (q_LeT_rf) (q_nd_le (q_lf_le (q_Le_ald h)) (q_LeT_rf))) (q_LeT_rf))) (q_LeT_rf)) (q_nd_le (q_nd_le (q_nd_le (q_LeT_rf) (q_nd_le (q_LeT_rf) (q_nd_le (q_LeT_rf) (q_lf_le (q_Le_ald h))))) (q_nd_le (q_LeT_rf) (q_nd_le (q_LeT_rf) (q_nd_le (q_lf_le (q_Le_ald h)) (q_LeT_rf))))) (q_LeT_rf)))
theorem q_le168 {TB TB9 : Nat → Option (Nat × Nat × (Nat → Int32))} (h : q_TBle TB TB9) : q_LeT (q_t168 TB) (q_t168 TB9) := q_nd_le (q_nd_le (q_nd_le (q_LeT_rf) (q_nd_le (q_nd_le (q_LeT_rf) (q_nd_le (q_LeT_rf) (q_lf_le (q_Le_ald h)))) (q_LeT_rf))) (q_nd_le (q_nd_le (q_nd_le (q_LeT_rf) (q_nd_le (q_LeT_rf) (q_lf_le (q_Le_ald h)))) (q_LeT_rf)) (q_LeT_rf))) (q_LeT_rf)
theorem q_le169 {TB TB9 : Nat → Option (Nat × Nat × (Nat → Int32))} (h : q_TBle TB TB9) : q_LeT (q_t169 TB) (q_t169 TB9) := q_nd_le (q_nd_le (q_nd_le (q_LeT_rf) (q_nd_le (q_nd_le (q_LeT_rf) (q_nd_le (q_lf_le (q_Le_ald h)) (q_LeT_rf))) (q_LeT_rf))) (q_nd_le (q_nd_le (q_nd_le (q_nd_le (q_LeT_rf) (q_lf_le (q_Le_ald h))) (q_LeT_rf)) (q_LeT_rf)) (q_LeT_rf))) (q_nd_le (q_nd_le (q_nd_le (q_LeT_rf) (q_nd_le (q_LeT_rf) (q_nd_le (q_lf_le (q_Le_ald h)) (q_LeT_rf)))) (q_nd_le (q_LeT_rf) (q_nd_le (q_nd_le (q_LeT_rf) (q_lf_le (q_Le_ald h))) (q_LeT_rf)))) (q_nd_le (q_nd_le (q_LeT_rf) (q_nd_le (q_LeT_rf) (q_nd_le (q_lf_le (q_Le_ald h)) (q_LeT_rf)))) (q_nd_le (q_LeT_rf) (q_nd_le (q_nd_le (q_lf_le (q_Le_ald h)) (q_LeT_rf)) (q_LeT_rf)))))
theorem q_le170 {TB TB9 : Nat → Option (Nat × Nat × (Nat → Int32))} (h : q_TBle TB TB9) : q_LeT (q_t170 TB) (q_t170 TB9) := q_nd_le (q_nd_le (q_LeT_rf) (q_nd_le (q_nd_le (q_nd_le (q_LeT_rf) (q_nd_le (q_LeT_rf) (q_lf_le (q_Le_ald h)))) (q_LeT_rf)) (q_nd_le (q_nd_le (q_lf_le (q_Le_ald h)) (q_LeT_rf)) (q_LeT_rf)))) (q_nd_le (q_nd_le (q_LeT_rf) (q_nd_le (q_LeT_rf) (q_nd_le (q_LeT_rf) (q_nd_le (q_LeT_rf) (q_lf_le (q_Le_ald h)))))) (q_LeT_rf))
theorem q_le171 {TB TB9 : Nat → Option (Nat × Nat × (Nat → Int32))} (h : q_TBle TB TB9) : q_LeT (q_t171 TB) (q_t171 TB9) := q_LeT_rf
theorem q_le172 {TB TB9 : Nat → Option (Nat × Nat × (Nat → Int32))} (h : q_TBle TB TB9) : q_LeT (q_t172 TB) (q_t172 TB9) := q_LeT_rf
theorem q_le173 {TB TB9 : Nat → Option (Nat × Nat × (Nat → Int32))} (h : q_TBle TB TB9) : q_LeT (q_t173 TB) (q_t173 TB9) := q_LeT_rf
theorem q_le174 {TB TB9 : Nat → Option (Nat × Nat × (Nat → Int32))} (h : q_TBle TB TB9) : q_LeT (q_t174 TB) (q_t174 TB9) := q_LeT_rf
theorem q_le175 {TB TB9 : Nat → Option (Nat × Nat × (Nat → Int32))} (h : q_TBle TB TB9) : q_LeT (q_t175 TB) (q_t175 TB9) := q_LeT_rf
theorem q_le176 {TB TB9 : Nat → Option (Nat × Nat × (Nat → Int32))} (h : q_TBle TB TB9) : q_LeT (q_t176 TB) (q_t176 TB9) := q_nd_le (q_LeT_rf) (q_nd_le (q_nd_le (q_nd_le (q_LeT_rf) (q_nd_le (q_lf_le (q_Le_ald h)) (q_LeT_rf))) (q_LeT_rf)) (q_LeT_rf))
theorem q_le177 {TB TB9 : Nat → Option (Nat × Nat × (Nat → Int32))} (h : q_TBle TB TB9) : q_LeT (q_t177 TB) (q_t177 TB9) := q_LeT_rf
theorem q_le178 {TB TB9 : Nat → Option (Nat × Nat × (Nat → Int32))} (h : q_TBle TB TB9) : q_LeT (q_t178 TB) (q_t178 TB9) := q_LeT_rf
theorem q_le179 {TB TB9 : Nat → Option (Nat × Nat × (Nat → Int32))} (h : q_TBle TB TB9) : q_LeT (q_t179 TB) (q_t179 TB9) := q_LeT_rf
theorem q_le180 {TB TB9 : Nat → Option (Nat × Nat × (Nat → Int32))} (h : q_TBle TB TB9) : q_LeT (q_t180 TB) (q_t180 TB9) := q_nd_le (q_nd_le (q_nd_le (q_LeT_rf) (q_nd_le (q_nd_le (q_LeT_rf) (q_nd_le (q_LeT_rf) (q_lf_le (q_Le_ald h)))) (q_LeT_rf))) (q_nd_le (q_LeT_rf) (q_nd_le (q_nd_le (q_LeT_rf) (q_nd_le (q_LeT_rf) (q_lf_le (q_Le_ald h)))) (q_LeT_rf)))) (q_LeT_rf)
theorem q_le181 {TB TB9 : Nat → Option (Nat × Nat × (Nat → Int32))} (h : q_TBle TB TB9) : q_LeT (q_t181 TB) (q_t181 TB9) := q_nd_le (q_nd_le (q_LeT_rf) (q_nd_le (q_LeT_rf) (q_nd_le (q_LeT_rf) (q_nd_le (q_LeT_rf) (q_nd_le (q_lf_le (q_Le_ald h)) (q_LeT_rf)))))) (q_nd_le (q_nd_le (q_LeT_rf) (q_nd_le (q_LeT_rf) (q_nd_le (q_LeT_rf) (q_nd_le (q_lf_le (q_Le_ald h)) (q_LeT_rf))))) (q_LeT_rf))
theorem q_le182 {TB TB9 : Nat → Option (Nat × Nat × (Nat → Int32))} (h : q_TBle TB TB9) : q_LeT (q_t182 TB) (q_t182 TB9) := q_LeT_rf
theorem q_le183 {TB TB9 : Nat → Option (Nat × Nat × (Nat → Int32))} (h : q_TBle TB TB9) : q_LeT (q_t183 TB) (q_t183 TB9) := q_LeT_rf
theorem q_le184 {TB TB9 : Nat → Option (Nat × Nat × (Nat → Int32))} (h : q_TBle TB TB9) : q_LeT (q_t184 TB) (q_t184 TB9) := q_LeT_rf
theorem q_le185 {TB TB9 : Nat → Option (Nat × Nat × (Nat → Int32))} (h : q_TBle TB TB9) : q_LeT (q_t185 TB) (q_t185 TB9) := q_LeT_rf
theorem q_le186 {TB TB9 : Nat → Option (Nat × Nat × (Nat → Int32))} (h : q_TBle TB TB9) : q_LeT (q_t186 TB) (q_t186 TB9) := q_LeT_rf
theorem q_le187 {TB TB9 : Nat → Option (Nat × Nat × (Nat → Int32))} (h : q_TBle TB TB9) : q_LeT (q_t187 TB) (q_t187 TB9) := q_LeT_rf
theorem q_le188 {TB TB9 : Nat → Option (Nat × Nat × (Nat → Int32))} (h : q_TBle TB TB9) : q_LeT (q_t188 TB) (q_t188 TB9) := q_LeT_rf
theorem q_le189 {TB TB9 : Nat → Option (Nat × Nat × (Nat → Int32))} (h : q_TBle TB TB9) : q_LeT (q_t189 TB) (q_t189 TB9) := q_LeT_rf
theorem q_le190 {TB TB9 : Nat → Option (Nat × Nat × (Nat → Int32))} (h : q_TBle TB TB9) : q_LeT (q_t190 TB) (q_t190 TB9) := q_nd_le (q_LeT_rf) (q_nd_le (q_LeT_rf) (q_nd_le (q_lf_le (q_Le_ald h)) (q_LeT_rf)))
theorem q_le191 {TB TB9 : Nat → Option (Nat × Nat × (Nat → Int32))} (h : q_TBle TB TB9) : q_LeT (q_t191 TB) (q_t191 TB9) := q_nd_le (q_LeT_rf) (q_nd_le (q_nd_le (q_nd_le (q_lf_le (q_Le_aln h)) (q_LeT_rf)) (q_LeT_rf)) (q_nd_le (q_nd_le (q_lf_le (q_Le_ald h)) (q_LeT_rf)) (q_LeT_rf)))
theorem q_le192 {TB TB9 : Nat → Option (Nat × Nat × (Nat → Int32))} (h : q_TBle TB TB9) : q_LeT (q_t192 TB) (q_t192 TB9) := q_LeT_rf
theorem q_le193 {TB TB9 : Nat → Option (Nat × Nat × (Nat → Int32))} (h : q_TBle TB TB9) : q_LeT (q_t193 TB) (q_t193 TB9) := q_LeT_rf
theorem q_le194 {TB TB9 : Nat → Option (Nat × Nat × (Nat → Int32))} (h : q_TBle TB TB9) : q_LeT (q_t194 TB) (q_t194 TB9) := q_LeT_rf
theorem q_le195 {TB TB9 : Nat → Option (Nat × Nat × (Nat → Int32))} (h : q_TBle TB TB9) : q_LeT (q_t195 TB) (q_t195 TB9) := q_LeT_rf
theorem q_le196 {TB TB9 : Nat → Option (Nat × Nat × (Nat → Int32))} (h : q_TBle TB TB9) : q_LeT (q_t196 TB) (q_t196 TB9) := q_LeT_rf
theorem q_le197 {TB TB9 : Nat → Option (Nat × Nat × (Nat → Int32))} (h : q_TBle TB TB9) : q_LeT (q_t197 TB) (q_t197 TB9) := q_LeT_rf
theorem q_le198 {TB TB9 : Nat → Option (Nat × Nat × (Nat → Int32))} (h : q_TBle TB TB9) : q_LeT (q_t198 TB) (q_t198 TB9) := q_LeT_rf
theorem q_le199 {TB TB9 : Nat → Option (Nat × Nat × (Nat → Int32))} (h : q_TBle TB TB9) : q_LeT (q_t199 TB) (q_t199 TB9) := q_LeT_rf
theorem q_le200 {TB TB9 : Nat → Option (Nat × Nat × (Nat → Int32))} (h : q_TBle TB TB9) : q_LeT (q_t200 TB) (q_t200 TB9) := q_LeT_rf
theorem q_le201 {TB TB9 : Nat → Option (Nat × Nat × (Nat → Int32))} (h : q_TBle TB TB9) : q_LeT (q_t201 TB) (q_t201 TB9) := q_LeT_rf
theorem q_le202 {TB TB9 : Nat → Option (Nat × Nat × (Nat → Int32))} (h : q_TBle TB TB9) : q_LeT (q_t202 TB) (q_t202 TB9) := q_LeT_rf
theorem q_le203 {TB TB9 : Nat → Option (Nat × Nat × (Nat → Int32))} (h : q_TBle TB TB9) : q_LeT (q_t203 TB) (q_t203 TB9) := q_LeT_rf
theorem q_le204 {TB TB9 : Nat → Option (Nat × Nat × (Nat → Int32))} (h : q_TBle TB TB9) : q_LeT (q_t204 TB) (q_t204 TB9) := q_LeT_rf
theorem q_le205 {TB TB9 : Nat → Option (Nat × Nat × (Nat → Int32))} (h : q_TBle TB TB9) : q_LeT (q_t205 TB) (q_t205 TB9) := q_LeT_rf
theorem q_le206 {TB TB9 : Nat → Option (Nat × Nat × (Nat → Int32))} (h : q_TBle TB TB9) : q_LeT (q_t206 TB) (q_t206 TB9) := q_LeT_rf
theorem q_le207 {TB TB9 : Nat → Option (Nat × Nat × (Nat → Int32))} (h : q_TBle TB TB9) : q_LeT (q_t207 TB) (q_t207 TB9) := q_nd_le (q_nd_le (q_LeT_rf) (q_nd_le (q_nd_le (q_LeT_rf) (q_nd_le (q_LeT_rf) (q_nd_le (q_nd_le (q_lf_le (q_Le_ald h)) (q_LeT_rf)) (q_LeT_rf)))) (q_nd_le (q_nd_le (q_LeT_rf) (q_nd_le (q_LeT_rf) (q_nd_le (q_lf_le (q_Le_ald h)) (q_LeT_rf)))) (q_LeT_rf)))) (q_nd_le (q_nd_le (q_nd_le (q_nd_le (q_nd_le (q_lf_le (q_Le_ald h)) (q_LeT_rf)) (q_LeT_rf)) (q_LeT_rf)) (q_LeT_rf)) (q_nd_le (q_LeT_rf) (q_nd_le (q_nd_le (q_nd_le (q_lf_le (q_Le_ald h)) (q_LeT_rf)) (q_LeT_rf)) (q_LeT_rf))))
theorem q_le208 {TB TB9 : Nat → Option (Nat × Nat × (Nat → Int32))} (h : q_TBle TB TB9) : q_LeT (q_t208 TB) (q_t208 TB9) := q_nd_le (q_nd_le (q_LeT_rf) (q_nd_le (q_lf_le (q_Le_ald h)) (q_LeT_rf))) (q_nd_le (q_nd_le (q_LeT_rf) (q_nd_le (q_lf_le (q_Le_ald h)) (q_LeT_rf))) (q_LeT_rf))
theorem q_le209 {TB TB9 : Nat → Option (Nat × Nat × (Nat → Int32))} (h : q_TBle TB TB9) : q_LeT (q_t209 TB) (q_t209 TB9) := q_nd_le (q_nd_le (q_nd_le (q_nd_le (q_LeT_rf) (q_nd_le (q_LeT_rf) (q_nd_le (q_LeT_rf) (q_nd_le (q_lf_le (q_Le_ald h)) (q_LeT_rf))))) (q_LeT_rf)) (q_nd_le (q_nd_le (q_nd_le (q_LeT_rf) (q_nd_le (q_nd_le (q_LeT_rf) (q_lf_le (q_Le_ald h))) (q_LeT_rf))) (q_LeT_rf)) (q_nd_le (q_nd_le (q_nd_le (q_LeT_rf) (q_nd_le (q_lf_le (q_Le_ald h)) (q_LeT_rf))) (q_LeT_rf)) (q_nd_le (q_LeT_rf) (q_nd_le (q_LeT_rf) (q_nd_le (q_lf_le (q_Le_ald h)) (q_LeT_rf))))))) (q_nd_le (q_nd_le (q_nd_le (q_nd_le (q_LeT_rf) (q_nd_le (q_LeT_rf) (q_nd_le (q_LeT_rf) (q_lf_le (q_Le_ald h))))) (q_LeT_rf)) (q_nd_le (q_nd_le (q_nd_le (q_LeT_rf) (q_nd_le (q_lf_le (q_Le_ald h)) (q_LeT_rf))) (q_LeT_rf)) (q_nd_le (q_nd_le (q_lf_le (q_Le_ald h)) (q_LeT_rf)) (q_LeT_rf)))) (q_nd_le (q_nd_le (q_nd_le (q_LeT_rf) (q_nd_le (q_nd_le (q_lf_le (q_Le_ald h)) (q_LeT_rf)) (q_LeT_rf))) (q_nd_le (q_nd_le (q_LeT_rf) (q_nd_le (q_lf_le (q_Le_ald h)) (q_LeT_rf))) (q_LeT_rf))) (q_nd_le (q_LeT_rf) (q_nd_le (q_LeT_rf) (q_nd_le (q_LeT_rf) (q_nd_le (q_lf_le (q_Le_ald h)) (q_LeT_rf)))))))
theorem q_le210 {TB TB9 : Nat → Option (Nat × Nat × (Nat → Int32))} (h : q_TBle TB TB9) : q_LeT (q_t210 TB) (q_t210 TB9) := q_LeT_rf
theorem q_le211 {TB TB9 : Nat → Option (Nat × Nat × (Nat → Int32))} (h : q_TBle TB TB9) : q_LeT (q_t211 TB) (q_t211 TB9) := q_nd_le (q_nd_le (q_nd_le (q_LeT_rf) (q_nd_le (q_LeT_rf) (q_nd_le (q_LeT_rf) (q_nd_le (q_LeT_rf) (q_nd_le (q_lf_le (q_Le_ald h)) (q_LeT_rf)))))) (q_nd_le (q_LeT_rf) (q_nd_le (q_LeT_rf) (q_nd_le (q_LeT_rf) (q_nd_le (q_LeT_rf) (q_nd_le (q_LeT_rf) (q_lf_le (q_Le_ald h)))))))) (q_nd_le (q_nd_le (q_nd_le (q_LeT_rf) (q_nd_le (q_LeT_rf) (q_nd_le (q_nd_le (q_lf_le (q_Le_ald h)) (q_LeT_rf)) (q_LeT_rf)))) (q_LeT_rf)) (q_nd_le (q_nd_le (q_nd_le (q_LeT_rf) (q_nd_le (q_LeT_rf) (q_nd_le (q_lf_le (q_Le_ald h)) (q_LeT_rf)))) (q_LeT_rf)) (q_nd_le (q_nd_le (q_LeT_rf) (q_nd_le (q_LeT_rf) (q_nd_le (q_lf_le (q_Le_ald h)) (q_LeT_rf)))) (q_LeT_rf))))
theorem q_le212 {TB TB9 : Nat → Option (Nat × Nat × (Nat → Int32))} (h : q_TBle TB TB9) : q_LeT (q_t212 TB) (q_t212 TB9) := q_LeT_rf
theorem q_le213 {TB TB9 : Nat → Option (Nat × Nat × (Nat → Int32))} (h : q_TBle TB TB9) : q_LeT (q_t213 TB) (q_t213 TB9) := q_nd_le (q_nd_le (q_LeT_rf) (q_nd_le (q_nd_le (q_LeT_rf) (q_nd_le (q_nd_le (q_lf_le (q_Le_ald h)) (q_LeT_rf)) (q_LeT_rf))) (q_nd_le (q_LeT_rf) (q_nd_le (q_nd_le (q_LeT_rf) (q_lf_le (q_Le_ald h))) (q_LeT_rf))))) (q_nd_le (q_nd_le (q_nd_le (q_LeT_rf) (q_nd_le (q_LeT_rf) (q_nd_le (q_LeT_rf) (q_lf_le (q_Le_ald h))))) (q_LeT_rf)) (q_nd_le (q_nd_le (q_nd_le (q_nd_le (q_LeT_rf) (q_lf_le (q_Le_ald h))) (q_LeT_rf)) (q_LeT_rf)) (q_nd_le (q_nd_le (q_nd_le (q_LeT_rf) (q_lf_le (q_Le_ald h))) (q_LeT_rf)) (q_nd_le (q_LeT_rf) (q_nd_le (q_lf_le (q_Le_ald h)) (q_LeT_rf))))))
theorem q_le214 {TB TB9 : Nat → Option (Nat × Nat × (Nat → Int32))} (h : q_TBle TB TB9) : q_LeT (q_t214 TB) (q_t214 TB9) := q_LeT_rf
theorem q_le215 {TB TB9 : Nat → Option (Nat × Nat × (Nat → Int32))} (h : q_TBle TB TB9) : q_LeT (q_t215 TB) (q_t215 TB9) := q_LeT_rf
theorem q_le216 {TB TB9 : Nat → Option (Nat × Nat × (Nat → Int32))} (h : q_TBle TB TB9) : q_LeT (q_t216 TB) (q_t216 TB9) := q_nd_le (q_LeT_rf) (q_nd_le (q_nd_le (q_LeT_rf) (q_nd_le (q_nd_le (q_LeT_rf) (q_lf_le (q_Le_ald h))) (q_LeT_rf))) (q_LeT_rf))
theorem q_le217 {TB TB9 : Nat → Option (Nat × Nat × (Nat → Int32))} (h : q_TBle TB TB9) : q_LeT (q_t217 TB) (q_t217 TB9) := q_nd_le (q_LeT_rf) (q_nd_le (q_nd_le (q_LeT_rf) (q_nd_le (q_LeT_rf) (q_nd_le (q_lf_le (q_Le_ald h)) (q_LeT_rf)))) (q_LeT_rf))
theorem q_le218 {TB TB9 : Nat → Option (Nat × Nat × (Nat → Int32))} (h : q_TBle TB TB9) : q_LeT (q_t218 TB) (q_t218 TB9) := q_LeT_rf
theorem q_le219 {TB TB9 : Nat → Option (Nat × Nat × (Nat → Int32))} (h : q_TBle TB TB9) : q_LeT (q_t219 TB) (q_t219 TB9) := q_nd_le (q_LeT_rf) (q_nd_le (q_LeT_rf) (q_nd_le (q_LeT_rf) (q_nd_le (q_lf_le (q_Le_ald h)) (q_LeT_rf))))
theorem q_le220 {TB TB9 : Nat → Option (Nat × Nat × (Nat → Int32))} (h : q_TBle TB TB9) : q_LeT (q_t220 TB) (q_t220 TB9) := q_LeT_rf
theorem q_le221 {TB TB9 : Nat → Option (Nat × Nat × (Nat → Int32))} (h : q_TBle TB TB9) : q_LeT (q_t221 TB) (q_t221 TB9) := q_LeT_rf
theorem q_le222 {TB TB9 : Nat → Option (Nat × Nat × (Nat → Int32))} (h : q_TBle TB TB9) : q_LeT (q_t222 TB) (q_t222 TB9) := q_nd_le (q_LeT_rf) (q_nd_le (q_nd_le (q_lf_le (q_Le_ald h)) (q_LeT_rf)) (q_LeT_rf))
theorem q_le223 {TB TB9 : Nat → Option (Nat × Nat × (Nat → Int32))} (h : q_TBle TB TB9) : q_LeT (q_t223 TB) (q_t223 TB9) := q_nd_le (q_nd_le (q_nd_le (q_LeT_rf) (q_nd_le (q_LeT_rf) (q_nd_le (q_lf_le (q_Le_ald h)) (q_LeT_rf)))) (q_LeT_rf)) (q_nd_le (q_nd_le (q_nd_le (q_LeT_rf) (q_nd_le (q_lf_le (q_Le_ald h)) (q_LeT_rf))) (q_LeT_rf)) (q_LeT_rf))
theorem q_le224 {TB TB9 : Nat → Option (Nat × Nat × (Nat → Int32))} (h : q_TBle TB TB9) : q_LeT (q_t224 TB) (q_t224 TB9) := q_nd_le (q_nd_le (q_LeT_rf) (q_nd_le (q_nd_le (q_nd_le (q_nd_le (q_LeT_rf) (q_lf_le (q_Le_ald h))) (q_LeT_rf)) (q_LeT_rf)) (q_nd_le (q_nd_le (q_nd_le (q_LeT_rf) (q_lf_le (q_Le_ald h))) (q_LeT_rf)) (q_LeT_rf)))) (q_nd_le (q_nd_le (q_nd_le (q_LeT_rf) (q_nd_le (q_LeT_rf) (q_nd_le (q_lf_le (q_Le_ald h)) (q_LeT_rf)))) (q_LeT_rf)) (q_LeT_rf))
theorem q_le225 {TB TB9 : Nat → Option (Nat × Nat × (Nat → Int32))} (h : q_TBle TB TB9) : q_LeT (q_t225 TB) (q_t225 TB9) := q_nd_le (q_nd_le (q_nd_le (q_nd_le (q_nd_le (q_LeT_rf) (q_nd_le (q_nd_le (q_lf_le (q_Le_ald h)) (q_LeT_rf)) (q_LeT_rf))) (q_nd_le (q_LeT_rf) (q_nd_le (q_LeT_rf) (q_nd_le (q_LeT_rf) (q_lf_le (q_Le_ald h)))))) (q_nd_le (q_LeT_rf) (q_nd_le (q_nd_le (q_LeT_rf) (q_nd_le (q_lf_le (q_Le_ald h)) (q_LeT_rf))) (q_LeT_rf)))) (q_nd_le (q_nd_le (q_nd_le (q_nd_le (q_nd_le (q_lf_le (q_Le_ald h)) (q_LeT_rf)) (q_LeT_rf)) (q_LeT_rf)) (q_LeT_rf)) (q_nd_le (q_nd_le (q_nd_le (q_nd_le (q_lf_le (q_Le_ald h)) (q_LeT_rf)) (q_LeT_rf)) (q_LeT_rf)) (q_nd_le (q_nd_le (q_nd_le (q_lf_le (q_Le_ald h)) (q_LeT_rf)) (q_LeT_rf)) (q_LeT_rf))))) (q_nd_le (q_nd_le (q_nd_le (q_nd_le (q_nd_le (q_LeT_rf) (q_nd_le (q_LeT_rf) (q_lf_le (q_Le_ald h)))) (q_LeT_rf)) (q_LeT_rf)) (q_nd_le (q_LeT_rf) (q_nd_le (q_nd_le (q_nd_le (q_LeT_rf) (q_lf_le (q_Le_ald h))) (q_LeT_rf)) (q_nd_le (q_LeT_rf) (q_nd_le (q_lf_le (q_Le_ald h)) (q_LeT_rf)))))) (q_nd_le (q_nd_le (q_LeT_rf) (q_nd_le (q_LeT_rf) (q_nd_le (q_LeT_rf) (q_nd_le (q_lf_le (q_Le_ald h)) (q_LeT_rf))))) (q_LeT_rf)))
theorem q_le226 {TB TB9 : Nat → Option (Nat × Nat × (Nat → Int32))} (h : q_TBle TB TB9) : q_LeT (q_t226 TB) (q_t226 TB9) := q_nd_le (q_nd_le (q_nd_le (q_LeT_rf) (q_nd_le (q_nd_le (q_LeT_rf) (q_nd_le (q_LeT_rf) (q_nd_le (q_lf_le (q_Le_ald h)) (q_LeT_rf)))) (q_LeT_rf))) (q_nd_le (q_nd_le (q_nd_le (q_LeT_rf) (q_nd_le (q_lf_le (q_Le_ald h)) (q_LeT_rf))) (q_nd_le (q_LeT_rf) (q_nd_le (q_LeT_rf) (q_nd_le (q_LeT_rf) (q_lf_le (q_Le_ald h)))))) (q_LeT_rf))) (q_nd_le (q_nd_le (q_LeT_rf) (q_nd_le (q_LeT_rf) (q_nd_le (q_LeT_rf) (q_nd_le (q_LeT_rf) (q_nd_le (q_lf_le (q_Le_ald h)) (q_LeT_rf)))))) (q_nd_le (q_LeT_rf) (q_nd_le (q_nd_le (q_nd_le (q_lf_le (q_Le_ald h)) (q_LeT_rf)) (q_LeT_rf)) (q_LeT_rf))))
theorem q_le227 {TB TB9 : Nat → Option (Nat × Nat × (Nat → Int32))} (h : q_TBle TB TB9) : q_LeT (q_t227 TB) (q_t227 TB9) := q_nd_le (q_nd_le (q_nd_le (q_nd_le (q_LeT_rf) (q_nd_le (q_nd_le (q_LeT_rf) (q_nd_le (q_lf_le (q_Le_ald h)) (q_LeT_rf))) (q_LeT_rf))) (q_LeT_rf)) (q_LeT_rf)) (q_nd_le (q_nd_le (q_nd_le (q_nd_le (q_nd_le (q_lf_le (q_Le_ald h)) (q_LeT_rf)) (q_LeT_rf)) (q_LeT_rf)) (q_nd_le (q_nd_le (q_LeT_rf) (q_nd_le (q_LeT_rf) (q_nd_le (q_LeT_rf) (q_lf_le (q_Le_ald h))))) (q_LeT_rf))) (q_nd_le (q_nd_le (q_nd_le (q_nd_le (q_LeT_rf) (q_nd_le (q_LeT_rf) (q_lf_le (q_Le_ald h)))) (q_LeT_rf)) (q_LeT_rf)) (q_nd_le (q_nd_le (q_nd_le (q_lf_le (q_Le_ald h)) (q_LeT_rf)) (q_LeT_rf)) (q_nd_le (q_nd_le (q_LeT_rf) (q_nd_le (q_LeT_rf) (q_lf_le (q_Le_ald h)))) (q_LeT_rf)))))
theorem q_le228 {TB TB9 : Nat → Option (Nat × Nat × (Nat → Int32))} (h : q_TBle TB TB9) : q_LeT (q_t228 TB) (q_t228 TB9) := q_nd_le (q_nd_le (q_nd_le (q_LeT_rf) (q_nd_le (q_nd_le (q_lf_le (q_Le_ald h)) (q_LeT_rf)) (q_LeT_rf))) (q_nd_le (q_nd_le (q_LeT_rf) (q_nd_le (q_LeT_rf) (q_nd_le (q_lf_le (q_Le_ald h)) (q_LeT_rf)))) (q_LeT_rf))) (q_nd_le (q_nd_le (q_LeT_rf) (q_nd_le (q_LeT_rf) (q_nd_le (q_lf_le (q_Le_ald h)) (q_LeT_rf)))) (q_nd_le (q_nd_le (q_LeT_rf) (q_nd_le (q_LeT_rf) (q_nd_le (q_lf_le (q_Le_ald h)) (q_LeT_rf)))) (q_LeT_rf)))
theorem q_le229 {TB TB9 : Nat → Option (Nat × Nat × (Nat → Int32))} (h : q_TBle TB TB9) : q_LeT (q_t229 TB) (q_t229 TB9) := q_nd_le (q_nd_le (q_nd_le (q_LeT_rf) (q_nd_le (q_nd_le (q_lf_le (q_Le_ald h)) (q_LeT_rf)) (q_LeT_rf))) (q_LeT_rf)) (q_nd_le (q_nd_le (q_nd_le (q_nd_le (q_lf_le (q_Le_ald h)) (q_LeT_rf)) (q_LeT_rf)) (q_LeT_rf)) (q_nd_le (q_nd_le (q_nd_le (q_LeT_rf) (q_lf_le (q_Le_ald h))) (q_LeT_rf)) (q_LeT_rf)))
theorem q_le230 {TB TB9 : Nat → Option (Nat × Nat × (Nat → Int32))} (h : q_TBle TB TB9) : q_LeT (q_t230 TB) (q_t230 TB9) := q_nd_le (q_nd_le (q_nd_le (q_nd_le (q_nd_le (q_LeT_rf) (q_nd_le (q_LeT_rf) (q_lf_le (q_Le_ald h)))) (q_LeT_rf)) (q_nd_le (q_LeT_rf) (q_nd_le (q_nd_le (q_LeT_rf) (q_lf_le (q_Le_ald h))) (q_LeT_rf)))) (q_nd_le (q_nd_le (q_LeT_rf) (q_nd_le (q_nd_le (q_lf_le (q_Le_ald h)) (q_LeT_rf)) (q_LeT_rf))) (q_nd_le (q_nd_le (q_LeT_rf) (q_nd_le (q_LeT_rf) (q_lf_le (q_Le_ald h)))) (q_LeT_rf)))) (q_nd_le (q_nd_le (q_nd_le (q_LeT_rf) (q_nd_le (q_nd_le (q_LeT_rf) (q_lf_le (q_Le_ald h))) (q_LeT_rf))) (q_nd_le (q_LeT_rf) (q_nd_le (q_nd_le (q_lf_le (q_Le_ald h)) (q_LeT_rf)) (q_LeT_rf)))) (q_nd_le (q_LeT_rf) (q_nd_le (q_nd_le (q_LeT_rf) (q_nd_le (q_LeT_rf) (q_lf_le (q_Le_ald h)))) (q_nd_le (q_nd_le (q_lf_le (q_Le_ald h)) (q_LeT_rf)) (q_LeT_rf)))))
theorem q_le231 {TB TB9 : Nat → Option (Nat × Nat × (Nat → Int32))} (h : q_TBle TB TB9) : q_LeT (q_t231 TB) (q_t231 TB9) := q_nd_le (q_nd_le (q_nd_le (q_nd_le (q_LeT_rf) (q_nd_le (q_nd_le (q_nd_le (q_LeT_rf) (q_lf_le (q_Le_ald h))) (q_LeT_rf)) (q_nd_le (q_nd_le (q_LeT_rf) (q_lf_le (q_Le_ald h))) (q_LeT_rf)))) (q_nd_le (q_nd_le (q_LeT_rf) (q_nd_le (q_nd_le (q_LeT_rf) (q_lf_le (q_Le_ald h))) (q_LeT_rf))) (q_LeT_rf))) (q_nd_le (q_nd_le (q_LeT_rf) (q_nd_le (q_nd_le (q_nd_le (q_lf_le (q_Le_ald h)) (q_LeT_rf)) (q_LeT_rf)) (q_nd_le (q_LeT_rf) (q_nd_le (q_lf_le (q_Le_ald h)) (q_LeT_rf))))) (q_nd_le (q_nd_le (q_nd_le (q_LeT_rf) (q_nd_le (q_LeT_rf) (q_lf_le (q_Le_ald h)))) (q_LeT_rf)) (q_LeT_rf)))) (q_nd_le (q_nd_le (q_nd_le (q_nd_le (q_nd_le (q_LeT_rf) (q_nd_le (q_lf_le (q_Le_ald h)) (q_LeT_rf))) (q_LeT_rf)) (q_nd_le (q_nd_le (q_LeT_rf) (q_nd_le (q_lf_le (q_Le_ald h)) (q_LeT_rf))) (q_LeT_rf))) (q_nd_le (q_nd_le (q_nd_le (q_nd_le (q_lf_le (q_Le_ald h)) (q_LeT_rf)) (q_LeT_rf)) (q_LeT_rf)) (q_nd_le (q_nd_le (q_nd_le (q_lf_le (q_Le_ald h)) (q_LeT_rf)) (q_LeT_rf)) (q_LeT_rf)))) (q_nd_le (q_nd_le (q_nd_le (q_nd_le (q_nd_le (q_lf_le (q_Le_ald h)) (q_LeT_rf)) (q_LeT_rf)) (q_LeT_rf)) (q_LeT_rf)) (q_nd_le (q_nd_le (q_nd_le (q_LeT_rf) (q_nd_le (q_lf_le (q_Le_ald h)) (q_LeT_rf))) (q_LeT_rf)) (q_nd_le (q_nd_le (q_LeT_rf) (q_nd_le (q_LeT_rf) (q_lf_le (q_Le_ald h)))) (q_LeT_rf)))))
theorem q_le232 {TB TB9 : Nat → Option (Nat × Nat × (Nat → Int32))} (h : q_TBle TB TB9) : q_LeT (q_t232 TB) (q_t232 TB9) := q_nd_le (q_nd_le (q_nd_le (q_nd_le (q_LeT_rf) (q_nd_le (q_LeT_rf) (q_nd_le (q_LeT_rf) (q_nd_le (q_lf_le (q_Le_ald h)) (q_LeT_rf))))) (q_LeT_rf)) (q_nd_le (q_nd_le (q_nd_le (q_nd_le (q_lf_le (q_Le_ald h)) (q_LeT_rf)) (q_LeT_rf)) (q_LeT_rf)) (q_nd_le (q_nd_le (q_nd_le (q_LeT_rf) (q_lf_le (q_Le_ald h))) (q_LeT_rf)) (q_LeT_rf)))) (q_nd_le (q_nd_le (q_nd_le (q_LeT_rf) (q_nd_le (q_nd_le (q_lf_le (q_Le_ald h)) (q_LeT_rf)) (q_LeT_rf))) (q_nd_le (q_LeT_rf) (q_nd_le (q_LeT_rf) (q_nd_le (q_LeT_rf) (q_nd_le (q_LeT_rf) (q_lf_le (q_Le_ald h))))))) (q_nd_le (q_LeT_rf) (q_nd_le (q_nd_le (q_nd_le (q_LeT_rf) (q_lf_le (q_Le_ald h))) (q_LeT_rf)) (q_LeT_rf))))
theorem q_le233 {TB TB9 : Nat → Option (Nat × Nat × (Nat → Int32))} (h : q_TBle TB TB9) : q_LeT (q_t233 TB) (q_t233 TB9) := q_nd_le (q_LeT_rf) (q_nd_le (q_nd_le (q_LeT_rf) (q_nd_le (q_nd_le (q_lf_le (q_Le_ald h)) (q_LeT_rf)) (q_LeT_rf))) (q_LeT_rf))
theorem q_le234 {TB TB9 : Nat → Option (Nat × Nat × (Nat → Int32))} (h : q_TBle TB TB9) : q_LeT (q_t234 TB) (q_t234 TB9) := q_nd_le (q_nd_le (q_nd_le (q_LeT_rf) (q_nd_le (q_nd_le (q_LeT_rf) (q_nd_le (q_LeT_rf) (q_nd_le (q_lf_le (q_Le_ald h)) (q_LeT_rf)))) (q_nd_le (q_LeT_rf) (q_nd_le (q_LeT_rf) (q_nd_le (q_lf_le (q_Le_ald h)) (q_LeT_rf)))))) (q_LeT_rf)) (q_LeT_rf)
theorem q_le235 {TB TB9 : Nat → Option (Nat × Nat × (Nat → Int32))} (h : q_TBle TB TB9) : q_LeT (q_t235 TB) (q_t235 TB9) := q_LeT_rf
theorem q_le236 {TB TB9 : Nat → Option (Nat × Nat × (Nat → Int32))} (h : q_TBle TB TB9) : q_LeT (q_t236 TB) (q_t236 TB9) := q_nd_le (q_nd_le (q_nd_le (q_LeT_rf) (q_nd_le (q_nd_le (q_lf_le (q_Le_ald h)) (q_LeT_rf)) (q_LeT_rf))) (q_nd_le (q_LeT_rf) (q_nd_le (q_LeT_rf) (q_nd_le (q_lf_le (q_Le_ald h)) (q_LeT_rf))))) (q_nd_le (q_nd_le (q_LeT_rf) (q_nd_le (q_LeT_rf) (q_nd_le (q_LeT_rf) (q_nd_le (q_lf_le (q_Le_ald h)) (q_LeT_rf))))) (q_LeT_rf))
theorem q_le237 {TB TB9 : Nat → Option (Nat × Nat × (Nat → Int32))} (h : q_TBle TB TB9) : q_LeT (q_t237 TB) (q_t237 TB9) := q_LeT_rf
theorem q_le238 {TB TB9 : Nat → Option (Nat × Nat × (Nat → Int32))} (h : q_TBle TB TB9) : q_LeT (q_t238 TB) (q_t238 TB9) := q_LeT_rf
theorem q_le239 {TB TB9 : Nat → Option (Nat × Nat × (Nat → Int32))} (h : q_TBle TB TB9) : q_LeT (q_t239 TB) (q_t239 TB9) := q_nd_le (q_LeT_rf) (q_nd_le (q_nd_le (q_LeT_rf) (q_lf_le (q_Le_ald h))) (q_LeT_rf))
theorem q_le240 {TB TB9 : Nat → Option (Nat × Nat × (Nat → Int32))} (h : q_TBle TB TB9) : q_LeT (q_t240 TB) (q_t240 TB9) := q_nd_le (q_LeT_rf) (q_nd_le (q_nd_le (q_LeT_rf) (q_lf_le (q_Le_ald h))) (q_LeT_rf))
theorem q_le241 {TB TB9 : Nat → Option (Nat × Nat × (Nat → Int32))} (h : q_TBle TB TB9) : q_LeT (q_t241 TB) (q_t241 TB9) := q_nd_le (q_LeT_rf) (q_nd_le (q_LeT_rf) (q_nd_le (q_lf_le (q_Le_ald h)) (q_LeT_rf)))
theorem q_le242 {TB TB9 : Nat → Option (Nat × Nat × (Nat → Int32))} (h : q_TBle TB TB9) : q_LeT (q_t242 TB) (q_t242 TB9) := q_nd_le (q_nd_le (q_nd_le (q_LeT_rf) (q_nd_le (q_LeT_rf) (q_nd_le (q_LeT_rf) (q_lf_le (q_Le_ald h))))) (q_LeT_rf)) (q_nd_le (q_LeT_rf) (q_nd_le (q_nd_le (q_nd_le (q_lf_le (q_Le_ald h)) (q_LeT_rf)) (q_LeT_rf)) (q_nd_le (q_LeT_rf) (q_nd_le (q_LeT_rf) (q_nd_le (q_lf_le (q_Le_ald h)) (q_LeT_rf))))))
theorem q_le243 {TB TB9 : Nat → Option (Nat × Nat × (Nat → Int32))} (h : q_TBle TB TB9) : q_LeT (q_t243 TB) (q_t243 TB9) := q_LeT_rf
theorem q_le244 {TB TB9 : Nat → Option (Nat × Nat × (Nat → Int32))} (h : q_TBle TB TB9) : q_LeT (q_t244 TB) (q_t244 TB9) := q_LeT_rf
theorem q_le245 {TB TB9 : Nat → Option (Nat × Nat × (Nat → Int32))} (h : q_TBle TB TB9) : q_LeT (q_t245 TB) (q_t245 TB9) := q_LeT_rf
theorem q_le246 {TB TB9 : Nat → Option (Nat × Nat × (Nat → Int32))} (h : q_TBle TB TB9) : q_LeT (q_t246 TB) (q_t246 TB9) := q_LeT_rf
theorem q_le247 {TB TB9 : Nat → Option (Nat × Nat × (Nat → Int32))} (h : q_TBle TB TB9) : q_LeT (q_t247 TB) (q_t247 TB9) := q_LeT_rf
theorem q_le248 {TB TB9 : Nat → Option (Nat × Nat × (Nat → Int32))} (h : q_TBle TB TB9) : q_LeT (q_t248 TB) (q_t248 TB9) := q_LeT_rf
theorem q_le249 {TB TB9 : Nat → Option (Nat × Nat × (Nat → Int32))} (h : q_TBle TB TB9) : q_LeT (q_t249 TB) (q_t249 TB9) := q_nd_le (q_nd_le (q_nd_le (q_LeT_rf) (q_nd_le (q_LeT_rf) (q_nd_le (q_LeT_rf) (q_nd_le (q_LeT_rf) (q_nd_le (q_lf_le (q_Le_ald h)) (q_LeT_rf)))))) (q_nd_le (q_LeT_rf) (q_nd_le (q_LeT_rf) (q_nd_le (q_LeT_rf) (q_nd_le (q_LeT_rf) (q_nd_le (q_LeT_rf) (q_lf_le (q_Le_ald h)))))))) (q_nd_le (q_nd_le (q_LeT_rf) (q_nd_le (q_nd_le (q_LeT_rf) (q_nd_le (q_lf_le (q_Le_ald h)) (q_LeT_rf))) (q_LeT_rf))) (q_nd_le (q_nd_le (q_nd_le (q_LeT_rf) (q_nd_le (q_LeT_rf) (q_nd_le (q_lf_le (q_Le_ald h)) (q_LeT_rf)))) (q_LeT_rf)) (q_LeT_rf)))
theorem q_le250 {TB TB9 : Nat → Option (Nat × Nat × (Nat → Int32))} (h : q_TBle TB TB9) : q_LeT (q_t250 TB) (q_t250 TB9) := q_LeT_rf
theorem q_le251 {TB TB9 : Nat → Option (Nat × Nat × (Nat → Int32))} (h : q_TBle TB TB9) : q_LeT (q_t251 TB) (q_t251 TB9) := q_nd_le (q_nd_le (q_nd_le (q_LeT_rf) (q_nd_le (q_nd_le (q_lf_le (q_Le_ald h)) (q_LeT_rf)) (q_LeT_rf))) (q_nd_le (q_nd_le (q_nd_le (q_LeT_rf) (q_nd_le (q_LeT_rf) (q_lf_le (q_Le_ald h)))) (q_LeT_rf)) (q_nd_le (q_LeT_rf) (q_nd_le (q_nd_le (q_LeT_rf) (q_lf_le (q_Le_ald h))) (q_LeT_rf))))) (q_nd_le (q_nd_le (q_nd_le (q_nd_le (q_LeT_rf) (q_nd_le (q_LeT_rf) (q_lf_le (q_Le_ald h)))) (q_LeT_rf)) (q_LeT_rf)) (q_LeT_rf))
theorem q_le252 {TB TB9 : Nat → Option (Nat × Nat × (Nat → Int32))} (h : q_TBle TB TB9) : q_LeT (q_t252 TB) (q_t252 TB9) := q_LeT_rf
theorem q_le253 {TB TB9 : Nat → Option (Nat × Nat × (Nat → Int32))} (h : q_TBle TB TB9) : q_LeT (q_t253 TB) (q_t253 TB9) := q_LeT_rf
theorem q_le254 {TB TB9 : Nat → Option (Nat × Nat × (Nat → Int32))} (h : q_TBle TB TB9) : q_LeT (q_t254 TB) (q_t254 TB9) := q_nd_le (q_nd_le (q_LeT_rf) (q_nd_le (q_nd_le (q_LeT_rf) (q_nd_le (q_lf_le (q_Le_ald h)) (q_LeT_rf))) (q_LeT_rf))) (q_nd_le (q_nd_le (q_LeT_rf) (q_nd_le (q_LeT_rf) (q_nd_le (q_LeT_rf) (q_lf_le (q_Le_ald h))))) (q_LeT_rf))
theorem q_le255 {TB TB9 : Nat → Option (Nat × Nat × (Nat → Int32))} (h : q_TBle TB TB9) : q_LeT (q_t255 TB) (q_t255 TB9) := q_nd_le (q_nd_le (q_LeT_rf) (q_nd_le (q_nd_le (q_LeT_rf) (q_nd_le (q_lf_le (q_Le_ald h)) (q_LeT_rf))) (q_LeT_rf))) (q_nd_le (q_LeT_rf) (q_nd_le (q_nd_le (q_LeT_rf) (q_nd_le (q_LeT_rf) (q_lf_le (q_Le_ald h)))) (q_nd_le (q_LeT_rf) (q_nd_le (q_lf_le (q_Le_ald h)) (q_LeT_rf)))))
theorem q_le256 {TB TB9 : Nat → Option (Nat × Nat × (Nat → Int32))} (h : q_TBle TB TB9) : q_LeT (q_t256 TB) (q_t256 TB9) := q_nd_le (q_nd_le (q_LeT_rf) (q_nd_le (q_LeT_rf) (q_lf_le (q_Le_ald h)))) (q_LeT_rf)
theorem q_le257 {TB TB9 : Nat → Option (Nat × Nat × (Nat → Int32))} (h : q_TBle TB TB9) : q_LeT (q_t257 TB) (q_t257 TB9) := q_LeT_rf
theorem q_le258 {TB TB9 : Nat → Option (Nat × Nat × (Nat → Int32))} (h : q_TBle TB TB9) : q_LeT (q_t258 TB) (q_t258 TB9) := q_LeT_rf
theorem q_le259 {TB TB9 : Nat → Option (Nat × Nat × (Nat → Int32))} (h : q_TBle TB TB9) : q_LeT (q_t259 TB) (q_t259 TB9) := q_LeT_rf
theorem q_le260 {TB TB9 : Nat → Option (Nat × Nat × (Nat → Int32))} (h : q_TBle TB TB9) : q_LeT (q_t260 TB) (q_t260 TB9) := q_LeT_rf
theorem q_le261 {TB TB9 : Nat → Option (Nat × Nat × (Nat → Int32))} (h : q_TBle TB TB9) : q_LeT (q_t261 TB) (q_t261 TB9) := q_LeT_rf
theorem q_le262 {TB TB9 : Nat → Option (Nat × Nat × (Nat → Int32))} (h : q_TBle TB TB9) : q_LeT (q_t262 TB) (q_t262 TB9) := q_nd_le (q_nd_le (q_LeT_rf) (q_nd_le (q_nd_le (q_lf_le (q_Le_ald h)) (q_LeT_rf)) (q_LeT_rf))) (q_nd_le (q_nd_le (q_LeT_rf) (q_nd_le (q_LeT_rf) (q_nd_le (q_LeT_rf) (q_lf_le (q_Le_ald h))))) (q_LeT_rf))
theorem q_le263 {TB TB9 : Nat → Option (Nat × Nat × (Nat → Int32))} (h : q_TBle TB TB9) : q_LeT (q_t263 TB) (q_t263 TB9) := q_nd_le (q_nd_le (q_nd_le (q_nd_le (q_LeT_rf) (q_nd_le (q_lf_le (q_Le_ald h)) (q_LeT_rf))) (q_LeT_rf)) (q_nd_le (q_LeT_rf) (q_nd_le (q_nd_le (q_lf_le (q_Le_ald h)) (q_LeT_rf)) (q_LeT_rf)))) (q_LeT_rf)
theorem q_le264 {TB TB9 : Nat → Option (Nat × Nat × (Nat → Int32))} (h : q_TBle TB TB9) : q_LeT (q_t264 TB) (q_t264 TB9) := q_LeT_rf
theorem q_le265 {TB TB9 : Nat → Option (Nat × Nat × (Nat → Int32))} (h : q_TBle TB TB9) : q_LeT (q_t265 TB) (q_t265 TB9) := q_LeT_rf
theorem q_le266 {TB TB9 : Nat → Option (Nat × Nat × (Nat → Int32))} (h : q_TBle TB TB9) : q_LeT (q_t266 TB) (q_t266 TB9) := q_nd_le (q_nd_le (q_nd_le (q_nd_le (q_LeT_rf) (q_nd_le (q_lf_le (q_Le_ald h)) (q_LeT_rf))) (q_LeT_rf)) (q_nd_le (q_LeT_rf) (q_nd_le (q_LeT_rf) (q_nd_le (q_nd_le (q_LeT_rf) (q_lf_le (q_Le_ald h))) (q_LeT_rf))))) (q_nd_le (q_nd_le (q_LeT_rf) (q_nd_le (q_LeT_rf) (q_nd_le (q_LeT_rf) (q_nd_le (q_lf_le (q_Le_ald h)) (q_LeT_rf))))) (q_nd_le (q_LeT_rf) (q_nd_le (q_LeT_rf) (q_nd_le (q_nd_le (q_lf_le (q_Le_ald h)) (q_LeT_rf)) (q_LeT_rf)))))
theorem q_le267 {TB TB9 : Nat → Option (Nat × Nat × (Nat → Int32))} (h : q_TBle TB TB9) : q_LeT (q_t267 TB) (q_t267 TB9) := q_LeT_rf
theorem q_le268 {TB TB9 : Nat → Option (Nat × Nat × (Nat → Int32))} (h : q_TBle TB TB9) : q_LeT (q_t268 TB) (q_t268 TB9) := q_nd_le (q_nd_le (q_LeT_rf) (q_nd_le (q_nd_le (q_nd_le (q_LeT_rf) (q_nd_le (q_LeT_rf) (q_nd_le (q_lf_le (q_Le_ald h)) (q_LeT_rf)))) (q_LeT_rf)) (q_nd_le (q_nd_le (q_nd_le (q_LeT_rf) (q_nd_le (q_lf_le (q_Le_ald h)) (q_LeT_rf))) (q_LeT_rf)) (q_nd_le (q_LeT_rf) (q_nd_le (q_nd_le (q_LeT_rf) (q_lf_le (q_Le_ald h))) (q_LeT_rf)))))) (q_nd_le (q_LeT_rf) (q_nd_le (q_nd_le (q_nd_le (q_LeT_rf) (q_nd_le (q_LeT_rf) (q_nd_le (q_lf_le (q_Le_ald h)) (q_LeT_rf)))) (q_LeT_rf)) (q_LeT_rf)))
theorem q_le269 {TB TB9 : Nat → Option (Nat × Nat × (Nat → Int32))} (h : q_TBle TB TB9) : q_LeT (q_t269 TB) (q_t269 TB9) := q_nd_le (q_nd_le (q_LeT_rf) (q_nd_le (q_LeT_rf) (q_nd_le (q_nd_le (q_LeT_rf) (q_nd_le (q_lf_le (q_Le_ald h)) (q_LeT_rf))) (q_nd_le (q_LeT_rf) (q_nd_le (q_LeT_rf) (q_nd_le (q_LeT_rf) (q_lf_le (q_Le_ald h)))))))) (q_nd_le (q_nd_le (q_nd_le (q_LeT_rf) (q_nd_le (q_nd_le (q_LeT_rf) (q_nd_le (q_lf_le (q_Le_ald h)) (q_LeT_rf))) (q_LeT_rf))) (q_nd_le (q_nd_le (q_LeT_rf) (q_nd_le (q_lf_le (q_Le_ald h)) (q_LeT_rf))) (q_nd_le (q_nd_le (q_LeT_rf) (q_nd_le (q_lf_le (q_Le_ald h)) (q_LeT_rf))) (q_LeT_rf)))) (q_LeT_rf))
theorem q_le270 {TB TB9 : Nat → Option (Nat × Nat × (Nat → Int32))} (h : q_TBle TB TB9) : q_LeT (q_t270 TB) (q_t270 TB9) := q_LeT_rf
theorem q_le271 {TB TB9 : Nat → Option (Nat × Nat × (Nat → Int32))} (h : q_TBle TB TB9) : q_LeT (q_t271 TB) (q_t271 TB9) := q_nd_le (q_nd_le (q_nd_le (q_nd_le (q_LeT_rf) (q_nd_le (q_nd_le (q_lf_le (q_Le_ald h)) (q_LeT_rf)) (q_LeT_rf))) (q_LeT_rf)) (q_LeT_rf)) (q_LeT_rf)
theorem q_le272 {TB TB9 : Nat → Option (Nat × Nat × (Nat → Int32))} (h : q_TBle TB TB9) : q_LeT (q_t272 TB) (q_t272 TB9) := q_nd_le (q_nd_le (q_nd_le (q_nd_le (q_nd_le (q_LeT_rf) (q_nd_le (q_nd_le (q_LeT_rf) (q_nd_le (q_LeT_rf) (q_lf_le (q_Le_ald h)))) (q_LeT_rf))) (q_nd_le (q_LeT_rf) (q_nd_le (q_nd_le (q_LeT_rf) (q_nd_le (q_LeT_rf) (q_lf_le (q_Le_ald h)))) (q_LeT_rf)))) (q_nd_le (q_nd_le (q_LeT_rf) (q_nd_le (q_LeT_rf) (q_nd_le (q_lf_le (q_Le_ald h)) (q_LeT_rf)))) (q_nd_le (q_LeT_rf) (q_nd_le (q_LeT_rf) (q_nd_le (q_lf_le (q_Le_ald h)) (q_LeT_rf)))))) (q_nd_le (q_nd_le (q_nd_le (q_LeT_rf) (q_nd_le (q_LeT_rf) (q_nd_le (q_LeT_rf) (q_nd_le (q_lf_le (q_Le_ald h)) (q_LeT_rf))))) (q_nd_le (q_LeT_rf) (q_nd_le (q_nd_le (q_lf_le (q_Le_ald h)) (q_LeT_rf)) (q_LeT_rf)))) (q_nd_le (q_nd_le (q_nd_le (q_LeT_rf) (q_nd_le (q_lf_le (q_Le_ald h)) (q_LeT_rf))) (q_nd_le (q_LeT_rf) (q_nd_le (q_LeT_rf) (q_nd_le (q_LeT_rf) (q_lf_le (q_Le_ald h)))))) (q_nd_le (q_LeT_rf) (q_nd_le (q_nd_le (q_LeT_rf) (q_nd_le (q_lf_le (q_Le_ald h)) (q_LeT_rf))) (q_LeT_rf)))))) (q_nd_le (q_nd_le (q_nd_le (q_nd_le (q_nd_le (q_LeT_rf) (q_nd_le (q_LeT_rf) (q_nd_le (q_LeT_rf) (q_lf_le (q_Le_ald h))))) (q_LeT_rf)) (q_nd_le (q_nd_le (q_nd_le (q_lf_le (q_Le_ald h)) (q_LeT_rf)) (q_LeT_rf)) (q_LeT_rf))) (q_LeT_rf)) (q_LeT_rf))
theorem q_le273 {TB TB9 : Nat → Option (Nat × Nat × (Nat → Int32))} (h : q_TBle TB TB9) : q_LeT (q_t273 TB) (q_t273 TB9) := q_LeT_rf
theorem q_le274 {TB TB9 : Nat → Option (Nat × Nat × (Nat → Int32))} (h : q_TBle TB TB9) : q_LeT (q_t274 TB) (q_t274 TB9) := q_LeT_rf
theorem q_le275 {TB TB9 : Nat → Option (Nat × Nat × (Nat → Int32))} (h : q_TBle TB TB9) : q_LeT (q_t275 TB) (q_t275 TB9) := q_nd_le (q_LeT_rf) (q_nd_le (q_LeT_rf) (q_nd_le (q_LeT_rf) (q_nd_le (q_nd_le (q_nd_le (q_LeT_rf) (q_nd_le (q_lf_le (q_Le_ald h)) (q_LeT_rf))) (q_LeT_rf)) (q_nd_le (q_nd_le (q_LeT_rf) (q_nd_le (q_LeT_rf) (q_lf_le (q_Le_ald h)))) (q_LeT_rf)))))
theorem q_le276 {TB TB9 : Nat → Option (Nat × Nat × (Nat → Int32))} (h : q_TBle TB TB9) : q_LeT (q_t276 TB) (q_t276 TB9) := q_nd_le (q_nd_le (q_nd_le (q_nd_le (q_LeT_rf) (q_nd_le (q_LeT_rf) (q_nd_le (q_LeT_rf) (q_lf_le (q_Le_ald h))))) (q_nd_le (q_LeT_rf) (q_nd_le (q_LeT_rf) (q_nd_le (q_LeT_rf) (q_lf_le (q_Le_ald h)))))) (q_nd_le (q_nd_le (q_LeT_rf) (q_nd_le (q_nd_le (q_lf_le (q_Le_ald h)) (q_LeT_rf)) (q_LeT_rf))) (q_nd_le (q_nd_le (q_LeT_rf) (q_nd_le (q_LeT_rf) (q_lf_le (q_Le_ald h)))) (q_LeT_rf)))) (q_nd_le (q_nd_le (q_nd_le (q_LeT_rf) (q_nd_le (q_nd_le (q_LeT_rf) (q_lf_le (q_Le_ald h))) (q_LeT_rf))) (q_LeT_rf)) (q_nd_le (q_nd_le (q_LeT_rf) (q_nd_le (q_nd_le (q_lf_le (q_Le_ald h)) (q_LeT_rf)) (q_LeT_rf))) (q_nd_le (q_LeT_rf) (q_nd_le (q_nd_le (q_lf_le (q_Le_ald h)) (q_LeT_rf)) (q_LeT_rf)))))
theorem q_le277 {TB TB9 : Nat → Option (Nat × Nat × (Nat → Int32))} (h : q_TBle TB TB9) : q_LeT (q_t277 TB) (q_t277 TB9) := q_nd_le (q_nd_le (q_nd_le (q_nd_le (q_LeT_rf) (q_nd_le (q_nd_le (q_lf_le (q_Le_ald h)) (q_LeT_rf)) (q_LeT_rf))) (q_nd_le (q_nd_le (q_LeT_rf) (q_nd_le (q_LeT_rf) (q_lf_le (q_Le_ald h)))) (q_LeT_rf))) (q_nd_le (q_nd_le (q_LeT_rf) (q_nd_le (q_nd_le (q_lf_le (q_Le_ald h)) (q_LeT_rf)) (q_LeT_rf))) (q_nd_le (q_nd_le (q_LeT_rf) (q_nd_le (q_LeT_rf) (q_lf_le (q_Le_ald h)))) (q_LeT_rf)))) (q_nd_le (q_nd_le (q_nd_le (q_nd_le (q_LeT_rf) (q_nd_le (q_LeT_rf) (q_lf_le (q_Le_ald h)))) (q_LeT_rf)) (q_nd_le (q_nd_le (q_LeT_rf) (q_nd_le (q_lf_le (q_Le_ald h)) (q_LeT_rf))) (q_LeT_rf))) (q_nd_le (q_nd_le (q_nd_le (q_lf_le (q_Le_ald h)) (q_LeT_rf)) (q_nd_le (q_nd_le (q_LeT_rf) (q_lf_le (q_Le_ald h))) (q_LeT_rf))) (q_nd_le (q_LeT_rf) (q_nd_le (q_nd_le (q_LeT_rf) (q_lf_le (q_Le_ald h))) (q_LeT_rf)))))
theorem q_le278 {TB TB9 : Nat → Option (Nat × Nat × (Nat → Int32))} (h : q_TBle TB TB9) : q_LeT (q_t278 TB) (q_t278 TB9) := q_LeT_rf
theorem q_le279 {TB TB9 : Nat → Option (Nat × Nat × (Nat → Int32))} (h : q_TBle TB TB9) : q_LeT (q_t279 TB) (q_t279 TB9) := q_LeT_rf
theorem q_le280 {TB TB9 : Nat → Option (Nat × Nat × (Nat → Int32))} (h : q_TBle TB TB9) : q_LeT (q_t280 TB) (q_t280 TB9) := q_LeT_rf
theorem q_le281 {TB TB9 : Nat → Option (Nat × Nat × (Nat → Int32))} (h : q_TBle TB TB9) : q_LeT (q_t281 TB) (q_t281 TB9) := q_nd_le (q_LeT_rf) (q_nd_le (q_nd_le (q_nd_le (q_nd_le (q_LeT_rf) (q_lf_le (q_Le_ald h))) (q_LeT_rf)) (q_LeT_rf)) (q_nd_le (q_nd_le (q_LeT_rf) (q_nd_le (q_LeT_rf) (q_lf_le (q_Le_ald h)))) (q_LeT_rf)))
theorem q_le282 {TB TB9 : Nat → Option (Nat × Nat × (Nat → Int32))} (h : q_TBle TB TB9) : q_LeT (q_t282 TB) (q_t282 TB9) := q_LeT_rf
theorem q_le283 {TB TB9 : Nat → Option (Nat × Nat × (Nat → Int32))} (h : q_TBle TB TB9) : q_LeT (q_t283 TB) (q_t283 TB9) := q_LeT_rf
theorem q_le284 {TB TB9 : Nat → Option (Nat × Nat × (Nat → Int32))} (h : q_TBle TB TB9) : q_LeT (q_t284 TB) (q_t284 TB9) := q_LeT_rf
theorem q_le285 {TB TB9 : Nat → Option (Nat × Nat × (Nat → Int32))} (h : q_TBle TB TB9) : q_LeT (q_t285 TB) (q_t285 TB9) := q_LeT_rf
theorem q_le286 {TB TB9 : Nat → Option (Nat × Nat × (Nat → Int32))} (h : q_TBle TB TB9) : q_LeT (q_t286 TB) (q_t286 TB9) := q_nd_le (q_LeT_rf) (q_nd_le (q_LeT_rf) (q_nd_le (q_LeT_rf) (q_nd_le (q_LeT_rf) (q_nd_le (q_lf_le (q_Le_ald h)) (q_LeT_rf)))))
theorem q_le287 {TB TB9 : Nat → Option (Nat × Nat × (Nat → Int32))} (h : q_TBle TB TB9) : q_LeT (q_t287 TB) (q_t287 TB9) := q_nd_le (q_LeT_rf) (q_nd_le (q_LeT_rf) (q_nd_le (q_LeT_rf) (q_nd_le (q_LeT_rf) (q_nd_le (q_lf_le (q_Le_ald h)) (q_LeT_rf)))))
theorem q_le288 {TB TB9 : Nat → Option (Nat × Nat × (Nat → Int32))} (h : q_TBle TB TB9) : q_LeT (q_t288 TB) (q_t288 TB9) := q_nd_le (q_LeT_rf) (q_nd_le (q_nd_le (q_nd_le (q_nd_le (q_lf_le (q_Le_ald h)) (q_LeT_rf)) (q_LeT_rf)) (q_LeT_rf)) (q_nd_le (q_nd_le (q_nd_le (q_LeT_rf) (q_nd_le (q_lf_le (q_Le_ald h)) (q_LeT_rf))) (q_LeT_rf)) (q_LeT_rf)))
theorem q_le289 {TB TB9 : Nat → Option (Nat × Nat × (Nat → Int32))} (h : q_TBle TB TB9) : q_LeT (q_t289 TB) (q_t289 TB9) := q_LeT_rf
theorem q_le290 {TB TB9 : Nat → Option (Nat × Nat × (Nat → Int32))} (h : q_TBle TB TB9) : q_LeT (q_t290 TB) (q_t290 TB9) := q_nd_le (q_LeT_rf) (q_nd_le (q_LeT_rf) (q_nd_le (q_LeT_rf) (q_nd_le (q_LeT_rf) (q_nd_le (q_LeT_rf) (q_nd_le (q_LeT_rf) (q_nd_le (q_lf_le (q_Le_ald h)) (q_LeT_rf)))))))
theorem q_le291 {TB TB9 : Nat → Option (Nat × Nat × (Nat → Int32))} (h : q_TBle TB TB9) : q_LeT (q_t291 TB) (q_t291 TB9) := q_nd_le (q_nd_le (q_LeT_rf) (q_nd_le (q_nd_le (q_lf_le (q_Le_ald h)) (q_LeT_rf)) (q_LeT_rf))) (q_nd_le (q_nd_le (q_LeT_rf) (q_nd_le (q_LeT_rf) (q_nd_le (q_LeT_rf) (q_lf_le (q_Le_ald h))))) (q_LeT_rf))
theorem q_le292 {TB TB9 : Nat → Option (Nat × Nat × (Nat → Int32))} (h : q_TBle TB TB9) : q_LeT (q_t292 TB) (q_t292 TB9) := q_nd_le (q_LeT_rf) (q_nd_le (q_LeT_rf) (q_nd_le (q_LeT_rf) (q_nd_le (q_LeT_rf) (q_nd_le (q_lf_le (q_Le_ald h)) (q_LeT_rf)))))
theorem q_le293 {TB TB9 : Nat → Option (Nat × Nat × (Nat → Int32))} (h : q_TBle TB TB9) : q_LeT (q_t293 TB) (q_t293 TB9) := q_LeT_rf
theorem q_le294 {TB TB9 : Nat → Option (Nat × Nat × (Nat → Int32))} (h : q_TBle TB TB9) : q_LeT (q_t294 TB) (q_t294 TB9) := q_LeT_rf
theorem q_le295 {TB TB9 : Nat → Option (Nat × Nat × (Nat → Int32))} (h : q_TBle TB TB9) : q_LeT (q_t295 TB) (q_t295 TB9) := q_nd_le (q_LeT_rf) (q_nd_le (q_LeT_rf) (q_nd_le (q_LeT_rf) (q_nd_le (q_LeT_rf) (q_nd_le (q_lf_le (q_Le_ald h)) (q_LeT_rf)))))
theorem q_le296 {TB TB9 : Nat → Option (Nat × Nat × (Nat → Int32))} (h : q_TBle TB TB9) : q_LeT (q_t296 TB) (q_t296 TB9) := q_nd_le (q_LeT_rf) (q_nd_le (q_LeT_rf) (q_nd_le (q_LeT_rf) (q_nd_le (q_LeT_rf) (q_nd_le (q_lf_le (q_Le_ald h)) (q_LeT_rf)))))
theorem q_le297 {TB TB9 : Nat → Option (Nat × Nat × (Nat → Int32))} (h : q_TBle TB TB9) : q_LeT (q_t297 TB) (q_t297 TB9) := q_nd_le (q_LeT_rf) (q_nd_le (q_nd_le (q_LeT_rf) (q_nd_le (q_nd_le (q_lf_le (q_Le_ald h)) (q_LeT_rf)) (q_LeT_rf))) (q_LeT_rf))
theorem q_le298 {TB TB9 : Nat → Option (Nat × Nat × (Nat → Int32))} (h : q_TBle TB TB9) : q_LeT (q_t298 TB) (q_t298 TB9) := q_LeT_rf
theorem q_le299 {TB TB9 : Nat → Option (Nat × Nat × (Nat → Int32))} (h : q_TBle TB TB9) : q_LeT (q_t299 TB) (q_t299 TB9) := q_nd_le (q_LeT_rf) (q_nd_le (q_nd_le (q_LeT_rf) (q_nd_le (q_nd_le (q_lf_le (q_Le_ald h)) (q_LeT_rf)) (q_LeT_rf))) (q_LeT_rf))
theorem q_le300 {TB TB9 : Nat → Option (Nat × Nat × (Nat → Int32))} (h : q_TBle TB TB9) : q_LeT (q_t300 TB) (q_t300 TB9) := q_nd_le (q_nd_le (q_nd_le (q_LeT_rf) (q_nd_le (q_LeT_rf) (q_nd_le (q_LeT_rf) (q_nd_le (q_lf_le (q_Le_ald h)) (q_LeT_rf))))) (q_LeT_rf)) (q_nd_le (q_nd_le (q_LeT_rf) (q_nd_le (q_nd_le (q_LeT_rf) (q_nd_le (q_LeT_rf) (q_lf_le (q_Le_ald h)))) (q_LeT_rf))) (q_nd_le (q_nd_le (q_nd_le (q_LeT_rf) (q_nd_le (q_LeT_rf) (q_lf_le (q_Le_ald h)))) (q_LeT_rf)) (q_nd_le (q_LeT_rf) (q_nd_le (q_LeT_rf) (q_nd_le (q_lf_le (q_Le_ald h)) (q_LeT_rf))))))
theorem q_le301 {TB TB9 : Nat → Option (Nat × Nat × (Nat → Int32))} (h : q_TBle TB TB9) : q_LeT (q_t301 TB) (q_t301 TB9) := q_nd_le (q_nd_le (q_nd_le (q_LeT_rf) (q_nd_le (q_LeT_rf) (q_nd_le (q_LeT_rf) (q_lf_le (q_Le_ald h))))) (q_LeT_rf)) (q_nd_le (q_LeT_rf) (q_nd_le (q_nd_le (q_nd_le (q_lf_le (q_Le_ald h)) (q_LeT_rf)) (q_LeT_rf)) (q_LeT_rf)))
theorem q_le302 {TB TB9 : Nat → Option (Nat × Nat × (Nat → Int32))} (h : q_TBle TB TB9) : q_LeT (q_t302 TB) (q_t302 TB9) := q_nd_le (q_nd_le (q_LeT_rf) (q_nd_le (q_LeT_rf) (q_nd_le (q_lf_le (q_Le_ald h)) (q_LeT_rf)))) (q_nd_le (q_nd_le (q_LeT_rf) (q_nd_le (q_LeT_rf) (q_lf_le (q_Le_ald h)))) (q_LeT_rf))
theorem q_le303 {TB TB9 : Nat → Option (Nat × Nat × (Nat → Int32))} (h : q_TBle TB TB9) : q_LeT (q_t303 TB) (q_t303 TB9) := q_nd_le (q_LeT_rf) (q_nd_le (q_LeT_rf) (q_nd_le (q_nd_le (q_lf_le (q_Le_ald h)) (q_LeT_rf)) (q_LeT_rf)))
theorem q_le304 {TB TB9 : Nat → Option (Nat × Nat × (Nat → Int32))} (h : q_TBle TB TB9) : q_LeT (q_t304 TB) (q_t304 TB9) := q_nd_le (q_LeT_rf) (q_nd_le (q_LeT_rf) (q_nd_le (q_nd_le (q_lf_le (q_Le_ald h)) (q_LeT_rf)) (q_LeT_rf)))
theorem q_le305 {TB TB9 : Nat → Option (Nat × Nat × (Nat → Int32))} (h : q_TBle TB TB9) : q_LeT (q_t305 TB) (q_t305 TB9) := q_LeT_rf
theorem q_le306 {TB TB9 : Nat → Option (Nat × Nat × (Nat → Int32))} (h : q_TBle TB TB9) : q_LeT (q_t306 TB) (q_t306 TB9) := q_nd_le (q_nd_le (q_LeT_rf) (q_nd_le (q_LeT_rf) (q_nd_le (q_nd_le (q_lf_le (q_Le_ald h)) (q_LeT_rf)) (q_LeT_rf)))) (q_nd_le (q_nd_le (q_LeT_rf) (q_nd_le (q_nd_le (q_LeT_rf) (q_lf_le (q_Le_ald h))) (q_LeT_rf))) (q_LeT_rf))
theorem q_le307 {TB TB9 : Nat → Option (Nat × Nat × (Nat → Int32))} (h : q_TBle TB TB9) : q_LeT (q_t307 TB) (q_t307 TB9) := q_LeT_rf
theorem q_le308 {TB TB9 : Nat → Option (Nat × Nat × (Nat → Int32))} (h : q_TBle TB TB9) : q_LeT (q_t308 TB) (q_t308 TB9) := q_LeT_rf
theorem q_le309 {TB TB9 : Nat → Option (Nat × Nat × (Nat → Int32))} (h : q_TBle TB TB9) : q_LeT (q_t309 TB) (q_t309 TB9) := q_LeT_rf
theorem q_le310 {TB TB9 : Nat → Option (Nat × Nat × (Nat → Int32))} (h : q_TBle TB TB9) : q_LeT (q_t310 TB) (q_t310 TB9) := q_LeT_rf
theorem q_le311 {TB TB9 : Nat → Option (Nat × Nat × (Nat → Int32))} (h : q_TBle TB TB9) : q_LeT (q_t311 TB) (q_t311 TB9) := q_LeT_rf
theorem q_le312 {TB TB9 : Nat → Option (Nat × Nat × (Nat → Int32))} (h : q_TBle TB TB9) : q_LeT (q_t312 TB) (q_t312 TB9) := q_nd_le (q_LeT_rf) (q_nd_le (q_nd_le (q_LeT_rf) (q_nd_le (q_LeT_rf) (q_nd_le (q_LeT_rf) (q_lf_le (q_Le_ald h))))) (q_LeT_rf))
theorem q_le313 {TB TB9 : Nat → Option (Nat × Nat × (Nat → Int32))} (h : q_TBle TB TB9) : q_LeT (q_t313 TB) (q_t313 TB9) := q_LeT_rf
theorem q_le314 {TB TB9 : Nat → Option (Nat × Nat × (Nat → Int32))} (h : q_TBle TB TB9) : q_LeT (q_t314 TB) (q_t314 TB9) := q_nd_le (q_nd_le (q_LeT_rf) (q_nd_le (q_LeT_rf) (q_nd_le (q_LeT_rf) (q_nd_le (q_lf_le (q_Le_ald h)) (q_LeT_rf))))) (q_nd_le (q_nd_le (q_nd_le (q_LeT_rf) (q_nd_le (q_lf_le (q_Le_ald h)) (q_LeT_rf))) (q_LeT_rf)) (q_LeT_rf))
theorem q_le315 {TB TB9 : Nat → Option (Nat × Nat × (Nat → Int32))} (h : q_TBle TB TB9) : q_LeT (q_t315 TB) (q_t315 TB9) := q_nd_le (q_LeT_rf) (q_nd_le (q_nd_le (q_nd_le (q_LeT_rf) (q_nd_le (q_LeT_rf) (q_lf_le (q_Le_ald h)))) (q_LeT_rf)) (q_LeT_rf))
theorem q_le316 {TB TB9 : Nat → Option (Nat × Nat × (Nat → Int32))} (h : q_TBle TB TB9) : q_LeT (q_t316 TB) (q_t316 TB9) := q_LeT_rf
theorem q_le317 {TB TB9 : Nat → Option (Nat × Nat × (Nat → Int32))} (h : q_TBle TB TB9) : q_LeT (q_t317 TB) (q_t317 TB9) := q_nd_le (q_nd_le (q_LeT_rf) (q_nd_le (q_nd_le (q_lf_le (q_Le_aln h)) (q_LeT_rf)) (q_LeT_rf))) (q_LeT_rf)
theorem q_le318 {TB TB9 : Nat → Option (Nat × Nat × (Nat → Int32))} (h : q_TBle TB TB9) : q_LeT (q_t318 TB) (q_t318 TB9) := q_nd_le (q_nd_le (q_nd_le (q_nd_le (q_LeT_rf) (q_lf_le (q_Le_aln h))) (q_LeT_rf)) (q_LeT_rf)) (q_LeT_rf)
theorem q_le319 {TB TB9 : Nat → Option (Nat × Nat × (Nat → Int32))} (h : q_TBle TB TB9) : q_LeT (q_t319 TB) (q_t319 TB9) := q_nd_le (q_nd_le (q_nd_le (q_LeT_rf) (q_nd_le (q_lf_le (q_Le_aln h)) (q_LeT_rf))) (q_LeT_rf)) (q_nd_le (q_nd_le (q_LeT_rf) (q_nd_le (q_LeT_rf) (q_nd_le (q_LeT_rf) (q_lf_le (q_Le_aln h))))) (q_LeT_rf))
theorem q_le320 {TB TB9 : Nat → Option (Nat × Nat × (Nat → Int32))} (h : q_TBle TB TB9) : q_LeT (q_t320 TB) (q_t320 TB9) := q_nd_le (q_nd_le (q_LeT_rf) (q_nd_le (q_LeT_rf) (q_nd_le (q_LeT_rf) (q_nd_le (q_LeT_rf) (q_nd_le (q_LeT_rf) (q_nd_le (q_lf_le (q_Le_ald h)) (q_LeT_rf))))))) (q_nd_le (q_nd_le (q_nd_le (q_LeT_rf) (q_nd_le (q_nd_le (q_LeT_rf) (q_lf_le (q_Le_ald h))) (q_LeT_rf))) (q_nd_le (q_LeT_rf) (q_nd_le (q_nd_le (q_LeT_rf) (q_lf_le (q_Le_ald h))) (q_LeT_rf)))) (q_nd_le (q_nd_le (q_LeT_rf) (q_nd_le (q_LeT_rf) (q_nd_le (q_LeT_rf) (q_nd_le (q_lf_le (q_Le_ald h)) (q_LeT_rf))))) (q_LeT_rf)))
theorem q_le321 {TB TB9 : Nat → Option (Nat × Nat × (Nat → Int32))} (h : q_TBle TB TB9) : q_LeT (q_t321 TB) (q_t321 TB9) := q_LeT_rf
theorem q_le322 {TB TB9 : Nat → Option (Nat × Nat × (Nat → Int32))} (h : q_TBle TB TB9) : q_LeT (q_t322 TB) (q_t322 TB9) := q_LeT_rf
theorem q_le323 {TB TB9 : Nat → Option (Nat × Nat × (Nat → Int32))} (h : q_TBle TB TB9) : q_LeT (q_t323 TB) (q_t323 TB9) := q_LeT_rf
theorem q_le324 {TB TB9 : Nat → Option (Nat × Nat × (Nat → Int32))} (h : q_TBle TB TB9) : q_LeT (q_t324 TB) (q_t324 TB9) := q_LeT_rf
theorem q_le325 {TB TB9 : Nat → Option (Nat × Nat × (Nat → Int32))} (h : q_TBle TB TB9) : q_LeT (q_t325 TB) (q_t325 TB9) := q_LeT_rf
theorem q_le326 {TB TB9 : Nat → Option (Nat × Nat × (Nat → Int32))} (h : q_TBle TB TB9) : q_LeT (q_t326 TB) (q_t326 TB9) := q_LeT_rf
theorem q_le327 {TB TB9 : Nat → Option (Nat × Nat × (Nat → Int32))} (h : q_TBle TB TB9) : q_LeT (q_t327 TB) (q_t327 TB9) := q_LeT_rf
theorem q_le328 {TB TB9 : Nat → Option (Nat × Nat × (Nat → Int32))} (h : q_TBle TB TB9) : q_LeT (q_t328 TB) (q_t328 TB9) := q_LeT_rf
theorem q_le329 {TB TB9 : Nat → Option (Nat × Nat × (Nat → Int32))} (h : q_TBle TB TB9) : q_LeT (q_t329 TB) (q_t329 TB9) := q_LeT_rf
theorem q_le330 {TB TB9 : Nat → Option (Nat × Nat × (Nat → Int32))} (h : q_TBle TB TB9) : q_LeT (q_t330 TB) (q_t330 TB9) := q_LeT_rf
theorem q_le331 {TB TB9 : Nat → Option (Nat × Nat × (Nat → Int32))} (h : q_TBle TB TB9) : q_LeT (q_t331 TB) (q_t331 TB9) := q_LeT_rf
theorem q_le332 {TB TB9 : Nat → Option (Nat × Nat × (Nat → Int32))} (h : q_TBle TB TB9) : q_LeT (q_t332 TB) (q_t332 TB9) := q_nd_le (q_nd_le (q_nd_le (q_LeT_rf) (q_nd_le (q_lf_le (q_Le_aln h)) (q_LeT_rf))) (q_LeT_rf)) (q_LeT_rf)
theorem q_le333 {TB TB9 : Nat → Option (Nat × Nat × (Nat → Int32))} (h : q_TBle TB TB9) : q_LeT (q_t333 TB) (q_t333 TB9) := q_nd_le (q_nd_le (q_nd_le (q_nd_le (q_LeT_rf) (q_nd_le (q_lf_le (q_Le_aln h)) (q_LeT_rf))) (q_LeT_rf)) (q_LeT_rf)) (q_LeT_rf)
theorem q_le334 {TB TB9 : Nat → Option (Nat × Nat × (Nat → Int32))} (h : q_TBle TB TB9) : q_LeT (q_t334 TB) (q_t334 TB9) := q_nd_le (q_nd_le (q_LeT_rf) (q_nd_le (q_nd_le (q_lf_le (q_Le_aln h)) (q_LeT_rf)) (q_LeT_rf))) (q_LeT_rf)
theorem q_le335 {TB TB9 : Nat → Option (Nat × Nat × (Nat → Int32))} (h : q_TBle TB TB9) : q_LeT (q_t335 TB) (q_t335 TB9) := q_LeT_rf
theorem q_le336 {TB TB9 : Nat → Option (Nat × Nat × (Nat → Int32))} (h : q_TBle TB TB9) : q_LeT (q_t336 TB) (q_t336 TB9) := q_nd_le (q_nd_le (q_LeT_rf) (q_nd_le (q_nd_le (q_LeT_rf) (q_nd_le (q_lf_le (q_Le_aln h)) (q_LeT_rf))) (q_LeT_rf))) (q_nd_le (q_nd_le (q_LeT_rf) (q_nd_le (q_LeT_rf) (q_nd_le (q_LeT_rf) (q_lf_le (q_Le_ald h))))) (q_LeT_rf))
theorem q_le337 {TB TB9 : Nat → Option (Nat × Nat × (Nat → Int32))} (h : q_TBle TB TB9) : q_LeT (q_t337 TB) (q_t337 TB9) := q_LeT_rf
theorem q_le338 {TB TB9 : Nat → Option (Nat × Nat × (Nat → Int32))} (h : q_TBle TB TB9) : q_LeT (q_t338 TB) (q_t338 TB9) := q_LeT_rf
theorem q_le339 {TB TB9 : Nat → Option (Nat × Nat × (Nat → Int32))} (h : q_TBle TB TB9) : q_LeT (q_t339 TB) (q_t339 TB9) := q_LeT_rf
theorem q_le340 {TB TB9 : Nat → Option (Nat × Nat × (Nat → Int32))} (h : q_TBle TB TB9) : q_LeT (q_t340 TB) (q_t340 TB9) := q_LeT_rf
theorem q_le341 {TB TB9 : Nat → Option (Nat × Nat × (Nat → Int32))} (h : q_TBle TB TB9) : q_LeT (q_t341 TB) (q_t341 TB9) := q_LeT_rf
theorem q_le342 {TB TB9 : Nat → Option (Nat × Nat × (Nat → Int32))} (h : q_TBle TB TB9) : q_LeT (q_t342 TB) (q_t342 TB9) := q_LeT_rf
theorem q_le343 {TB TB9 : Nat → Option (Nat × Nat × (Nat → Int32))} (h : q_TBle TB TB9) : q_LeT (q_t343 TB) (q_t343 TB9) := q_LeT_rf
theorem q_le344 {TB TB9 : Nat → Option (Nat × Nat × (Nat → Int32))} (h : q_TBle TB TB9) : q_LeT (q_t344 TB) (q_t344 TB9) := q_nd_le (q_nd_le (q_LeT_rf) (q_nd_le (q_LeT_rf) (q_lf_le (q_Le_aln h)))) (q_LeT_rf)
theorem q_le345 {TB TB9 : Nat → Option (Nat × Nat × (Nat → Int32))} (h : q_TBle TB TB9) : q_LeT (q_t345 TB) (q_t345 TB9) := q_LeT_rf
theorem q_le346 {TB TB9 : Nat → Option (Nat × Nat × (Nat → Int32))} (h : q_TBle TB TB9) : q_LeT (q_t346 TB) (q_t346 TB9) := q_nd_le (q_LeT_rf) (q_nd_le (q_nd_le (q_nd_le (q_lf_le (q_Le_aln h)) (q_nd_le (q_lf_le (q_Le_acpT h)) (q_LeT_rf))) (q_LeT_rf)) (q_nd_le (q_LeT_rf) (q_nd_le (q_nd_le (q_LeT_rf) (q_lf_le (q_Le_aln h))) (q_LeT_rf))))
theorem q_le347 {TB TB9 : Nat → Option (Nat × Nat × (Nat → Int32))} (h : q_TBle TB TB9) : q_LeT (q_t347 TB) (q_t347 TB9) := q_LeT_rf
theorem q_le348 {TB TB9 : Nat → Option (Nat × Nat × (Nat → Int32))} (h : q_TBle TB TB9) : q_LeT (q_t348 TB) (q_t348 TB9) := q_LeT_rf
theorem q_le349 {TB TB9 : Nat → Option (Nat × Nat × (Nat → Int32))} (h : q_TBle TB TB9) : q_LeT (q_t349 TB) (q_t349 TB9) := q_nd_le (q_nd_le (q_LeT_rf) (q_nd_le (q_LeT_rf) (q_lf_le (q_Le_vS h)))) (q_LeT_rf)
theorem q_le350 {TB TB9 : Nat → Option (Nat × Nat × (Nat → Int32))} (h : q_TBle TB TB9) : q_LeT (q_t350 TB) (q_t350 TB9) := q_nd_le (q_LeT_rf) (q_nd_le (q_lf_le (q_Le_vS h)) (q_LeT_rf))
theorem q_le351 {TB TB9 : Nat → Option (Nat × Nat × (Nat → Int32))} (h : q_TBle TB TB9) : q_LeT (q_t351 TB) (q_t351 TB9) := q_nd_le (q_LeT_rf) (q_nd_le (q_nd_le (q_lf_le (q_Le_vS h)) (q_LeT_rf)) (q_LeT_rf))
theorem q_le352 {TB TB9 : Nat → Option (Nat × Nat × (Nat → Int32))} (h : q_TBle TB TB9) : q_LeT (q_t352 TB) (q_t352 TB9) := q_nd_le (q_nd_le (q_LeT_rf) (q_nd_le (q_lf_le (q_Le_aln h)) (q_LeT_rf))) (q_nd_le (q_nd_le (q_LeT_rf) (q_nd_le (q_lf_le (q_Le_ald h)) (q_LeT_rf))) (q_LeT_rf))
theorem q_le353 {TB TB9 : Nat → Option (Nat × Nat × (Nat → Int32))} (h : q_TBle TB TB9) : q_LeT (q_t353 TB) (q_t353 TB9) := q_LeT_rf
theorem q_le354 {TB TB9 : Nat → Option (Nat × Nat × (Nat → Int32))} (h : q_TBle TB TB9) : q_LeT (q_t354 TB) (q_t354 TB9) := q_LeT_rf
theorem q_le355 {TB TB9 : Nat → Option (Nat × Nat × (Nat → Int32))} (h : q_TBle TB TB9) : q_LeT (q_t355 TB) (q_t355 TB9) := q_LeT_rf
theorem q_le356 {TB TB9 : Nat → Option (Nat × Nat × (Nat → Int32))} (h : q_TBle TB TB9) : q_LeT (q_t356 TB) (q_t356 TB9) := q_LeT_rf
theorem q_le357 {TB TB9 : Nat → Option (Nat × Nat × (Nat → Int32))} (h : q_TBle TB TB9) : q_LeT (q_t357 TB) (q_t357 TB9) := q_LeT_rf
theorem q_le358 {TB TB9 : Nat → Option (Nat × Nat × (Nat → Int32))} (h : q_TBle TB TB9) : q_LeT (q_t358 TB) (q_t358 TB9) := q_LeT_rf
theorem q_le359 {TB TB9 : Nat → Option (Nat × Nat × (Nat → Int32))} (h : q_TBle TB TB9) : q_LeT (q_t359 TB) (q_t359 TB9) := q_nd_le (q_LeT_rf) (q_nd_le (q_nd_le (q_nd_le (q_nd_le (q_LeT_rf) (q_lf_le (q_Le_ald h))) (q_LeT_rf)) (q_LeT_rf)) (q_nd_le (q_nd_le (q_nd_le (q_lf_le (q_Le_ald h)) (q_LeT_rf)) (q_LeT_rf)) (q_LeT_rf)))
theorem q_le360 {TB TB9 : Nat → Option (Nat × Nat × (Nat → Int32))} (h : q_TBle TB TB9) : q_LeT (q_t360 TB) (q_t360 TB9) := q_nd_le (q_nd_le (q_LeT_rf) (q_lf_le (q_Le_aln h))) (q_LeT_rf)
theorem q_le361 {TB TB9 : Nat → Option (Nat × Nat × (Nat → Int32))} (h : q_TBle TB TB9) : q_LeT (q_t361 TB) (q_t361 TB9) := q_LeT_rf
theorem q_le362 {TB TB9 : Nat → Option (Nat × Nat × (Nat → Int32))} (h : q_TBle TB TB9) : q_LeT (q_t362 TB) (q_t362 TB9) := q_LeT_rf
theorem q_le363 {TB TB9 : Nat → Option (Nat × Nat × (Nat → Int32))} (h : q_TBle TB TB9) : q_LeT (q_t363 TB) (q_t363 TB9) := q_LeT_rf
theorem q_le364 {TB TB9 : Nat → Option (Nat × Nat × (Nat → Int32))} (h : q_TBle TB TB9) : q_LeT (q_t364 TB) (q_t364 TB9) := q_LeT_rf
theorem q_le365 {TB TB9 : Nat → Option (Nat × Nat × (Nat → Int32))} (h : q_TBle TB TB9) : q_LeT (q_t365 TB) (q_t365 TB9) := q_LeT_rf
theorem q_le366 {TB TB9 : Nat → Option (Nat × Nat × (Nat → Int32))} (h : q_TBle TB TB9) : q_LeT (q_t366 TB) (q_t366 TB9) := q_nd_le (q_LeT_rf) (q_nd_le (q_nd_le (q_LeT_rf) (q_nd_le (q_LeT_rf) (q_nd_le (q_LeT_rf) (q_lf_le (q_Le_ald h))))) (q_LeT_rf))
theorem q_le367 {TB TB9 : Nat → Option (Nat × Nat × (Nat → Int32))} (h : q_TBle TB TB9) : q_LeT (q_t367 TB) (q_t367 TB9) := q_nd_le (q_nd_le (q_LeT_rf) (q_nd_le (q_LeT_rf) (q_nd_le (q_LeT_rf) (q_nd_le (q_LeT_rf) (q_nd_le (q_LeT_rf) (q_nd_le (q_lf_le (q_Le_ald h)) (q_LeT_rf))))))) (q_nd_le (q_nd_le (q_nd_le (q_LeT_rf) (q_nd_le (q_nd_le (q_LeT_rf) (q_lf_le (q_Le_ald h))) (q_LeT_rf))) (q_nd_le (q_LeT_rf) (q_nd_le (q_nd_le (q_LeT_rf) (q_lf_le (q_Le_ald h))) (q_LeT_rf)))) (q_nd_le (q_nd_le (q_LeT_rf) (q_nd_le (q_LeT_rf) (q_nd_le (q_LeT_rf) (q_nd_le (q_lf_le (q_Le_ald h)) (q_LeT_rf))))) (q_LeT_rf)))
theorem q_le368 {TB TB9 : Nat → Option (Nat × Nat × (Nat → Int32))} (h : q_TBle TB TB9) : q_LeT (q_t368 TB) (q_t368 TB9) := q_LeT_rf
theorem q_le369 {TB TB9 : Nat → Option (Nat × Nat × (Nat → Int32))} (h : q_TBle TB TB9) : q_LeT (q_t369 TB) (q_t369 TB9) := q_LeT_rf
theorem q_le370 {TB TB9 : Nat → Option (Nat × Nat × (Nat → Int32))} (h : q_TBle TB TB9) : q_LeT (q_t370 TB) (q_t370 TB9) := q_LeT_rf
theorem q_le371 {TB TB9 : Nat → Option (Nat × Nat × (Nat → Int32))} (h : q_TBle TB TB9) : q_LeT (q_t371 TB) (q_t371 TB9) := q_LeT_rf
theorem q_le372 {TB TB9 : Nat → Option (Nat × Nat × (Nat → Int32))} (h : q_TBle TB TB9) : q_LeT (q_t372 TB) (q_t372 TB9) := q_LeT_rf
theorem q_le373 {TB TB9 : Nat → Option (Nat × Nat × (Nat → Int32))} (h : q_TBle TB TB9) : q_LeT (q_t373 TB) (q_t373 TB9) := q_LeT_rf
theorem q_le374 {TB TB9 : Nat → Option (Nat × Nat × (Nat → Int32))} (h : q_TBle TB TB9) : q_LeT (q_t374 TB) (q_t374 TB9) := q_LeT_rf
theorem q_le375 {TB TB9 : Nat → Option (Nat × Nat × (Nat → Int32))} (h : q_TBle TB TB9) : q_LeT (q_t375 TB) (q_t375 TB9) := q_LeT_rf
set_option maxRecDepth 16384 in
theorem q_le376 {TB TB9 : Nat → Option (Nat × Nat × (Nat → Int32))} (h : q_TBle TB TB9) : q_LeT (q_t376 TB) (q_t376 TB9) := q_nd_le (q_nd_le (q_nd_le (q_nd_le (q_nd_le (q_nd_le (q_LeT_rf) (q_nd_le (q_nd_le (q_LeT_rf) (q_nd_le (q_LeT_rf) (q_nd_le (q_lf_le (q_Le_aln h)) (q_LeT_rf)))) (q_nd_le (q_LeT_rf) (q_nd_le (q_LeT_rf) (q_nd_le (q_lf_le (q_Le_ald h)) (q_LeT_rf)))))) (q_nd_le (q_nd_le (q_LeT_rf) (q_nd_le (q_nd_le (q_LeT_rf) (q_nd_le (q_LeT_rf) (q_lf_le (q_Le_ald h)))) (q_LeT_rf))) (q_nd_le (q_nd_le (q_nd_le (q_LeT_rf) (q_nd_le (q_lf_le (q_Le_ald h)) (q_LeT_rf))) (q_LeT_rf)) (q_nd_le (q_LeT_rf) (q_nd_le (q_LeT_rf) (q_nd_le (q_lf_le (q_Le_ald h)) (q_LeT_rf))))))) (q_nd_le (q_nd_le (q_nd_le (q_nd_le (q_LeT_rf) (q_nd_le (q_LeT_rf) (q_nd_le (q_lf_le (q_Le_ald h)) (q_LeT_rf)))) (q_LeT_rf)) (q_nd_le (q_nd_le (q_nd_le (q_LeT_rf) (q_nd_le (q_lf_le (q_Le_ald h)) (q_LeT_rf))) (q_LeT_rf)) (q_nd_le (q_nd_le (q_lf_le (q_Le_ald h)) (q_LeT_rf)) (q_LeT_rf)))) (q_nd_le (q_nd_le (q_nd_le (q_LeT_rf) (q_nd_le (q_LeT_rf) (q_nd_le (q_lf_le (q_Le_ald h)) (q_LeT_rf)))) (q_nd_le (q_LeT_rf) (q_nd_le (q_lf_le (q_Le_ald h)) (q_LeT_rf)))) (q_nd_le (q_LeT_rf) (q_nd_le (q_nd_le (q_lf_le (q_Le_ald h)) (q_LeT_rf)) (q_nd_le (q_LeT_rf) (q_nd_le (q_LeT_rf) (q_lf_le (q_Le_ald h))))))))) (q_nd_le (q_nd_le (q_nd_le (q_nd_le (q_nd_le (q_LeT_rf) (q_nd_le (q_LeT_rf) (q_nd_le (q_LeT_rf) (q_lf_le (q_Le_ald h))))) (q_LeT_rf)) (q_nd_le (q_nd_le (q_nd_le (q_LeT_rf) (q_nd_le (q_LeT_rf) (q_lf_le (q_Le_ald h)))) (q_LeT_rf)) (q_nd_le (q_nd_le (q_LeT_rf) (q_nd_le (q_lf_le (q_Le_ald h)) (q_LeT_rf))) (q_LeT_rf)))) (q_nd_le (q_nd_le (q_nd_le (q_nd_le (q_lf_le (q_Le_ald h)) (q_LeT_rf)) (q_LeT_rf)) (q_nd_le (q_LeT_rf) (q_nd_le (q_LeT_rf) (q_nd_le (q_lf_le (q_Le_ald h)) (q_LeT_rf))))) (q_nd_le (q_LeT_rf) (q_nd_le (q_nd_le (q_LeT_rf) (q_nd_le (q_lf_le (q_Le_ald h)) (q_LeT_rf))) (q_LeT_rf))))) (q_nd_le (q_nd_le (q_nd_le (q_nd_le (q_LeT_rf) (q_nd_le (q_LeT_rf) (q_nd_le (q_LeT_rf) (q_lf_le (q_Le_ald h))))) (q_LeT_rf)) (q_nd_le (q_nd_le (q_nd_le (q_LeT_rf) (q_nd_le (q_LeT_rf) (q_lf_le (q_Le_ald h)))) (q_LeT_rf)) (q_nd_le (q_LeT_rf) (q_nd_le (q_LeT_rf) (q_nd_le (q_LeT_rf) (q_lf_le (q_Le_ald h))))))) (q_nd_le (q_nd_le (q_nd_le (q_LeT_rf) (q_nd_le (q_LeT_rf) (q_nd_le (q_LeT_rf) (q_lf_le (q_Le_ald h))))) (q_nd_le (q_LeT_rf) (q_nd_le (q_LeT_rf) (q_nd_le (q_lf_le (q_Le_ald h)) (q_LeT_rf))))) (q_nd_le (q_LeT_rf) (q_nd_le (q_nd_le (q_LeT_rf) (q_nd_le (q_lf_le (q_Le_ald h)) (q_LeT_rf))) (q_LeT_rf))))))) (q_nd_le (q_nd_le (q_nd_le (q_nd_le (q_nd_le (q_nd_le (q_nd_le (q_lf_le (q_Le_ald h)) (q_LeT_rf)) (q_LeT_rf)) (q_nd_le (q_nd_le (q_lf_le (q_Le_ald h)) (q_LeT_rf)) (q_LeT_rf))) (q_nd_le (q_nd_le (q_LeT_rf) (q_nd_le (q_lf_le (q_Le_ald h)) (q_LeT_rf))) (q_LeT_rf))) (q_nd_le (q_nd_le (q_nd_le (q_nd_le (q_lf_le (q_Le_ald h)) (q_LeT_rf)) (q_LeT_rf)) (q_nd_le (q_LeT_rf) (q_nd_le (q_LeT_rf) (q_nd_le (q_lf_le (q_Le_ald h)) (q_LeT_rf))))) (q_nd_le (q_LeT_rf) (q_nd_le (q_nd_le (q_LeT_rf) (q_nd_le (q_lf_le (q_Le_ald h)) (q_LeT_rf))) (q_LeT_rf))))) (q_nd_le (q_nd_le (q_nd_le (q_nd_le (q_LeT_rf) (q_nd_le (q_LeT_rf) (q_nd_le (q_LeT_rf) (q_lf_le (q_Le_ald h))))) (q_nd_le (q_LeT_rf) (q_nd_le (q_LeT_rf) (q_nd_le (q_lf_le (q_Le_ald h)) (q_LeT_rf))))) (q_nd_le (q_nd_le (q_LeT_rf) (q_nd_le (q_lf_le (q_Le_ald h)) (q_LeT_rf))) (q_LeT_rf))) (q_nd_le (q_nd_le (q_nd_le (q_nd_le (q_lf_le (q_Le_ald h)) (q_LeT_rf)) (q_LeT_rf)) (q_nd_le (q_nd_le (q_lf_le (q_Le_ald h)) (q_LeT_rf)) (q_nd_le (q_LeT_rf) (q_nd_le (q_LeT_rf) (q_lf_le (q_Le_ald h)))))) (q_nd_le (q_LeT_rf) (q_nd_le (q_nd_le (q_LeT_rf) (q_nd_le (q_LeT_rf) (q_lf_le (q_Le_ald h)))) (q_LeT_rf)))))) (q_nd_le (q_nd_le (q_nd_le (q_nd_le (q_LeT_rf) (q_nd_le (q_nd_le (q_lf_le (q_Le_ald h)) (q_LeT_rf)) (q_LeT_rf))) (q_nd_le (q_nd_le (q_LeT_rf) (q_nd_le (q_lf_le (q_Le_ald h)) (q_LeT_rf))) (q_nd_le (q_nd_le (q_LeT_rf) (q_nd_le (q_LeT_rf) (q_lf_le (q_Le_ald h)))) (q_LeT_rf)))) (q_nd_le (q_nd_le (q_LeT_rf) (q_nd_le (q_nd_le (q_lf_le (q_Le_ald h)) (q_LeT_rf)) (q_nd_le (q_LeT_rf) (q_nd_le (q_LeT_rf) (q_lf_le (q_Le_ald h)))))) (q_LeT_rf))) (q_nd_le (q_nd_le (q_LeT_rf) (q_nd_le (q_LeT_rf) (q_nd_le (q_nd_le (q_lf_le (q_Le_ald h)) (q_LeT_rf)) (q_LeT_rf)))) (q_nd_le (q_nd_le (q_nd_le (q_LeT_rf) (q_nd_le (q_LeT_rf) (q_nd_le (q_lf_le (q_Le_ald h)) (q_LeT_rf)))) (q_LeT_rf)) (q_LeT_rf)))))) (q_nd_le (q_nd_le (q_nd_le (q_nd_le (q_LeT_rf) (q_nd_le (q_nd_le (q_LeT_rf) (q_nd_le (q_LeT_rf) (q_nd_le (q_LeT_rf) (q_nd_le (q_lf_le (q_Le_ald h)) (q_LeT_rf))))) (q_nd_le (q_LeT_rf) (q_nd_le (q_nd_le (q_LeT_rf) (q_nd_le (q_lf_le (q_Le_ald h)) (q_LeT_rf))) (q_LeT_rf))))) (q_nd_le (q_nd_le (q_LeT_rf) (q_nd_le (q_LeT_rf) (q_nd_le (q_LeT_rf) (q_nd_le (q_LeT_rf) (q_nd_le (q_lf_le (q_Le_ald h)) (q_LeT_rf)))))) (q_nd_le (q_nd_le (q_nd_le (q_LeT_rf) (q_nd_le (q_LeT_rf) (q_nd_le (q_lf_le (q_Le_ald h)) (q_LeT_rf)))) (q_LeT_rf)) (q_nd_le (q_nd_le (q_nd_le (q_LeT_rf) (q_nd_le (q_lf_le (q_Le_ald h)) (q_LeT_rf))) (q_LeT_rf)) (q_nd_le (q_nd_le (q_lf_le (q_Le_ald h)) (q_LeT_rf)) (q_LeT_rf)))))) (q_nd_le (q_nd_le (q_nd_le (q_nd_le (q_nd_le (q_LeT_rf) (q_nd_le (q_LeT_rf) (q_nd_le (q_lf_le (q_Le_ald h)) (q_LeT_rf)))) (q_nd_le (q_LeT_rf) (q_nd_le (q_lf_le (q_Le_ald h)) (q_LeT_rf)))) (q_nd_le (q_LeT_rf) (q_nd_le (q_nd_le (q_lf_le (q_Le_ald h)) (q_LeT_rf)) (q_nd_le (q_LeT_rf) (q_nd_le (q_LeT_rf) (q_lf_le (q_Le_ald h))))))) (q_nd_le (q_nd_le (q_LeT_rf) (q_nd_le (q_LeT_rf) (q_nd_le (q_lf_le (q_Le_ald h)) (q_LeT_rf)))) (q_nd_le (q_LeT_rf) (q_nd_le (q_nd_le (q_lf_le (q_Le_ald h)) (q_LeT_rf)) (q_LeT_rf))))) (q_nd_le (q_nd_le (q_nd_le (q_nd_le (q_LeT_rf) (q_nd_le (q_LeT_rf) (q_nd_le (q_lf_le (q_Le_ald h)) (q_LeT_rf)))) (q_LeT_rf)) (q_nd_le (q_nd_le (q_nd_le (q_LeT_rf) (q_nd_le (q_lf_le (q_Le_ald h)) (q_LeT_rf))) (q_LeT_rf)) (q_nd_le (q_LeT_rf) (q_nd_le (q_LeT_rf) (q_nd_le (q_lf_le (q_Le_ald h)) (q_LeT_rf)))))) (q_nd_le (q_nd_le (q_nd_le (q_LeT_rf) (q_nd_le (q_LeT_rf) (q_nd_le (q_lf_le (q_Le_ald h)) (q_LeT_rf)))) (q_nd_le (q_LeT_rf) (q_nd_le (q_lf_le (q_Le_ald h)) (q_LeT_rf)))) (q_nd_le (q_LeT_rf) (q_nd_le (q_LeT_rf) (q_nd_le (q_LeT_rf) (q_nd_le (q_lf_le (q_Le_ald h)) (q_LeT_rf))))))))) (q_nd_le (q_nd_le (q_nd_le (q_nd_le (q_nd_le (q_nd_le (q_LeT_rf) (q_nd_le (q_LeT_rf) (q_nd_le (q_lf_le (q_Le_ald h)) (q_LeT_rf)))) (q_nd_le (q_LeT_rf) (q_nd_le (q_lf_le (q_Le_ald h)) (q_LeT_rf)))) (q_nd_le (q_LeT_rf) (q_nd_le (q_LeT_rf) (q_nd_le (q_LeT_rf) (q_nd_le (q_lf_le (q_Le_ald h)) (q_LeT_rf)))))) (q_nd_le (q_nd_le (q_LeT_rf) (q_nd_le (q_nd_le (q_LeT_rf) (q_nd_le (q_LeT_rf) (q_lf_le (q_Le_ald h)))) (q_LeT_rf))) (q_nd_le (q_nd_le (q_LeT_rf) (q_nd_le (q_LeT_rf) (q_nd_le (q_LeT_rf) (q_lf_le (q_Le_ald h))))) (q_LeT_rf)))) (q_nd_le (q_nd_le (q_nd_le (q_nd_le (q_LeT_rf) (q_nd_le (q_lf_le (q_Le_ald h)) (q_LeT_rf))) (q_LeT_rf)) (q_nd_le (q_nd_le (q_nd_le (q_lf_le (q_Le_ald h)) (q_LeT_rf)) (q_LeT_rf)) (q_nd_le (q_LeT_rf) (q_nd_le (q_lf_le (q_Le_ald h)) (q_LeT_rf))))) (q_LeT_rf))) (q_nd_le (q_nd_le (q_nd_le (q_nd_le (q_LeT_rf) (q_nd_le (q_nd_le (q_lf_le (q_Le_ald h)) (q_LeT_rf)) (q_LeT_rf))) (q_nd_le (q_nd_le (q_LeT_rf) (q_nd_le (q_lf_le (q_Le_ald h)) (q_LeT_rf))) (q_LeT_rf))) (q_nd_le (q_nd_le (q_nd_le (q_nd_le (q_lf_le (q_Le_ald h)) (q_LeT_rf)) (q_LeT_rf)) (q_nd_le (q_LeT_rf) (q_nd_le (q_LeT_rf) (q_nd_le (q_lf_le (q_Le_ald h)) (q_LeT_rf))))) (q_LeT_rf))) (q_LeT_rf))))
theorem q_mtab_le {TB TB9 : Nat → Option (Nat × Nat × (Nat → Int32))} (h : q_TBle TB TB9) : ∀ k, q_LeT (q_mtab TB k) (q_mtab TB9 k) := q_md_le (q_md_le (q_md_le (q_md_le (q_md_le (q_md_le (q_md_le (q_md_le (q_ml_le (q_le0 h)) (q_ml_le (q_le1 h))) (q_md_le (q_ml_le (q_le2 h)) (q_md_le (q_ml_le (q_le3 h)) (q_ml_le (q_le4 h))))) (q_md_le (q_md_le (q_ml_le (q_le5 h)) (q_md_le (q_ml_le (q_le6 h)) (q_ml_le (q_le7 h)))) (q_md_le (q_ml_le (q_le8 h)) (q_md_le (q_ml_le (q_le9 h)) (q_ml_le (q_le10 h)))))) (q_md_le (q_md_le (q_md_le (q_ml_le (q_le11 h)) (q_md_le (q_ml_le (q_le12 h)) (q_ml_le (q_le13 h)))) (q_md_le (q_ml_le (q_le14 h)) (q_md_le (q_ml_le (q_le15 h)) (q_ml_le (q_le16 h))))) (q_md_le (q_md_le (q_ml_le (q_le17 h)) (q_md_le (q_ml_le (q_le18 h)) (q_ml_le (q_le19 h)))) (q_md_le (q_ml_le (q_le20 h)) (q_md_le (q_ml_le (q_le21 h)) (q_ml_le (q_le22 h))))))) (q_md_le (q_md_le (q_md_le (q_md_le (q_ml_le (q_le23 h)) (q_md_le (q_ml_le (q_le24 h)) (q_ml_le (q_le25 h)))) (q_md_le (q_ml_le (q_le26 h)) (q_md_le (q_ml_le (q_le27 h)) (q_ml_le (q_le28 h))))) (q_md_le (q_md_le (q_ml_le (q_le29 h)) (q_md_le (q_ml_le (q_le30 h)) (q_ml_le (q_le31 h)))) (q_md_le (q_ml_le (q_le32 h)) (q_md_le (q_ml_le (q_le33 h)) (q_ml_le (q_le34 h)))))) (q_md_le (q_md_le (q_md_le (q_ml_le (q_le35 h)) (q_md_le (q_ml_le (q_le36 h)) (q_ml_le (q_le37 h)))) (q_md_le (q_ml_le (q_le38 h)) (q_md_le (q_ml_le (q_le39 h)) (q_ml_le (q_le40 h))))) (q_md_le (q_md_le (q_ml_le (q_le41 h)) (q_md_le (q_ml_le (q_le42 h)) (q_ml_le (q_le43 h)))) (q_md_le (q_ml_le (q_le44 h)) (q_md_le (q_ml_le (q_le45 h)) (q_ml_le (q_le46 h)))))))) (q_md_le (q_md_le (q_md_le (q_md_le (q_md_le (q_ml_le (q_le47 h)) (q_ml_le (q_le48 h))) (q_md_le (q_ml_le (q_le49 h)) (q_md_le (q_ml_le (q_le50 h)) (q_ml_le (q_le51 h))))) (q_md_le (q_md_le (q_ml_le (q_le52 h)) (q_md_le (q_ml_le (q_le53 h)) (q_ml_le (q_le54 h)))) (q_md_le (q_ml_le (q_le55 h)) (q_md_le (q_ml_le (q_le56 h)) (q_ml_le (q_le57 h)))))) (q_md_le (q_md_le (q_md_le (q_ml_le (q_le58 h)) (q_md_le (q_ml_le (q_le59 h)) (q_ml_le (q_le60 h)))) (q_md_le (q_ml_le (q_le61 h)) (q_md_le (q_ml_le (q_le62 h)) (q_ml_le (q_le63 h))))) (q_md_le (q_md_le (q_ml_le (q_le64 h)) (q_md_le (q_ml_le (q_le65 h)) (q_ml_le (q_le66 h)))) (q_md_le (q_ml_le (q_le67 h)) (q_md_le (q_ml_le (q_le68 h)) (q_ml_le (q_le69 h))))))) (q_md_le (q_md_le (q_md_le (q_md_le (q_ml_le (q_le70 h)) (q_md_le (q_ml_le (q_le71 h)) (q_ml_le (q_le72 h)))) (q_md_le (q_ml_le (q_le73 h)) (q_md_le (q_ml_le (q_le74 h)) (q_ml_le (q_le75 h))))) (q_md_le (q_md_le (q_ml_le (q_le76 h)) (q_md_le (q_ml_le (q_le77 h)) (q_ml_le (q_le78 h)))) (q_md_le (q_ml_le (q_le79 h)) (q_md_le (q_ml_le (q_le80 h)) (q_ml_le (q_le81 h)))))) (q_md_le (q_md_le (q_md_le (q_ml_le (q_le82 h)) (q_md_le (q_ml_le (q_le83 h)) (q_ml_le (q_le84 h)))) (q_md_le (q_ml_le (q_le85 h)) (q_md_le (q_ml_le (q_le86 h)) (q_ml_le (q_le87 h))))) (q_md_le (q_md_le (q_ml_le (q_le88 h)) (q_md_le (q_ml_le (q_le89 h)) (q_ml_le (q_le90 h)))) (q_md_le (q_ml_le (q_le91 h)) (q_md_le (q_ml_le (q_le92 h)) (q_ml_le (q_le93 h))))))))) (q_md_le (q_md_le (q_md_le (q_md_le (q_md_le (q_md_le (q_ml_le (q_le94 h)) (q_ml_le (q_le95 h))) (q_md_le (q_ml_le (q_le96 h)) (q_md_le (q_ml_le (q_le97 h)) (q_ml_le (q_le98 h))))) (q_md_le (q_md_le (q_ml_le (q_le99 h)) (q_md_le (q_ml_le (q_le100 h)) (q_ml_le (q_le101 h)))) (q_md_le (q_ml_le (q_le102 h)) (q_md_le (q_ml_le (q_le103 h)) (q_ml_le (q_le104 h)))))) (q_md_le (q_md_le (q_md_le (q_ml_le (q_le105 h)) (q_md_le (q_ml_le (q_le106 h)) (q_ml_le (q_le107 h)))) (q_md_le (q_ml_le (q_le108 h)) (q_md_le (q_ml_le (q_le109 h)) (q_ml_le (q_le110 h))))) (q_md_le (q_md_le (q_ml_le (q_le111 h)) (q_md_le (q_ml_le (q_le112 h)) (q_ml_le (q_le113 h)))) (q_md_le (q_ml_le (q_le114 h)) (q_md_le (q_ml_le (q_le115 h)) (q_ml_le (q_le116 h))))))) (q_md_le (q_md_le (q_md_le (q_md_le (q_ml_le (q_le117 h)) (q_md_le (q_ml_le (q_le118 h)) (q_ml_le (q_le119 h)))) (q_md_le (q_ml_le (q_le120 h)) (q_md_le (q_ml_le (q_le121 h)) (q_ml_le (q_le122 h))))) (q_md_le (q_md_le (q_ml_le (q_le123 h)) (q_md_le (q_ml_le (q_le124 h)) (q_ml_le (q_le125 h)))) (q_md_le (q_ml_le (q_le126 h)) (q_md_le (q_ml_le (q_le127 h)) (q_ml_le (q_le128 h)))))) (q_md_le (q_md_le (q_md_le (q_ml_le (q_le129 h)) (q_md_le (q_ml_le (q_le130 h)) (q_ml_le (q_le131 h)))) (q_md_le (q_ml_le (q_le132 h)) (q_md_le (q_ml_le (q_le133 h)) (q_ml_le (q_le134 h))))) (q_md_le (q_md_le (q_ml_le (q_le135 h)) (q_md_le (q_ml_le (q_le136 h)) (q_ml_le (q_le137 h)))) (q_md_le (q_ml_le (q_le138 h)) (q_md_le (q_ml_le (q_le139 h)) (q_ml_le (q_le140 h)))))))) (q_md_le (q_md_le (q_md_le (q_md_le (q_md_le (q_ml_le (q_le141 h)) (q_ml_le (q_le142 h))) (q_md_le (q_ml_le (q_le143 h)) (q_md_le (q_ml_le (q_le144 h)) (q_ml_le (q_le145 h))))) (q_md_le (q_md_le (q_ml_le (q_le146 h)) (q_md_le (q_ml_le (q_le147 h)) (q_ml_le (q_le148 h)))) (q_md_le (q_ml_le (q_le149 h)) (q_md_le (q_ml_le (q_le150 h)) (q_ml_le (q_le151 h)))))) (q_md_le (q_md_le (q_md_le (q_ml_le (q_le152 h)) (q_md_le (q_ml_le (q_le153 h)) (q_ml_le (q_le154 h)))) (q_md_le (q_ml_le (q_le155 h)) (q_md_le (q_ml_le (q_le156 h)) (q_ml_le (q_le157 h))))) (q_md_le (q_md_le (q_ml_le (q_le158 h)) (q_md_le (q_ml_le (q_le159 h)) (q_ml_le (q_le160 h)))) (q_md_le (q_ml_le (q_le161 h)) (q_md_le (q_ml_le (q_le162 h)) (q_ml_le (q_le163 h))))))) (q_md_le (q_md_le (q_md_le (q_md_le (q_ml_le (q_le164 h)) (q_md_le (q_ml_le (q_le165 h)) (q_ml_le (q_le166 h)))) (q_md_le (q_ml_le (q_le167 h)) (q_md_le (q_ml_le (q_le168 h)) (q_ml_le (q_le169 h))))) (q_md_le (q_md_le (q_ml_le (q_le170 h)) (q_md_le (q_ml_le (q_le171 h)) (q_ml_le (q_le172 h)))) (q_md_le (q_ml_le (q_le173 h)) (q_md_le (q_ml_le (q_le174 h)) (q_ml_le (q_le175 h)))))) (q_md_le (q_md_le (q_md_le (q_ml_le (q_le176 h)) (q_md_le (q_ml_le (q_le177 h)) (q_ml_le (q_le178 h)))) (q_md_le (q_ml_le (q_le179 h)) (q_md_le (q_ml_le (q_le180 h)) (q_ml_le (q_le181 h))))) (q_md_le (q_md_le (q_ml_le (q_le182 h)) (q_md_le (q_ml_le (q_le183 h)) (q_ml_le (q_le184 h)))) (q_md_le (q_ml_le (q_le185 h)) (q_md_le (q_ml_le (q_le186 h)) (q_ml_le (q_le187 h)))))))))) (q_md_le (q_md_le (q_md_le (q_md_le (q_md_le (q_md_le (q_md_le (q_ml_le (q_le188 h)) (q_ml_le (q_le189 h))) (q_md_le (q_ml_le (q_le190 h)) (q_md_le (q_ml_le (q_le191 h)) (q_ml_le (q_le192 h))))) (q_md_le (q_md_le (q_ml_le (q_le193 h)) (q_md_le (q_ml_le (q_le194 h)) (q_ml_le (q_le195 h)))) (q_md_le (q_ml_le (q_le196 h)) (q_md_le (q_ml_le (q_le197 h)) (q_ml_le (q_le198 h)))))) (q_md_le (q_md_le (q_md_le (q_ml_le (q_le199 h)) (q_md_le (q_ml_le (q_le200 h)) (q_ml_le (q_le201 h)))) (q_md_le (q_ml_le (q_le202 h)) (q_md_le (q_ml_le (q_le203 h)) (q_ml_le (q_le204 h))))) (q_md_le (q_md_le (q_ml_le (q_le205 h)) (q_md_le (q_ml_le (q_le206 h)) (q_ml_le (q_le207 h)))) (q_md_le (q_ml_le (q_le208 h)) (q_md_le (q_ml_le (q_le209 h)) (q_ml_le (q_le210 h))))))) (q_md_le (q_md_le (q_md_le (q_md_le (q_ml_le (q_le211 h)) (q_md_le (q_ml_le (q_le212 h)) (q_ml_le (q_le213 h)))) (q_md_le (q_ml_le (q_le214 h)) (q_md_le (q_ml_le (q_le215 h)) (q_ml_le (q_le216 h))))) (q_md_le (q_md_le (q_ml_le (q_le217 h)) (q_md_le (q_ml_le (q_le218 h)) (q_ml_le (q_le219 h)))) (q_md_le (q_ml_le (q_le220 h)) (q_md_le (q_ml_le (q_le221 h)) (q_ml_le (q_le222 h)))))) (q_md_le (q_md_le (q_md_le (q_ml_le (q_le223 h)) (q_md_le (q_ml_le (q_le224 h)) (q_ml_le (q_le225 h)))) (q_md_le (q_ml_le (q_le226 h)) (q_md_le (q_ml_le (q_le227 h)) (q_ml_le (q_le228 h))))) (q_md_le (q_md_le (q_ml_le (q_le229 h)) (q_md_le (q_ml_le (q_le230 h)) (q_ml_le (q_le231 h)))) (q_md_le (q_ml_le (q_le232 h)) (q_md_le (q_ml_le (q_le233 h)) (q_ml_le (q_le234 h)))))))) (q_md_le (q_md_le (q_md_le (q_md_le (q_md_le (q_ml_le (q_le235 h)) (q_ml_le (q_le236 h))) (q_md_le (q_ml_le (q_le237 h)) (q_md_le (q_ml_le (q_le238 h)) (q_ml_le (q_le239 h))))) (q_md_le (q_md_le (q_ml_le (q_le240 h)) (q_md_le (q_ml_le (q_le241 h)) (q_ml_le (q_le242 h)))) (q_md_le (q_ml_le (q_le243 h)) (q_md_le (q_ml_le (q_le244 h)) (q_ml_le (q_le245 h)))))) (q_md_le (q_md_le (q_md_le (q_ml_le (q_le246 h)) (q_md_le (q_ml_le (q_le247 h)) (q_ml_le (q_le248 h)))) (q_md_le (q_ml_le (q_le249 h)) (q_md_le (q_ml_le (q_le250 h)) (q_ml_le (q_le251 h))))) (q_md_le (q_md_le (q_ml_le (q_le252 h)) (q_md_le (q_ml_le (q_le253 h)) (q_ml_le (q_le254 h)))) (q_md_le (q_ml_le (q_le255 h)) (q_md_le (q_ml_le (q_le256 h)) (q_ml_le (q_le257 h))))))) (q_md_le (q_md_le (q_md_le (q_md_le (q_ml_le (q_le258 h)) (q_md_le (q_ml_le (q_le259 h)) (q_ml_le (q_le260 h)))) (q_md_le (q_ml_le (q_le261 h)) (q_md_le (q_ml_le (q_le262 h)) (q_ml_le (q_le263 h))))) (q_md_le (q_md_le (q_ml_le (q_le264 h)) (q_md_le (q_ml_le (q_le265 h)) (q_ml_le (q_le266 h)))) (q_md_le (q_ml_le (q_le267 h)) (q_md_le (q_ml_le (q_le268 h)) (q_ml_le (q_le269 h)))))) (q_md_le (q_md_le (q_md_le (q_ml_le (q_le270 h)) (q_md_le (q_ml_le (q_le271 h)) (q_ml_le (q_le272 h)))) (q_md_le (q_ml_le (q_le273 h)) (q_md_le (q_ml_le (q_le274 h)) (q_ml_le (q_le275 h))))) (q_md_le (q_md_le (q_ml_le (q_le276 h)) (q_md_le (q_ml_le (q_le277 h)) (q_ml_le (q_le278 h)))) (q_md_le (q_ml_le (q_le279 h)) (q_md_le (q_ml_le (q_le280 h)) (q_ml_le (q_le281 h))))))))) (q_md_le (q_md_le (q_md_le (q_md_le (q_md_le (q_md_le (q_ml_le (q_le282 h)) (q_ml_le (q_le283 h))) (q_md_le (q_ml_le (q_le284 h)) (q_md_le (q_ml_le (q_le285 h)) (q_ml_le (q_le286 h))))) (q_md_le (q_md_le (q_ml_le (q_le287 h)) (q_md_le (q_ml_le (q_le288 h)) (q_ml_le (q_le289 h)))) (q_md_le (q_ml_le (q_le290 h)) (q_md_le (q_ml_le (q_le291 h)) (q_ml_le (q_le292 h)))))) (q_md_le (q_md_le (q_md_le (q_ml_le (q_le293 h)) (q_md_le (q_ml_le (q_le294 h)) (q_ml_le (q_le295 h)))) (q_md_le (q_ml_le (q_le296 h)) (q_md_le (q_ml_le (q_le297 h)) (q_ml_le (q_le298 h))))) (q_md_le (q_md_le (q_ml_le (q_le299 h)) (q_md_le (q_ml_le (q_le300 h)) (q_ml_le (q_le301 h)))) (q_md_le (q_ml_le (q_le302 h)) (q_md_le (q_ml_le (q_le303 h)) (q_ml_le (q_le304 h))))))) (q_md_le (q_md_le (q_md_le (q_md_le (q_ml_le (q_le305 h)) (q_md_le (q_ml_le (q_le306 h)) (q_ml_le (q_le307 h)))) (q_md_le (q_ml_le (q_le308 h)) (q_md_le (q_ml_le (q_le309 h)) (q_ml_le (q_le310 h))))) (q_md_le (q_md_le (q_ml_le (q_le311 h)) (q_md_le (q_ml_le (q_le312 h)) (q_ml_le (q_le313 h)))) (q_md_le (q_ml_le (q_le314 h)) (q_md_le (q_ml_le (q_le315 h)) (q_ml_le (q_le316 h)))))) (q_md_le (q_md_le (q_md_le (q_ml_le (q_le317 h)) (q_md_le (q_ml_le (q_le318 h)) (q_ml_le (q_le319 h)))) (q_md_le (q_ml_le (q_le320 h)) (q_md_le (q_ml_le (q_le321 h)) (q_ml_le (q_le322 h))))) (q_md_le (q_md_le (q_ml_le (q_le323 h)) (q_md_le (q_ml_le (q_le324 h)) (q_ml_le (q_le325 h)))) (q_md_le (q_ml_le (q_le326 h)) (q_md_le (q_ml_le (q_le327 h)) (q_ml_le (q_le328 h)))))))) (q_md_le (q_md_le (q_md_le (q_md_le (q_md_le (q_ml_le (q_le329 h)) (q_md_le (q_ml_le (q_le330 h)) (q_ml_le (q_le331 h)))) (q_md_le (q_ml_le (q_le332 h)) (q_md_le (q_ml_le (q_le333 h)) (q_ml_le (q_le334 h))))) (q_md_le (q_md_le (q_ml_le (q_le335 h)) (q_md_le (q_ml_le (q_le336 h)) (q_ml_le (q_le337 h)))) (q_md_le (q_ml_le (q_le338 h)) (q_md_le (q_ml_le (q_le339 h)) (q_ml_le (q_le340 h)))))) (q_md_le (q_md_le (q_md_le (q_ml_le (q_le341 h)) (q_md_le (q_ml_le (q_le342 h)) (q_ml_le (q_le343 h)))) (q_md_le (q_ml_le (q_le344 h)) (q_md_le (q_ml_le (q_le345 h)) (q_ml_le (q_le346 h))))) (q_md_le (q_md_le (q_ml_le (q_le347 h)) (q_md_le (q_ml_le (q_le348 h)) (q_ml_le (q_le349 h)))) (q_md_le (q_ml_le (q_le350 h)) (q_md_le (q_ml_le (q_le351 h)) (q_ml_le (q_le352 h))))))) (q_md_le (q_md_le (q_md_le (q_md_le (q_ml_le (q_le353 h)) (q_md_le (q_ml_le (q_le354 h)) (q_ml_le (q_le355 h)))) (q_md_le (q_ml_le (q_le356 h)) (q_md_le (q_ml_le (q_le357 h)) (q_ml_le (q_le358 h))))) (q_md_le (q_md_le (q_ml_le (q_le359 h)) (q_md_le (q_ml_le (q_le360 h)) (q_ml_le (q_le361 h)))) (q_md_le (q_ml_le (q_le362 h)) (q_md_le (q_ml_le (q_le363 h)) (q_ml_le (q_le364 h)))))) (q_md_le (q_md_le (q_md_le (q_ml_le (q_le365 h)) (q_md_le (q_ml_le (q_le366 h)) (q_ml_le (q_le367 h)))) (q_md_le (q_ml_le (q_le368 h)) (q_md_le (q_ml_le (q_le369 h)) (q_ml_le (q_le370 h))))) (q_md_le (q_md_le (q_ml_le (q_le371 h)) (q_md_le (q_ml_le (q_le372 h)) (q_ml_le (q_le373 h)))) (q_md_le (q_ml_le (q_le374 h)) (q_md_le (q_ml_le (q_le375 h)) (q_ml_le (q_le376 h))))))))))
end
section
-- 36.rows
/-! ===== the rows outside ===== -/
def q_o1 : List Int32 := [15, 3, 31, 15, 15, 15, 15, 15, 15, 255, 0, 15, 255, 255, 255, 255, 7, 15, 15, 15, 63, 63, 63, 63, 63, 63, 63, 63, 15, 0, 0, 15, 255, 255, 255, 255, 255, 255, 255, 255, 255, 255, 255, 255, 1, 0, 0, 0]
def q_o2 : List Int32 := [2, 3, 4, 4, 4, 4, 5, 6]
def q_o3 : List Int32 := [2, 2, 2, 2, 2, 2, 2, 2, 2, 2, 3, 4, 3, 4, 2, 2, 2, 2, 2, 2, 2, 2, 2, 2, 2, 2, 7, 6, 6, 3, 6, 5]
def q_o4 : List Int32 := [108, 100, 97, 108, 100, 120, 108, 100, 121, 115, 116, 97, 115, 116, 120, 115, 116, 121, 97, 100, 99, 115, 98, 99, 97, 110, 100, 111, 114, 97, 101, 111, 114, 99, 109, 112, 99, 112, 120, 99, 112, 121, 105, 110, 99, 100, 101, 99, 108, 97, 120, 115, 97, 120, 100, 99, 112, 105, 115, 99, 98, 105, 116]
def q_o5 : List Int32 := [105, 110, 120, 100, 101, 120, 105, 110, 121, 100, 101, 121, 116, 97, 120, 116, 120, 97, 116, 97, 121, 116, 121, 97, 116, 115, 120, 116, 120, 115, 112, 104, 97, 112, 108, 97, 112, 104, 112, 112, 108, 112, 115, 101, 99, 99, 108, 99, 115, 101, 100, 99, 108, 100, 115, 101, 105, 99, 108, 105, 99, 108, 118, 110, 111, 112, 97, 115, 108, 108, 115, 114, 114, 111, 108, 114, 111, 114, 98, 114, 107, 114, 116, 105, 114, 116, 115, 106, 109, 112, 106, 115, 114, 106, 109, 105, 98, 110, 101, 98, 101, 113, 98, 99, 99, 98, 99, 115, 98, 112, 108, 98, 109, 105, 98, 118, 99, 98, 118, 115]
def q_o6 : List Int32 := [48, 49, 50, 51, 52, 53, 54, 55, 56, 57, 48, 49, 50, 51, 52, 53, 54, 55, 56, 57, 48, 49, 50, 51, 52, 53, 54, 55, 56, 57, 48, 49, 50, 51, 52, 53, 54, 55, 56, 57, 48, 49, 50, 51, 52, 53, 54, 55, 56, 57, 48, 49, 50, 51, 52, 53, 54, 55, 56, 57, 48, 49, 50, 51, 52, 53, 54, 55, 56, 57, 48, 49, 50, 51, 52, 53, 54, 55, 56, 57, 48, 49, 50, 51, 52, 53, 54, 55, 56, 57, 48, 49, 50, 51, 52, 53, 54, 55, 56, 57]
def q_o7 : List Int32 := [48, 48, 48, 48, 48, 48, 48, 48, 48, 48, 49, 49, 49, 49, 49, 49, 49, 49, 49, 49, 50, 50, 50, 50, 50, 50, 50, 50, 50, 50, 51, 51, 51, 51, 51, 51, 51, 51, 51, 51, 52, 52, 52, 52, 52, 52, 52, 52, 52, 52, 53, 53, 53, 53, 53, 53, 53, 53, 53, 53, 54, 54, 54, 54, 54, 54, 54, 54, 54, 54, 55, 55, 55, 55, 55, 55, 55, 55, 55, 55, 56, 56, 56, 56, 56, 56, 56, 56, 56, 56, 57, 57, 57, 57, 57, 57, 57, 57, 57, 57]
def q_o40 : List Int32 := [108, 100, 97, 108, 100, 120, 108, 100, 121, 115, 116, 97, 115, 116, 120, 115, 116, 121, 97, 100, 99, 115, 98, 99, 97, 110, 100, 111, 114, 97, 101, 111, 114, 99, 109, 112, 99, 112, 120, 99, 112, 121, 105, 110, 99, 100, 101, 99, 108, 97, 120, 115, 97, 120, 100, 99, 112, 105, 115, 99, 98, 105, 116]
def q_o41 : List Int32 := [105, 110, 120, 100, 101, 120, 105, 110, 121, 100, 101, 121, 116, 97, 120, 116, 120, 97, 116, 97, 121, 116, 121, 97, 116, 115, 120, 116, 120, 115, 112, 104, 97, 112, 108, 97, 112, 104, 112, 112, 108, 112, 115, 101, 99, 99, 108, 99, 115, 101, 100, 99, 108, 100, 115, 101, 105, 99, 108, 105, 99, 108, 118, 110, 111, 112, 97, 115, 108, 108, 115, 114, 114, 111, 108, 114, 111, 114, 98, 114, 107, 114, 116, 105, 114, 116, 115, 106, 109, 112, 106, 115, 114, 106, 109, 105, 98, 110, 101, 98, 101, 113, 98, 99, 99, 98, 99, 115, 98, 112, 108, 98, 109, 105, 98, 118, 99, 98, 118, 115]
def q_o42 : List Int32 := [106, 97, 109]
def q_o43 : List Int32 := [44, 120]
def q_o44 : List Int32 := [44, 121]
def q_o45 : List Int32 := [41, 44, 121]
def q_o46 : List Int32 := [44, 120, 41]
/-- z: 98 or 99, as the formatter is null or not -/
def q_TB0 (a : Nat) : Option (Nat × Nat × (Nat → Int32)) := (cond (Nat.ble a 7) (cond (Nat.ble a 3) (cond (Nat.ble a 1) (cond (Nat.beq a 1) (some (0, 48, fun j => q_o1.getD j 0)) none) (cond (Nat.ble a 2) (cond (Nat.beq a 2) (some (0, 8, fun j => q_o2.getD j 0)) none) (cond (Nat.beq a 3) (some (0, 32, fun j => q_o3.getD j 0)) none))) (cond (Nat.ble a 5) (cond (Nat.ble a 4) (cond (Nat.beq a 4) (some (3, 63, fun j => q_o4.getD j 0)) none) (cond (Nat.beq a 5) (some (3, 120, fun j => q_o5.getD j 0)) none)) (cond (Nat.ble a 6) (cond (Nat.beq a 6) (some (4, 100, fun j => q_o6.getD j 0)) none) (cond (Nat.beq a 7) (some (4, 100, fun j => q_o7.getD j 0)) none)))) (cond (Nat.ble a 42) (cond (Nat.ble a 40) (cond (Nat.beq a 40) (some (4, 63, fun j => q_o40.getD j 0)) none) (cond (Nat.ble a 41) (cond (Nat.beq a 41) (some (4, 120, fun j => q_o41.getD j 0)) none) (cond (Nat.beq a 42) (some (4, 3, fun j => q_o42.getD j 0)) none))) (cond (Nat.ble a 44) (cond (Nat.ble a 43) (cond (Nat.beq a 43) (some (4, 2, fun j => q_o43.getD j 0)) none) (cond (Nat.beq a 44) (some (4, 2, fun j => q_o44.getD j 0)) none)) (cond (Nat.ble a 45) (cond (Nat.beq a 45) (some (4, 3, fun j => q_o45.getD j 0)) none) (cond (Nat.beq a 46) (some (4, 3, fun j => q_o46.getD j 0)) none)))))
def q_TBs (z L : Nat) (xs : Nat → Int32) (a : Nat) : Option (Nat × Nat × (Nat → Int32)) := cond (Nat.beq a 0) (some (0, L, xs)) (cond (Nat.beq a 9) (some (z, 0, fun _ => 0)) (q_TB0 a))
theorem q_TB0_le {z L : Nat} {xs : Nat → Int32} : q_TBle q_TB0 (q_TBs z L xs) := by
  intro a v h
  unfold q_TBs
  cases h0 : Nat.beq a 0 with
  | true => rw [Nat.eq_of_beq_eq_true h0] at h; cases h
  | false =>
    cases h9 : Nat.beq a 9 with
    | true => rw [Nat.eq_of_beq_eq_true h9] at h; cases h
    | false => exact h
end
section
-- 37.frame
/-! ===== a run on few cells is one on many: elsewhere, and all other cells stay ===== -/
def q_mc (β : Nat → Nat) (c : q_C) : q_C := match c with
  | .inl (t, n, x) => .inl (t, n, q_x β x)
  | .inr (ci, fs) => .inr (ci, fs.map (q_v β))
def q_rg (β : Nat → Nat) (g : q_G) (H : q_H) : q_G := (g.1, q_l β g.2.1, g.2.2.1.map (q_v β), H)
def q_Em (β : Nat → Nat) (δ σ : Nat) (h H : q_H) : Prop := (∀ a, a < 64 → β a = a) ∧ (∀ i, i < h.1.length → 64 ≤ β (64 + i)) ∧ (∀ i j, i < h.1.length → j < h.1.length → β (64 + i) = β (64 + j) → i = j) ∧ (∀ i c, h.1[i]? = some c → H.1[β (64 + i) - 64]? = some (q_mc β c)) ∧ H.2.1 = h.2.1 + δ ∧ H.2.2 = h.2.2 + σ
def q_Rs (β β2 : Nat → Nat) (h h2 H H2 : q_H) : Prop := q_ag β β2 h.1.length ∧ h.1.length ≤ h2.1.length ∧ H2.1.length + h.1.length = H.1.length + h2.1.length ∧ (∀ i, h.1.length ≤ i → i < h2.1.length → 64 + H.1.length ≤ β2 (64 + i)) ∧ (∀ j, j < H.1.length → (∀ i, i < h.1.length → ¬ β (64 + i) = 64 + j) → H2.1[j]? = H.1[j]?)
theorem q_Rs.rf {β : Nat → Nat} {h H : q_H} : q_Rs β β h h H H := ⟨q_ag.rf, Nat.le_refl _, rfl, fun i h1 h2 => absurd h2 (Nat.not_lt.mpr h1), fun _ _ _ => rfl⟩
theorem q_Rs.tr {β β2 β3 : Nat → Nat} {h h2 h3 H H2 H3 : q_H} (a : q_Rs β β2 h h2 H H2) (b : q_Rs β2 β3 h2 h3 H2 H3) : q_Rs β β3 h h3 H H3 := by
  obtain ⟨a1, a2, a3, a4, a5⟩ := a
  obtain ⟨b1, b2, b3, b4, b5⟩ := b
  refine ⟨a1.tr b1 a2, Nat.le_trans a2 b2, by omega, fun i h1 h9 => ?_, fun j hj hn => ?_⟩
  · rcases Nat.lt_or_ge i h2.1.length with q | q
    · rw [b1 (64 + i) (Nat.add_lt_add_left q 64)]; exact a4 i h1 q
    · exact Nat.le_trans (by omega) (b4 i q h9)
  · rw [b5 j (by omega) ?_, a5 j hj hn]
    intro i hi e
    rcases Nat.lt_or_ge i h.1.length with q | q
    · exact hn i q ((a1 (64 + i) (Nat.add_lt_add_left q 64)).symm.trans e)
    · have := a4 i q hi
      omega
theorem q_mc_ag {β β2 : Nat → Nat} {L : Nat} (h : q_ag β β2 L) {c : q_C} (hc : q_okc L c) : q_mc β2 c = q_mc β c := by
  obtain ⟨t, n, x⟩ | ⟨ci, fs⟩ := c
  · show Sum.inl (t, n, q_x β2 x) = Sum.inl (t, n, q_x β x)
    obtain f | f | f | f | f := x <;> try rfl
    have hf : ∀ j a, f j = some a → a < 64 + L := hc
    have e : (fun j => (f j).map β2) = (fun j => (f j).map β) := by
      funext j
      cases hj : f j with
      | none => rfl
      | some a => exact congrArg some (h a (hf j a hj))
    show Sum.inl (t, n, Sum.inr (Sum.inr (Sum.inr (Sum.inr (fun j => (f j).map β2))))) = Sum.inl (t, n, Sum.inr (Sum.inr (Sum.inr (Sum.inr (fun j => (f j).map β)))))
    rw [e]
  · show Sum.inr (ci, fs.map (q_v β2)) = Sum.inr (ci, fs.map (q_v β))
    rw [q_vs_ag h hc]
theorem q_Em.at {β : Nat → Nat} {δ σ : Nat} {h H : q_H} (hE : q_Em β δ σ h H) {a : Nat} {c : q_C} (e : q_at h a = some c) : 64 ≤ β a ∧ q_at H (β a) = some (q_mc β c) := by
  obtain ⟨e1, e2⟩ := q_at_in e
  have hl := (List.getElem?_eq_some_iff.mp e2).1
  have h1 := hE.2.1 _ hl
  have h2 := hE.2.2.2.1 _ _ e2
  rw [← e1] at h1 h2
  refine ⟨h1, ?_⟩
  unfold q_at
  rw [if_neg (by omega)]
  exact h2
theorem q_Em.set {β : Nat → Nat} {δ σ : Nat} {h H : q_H} (hE : q_Em β δ σ h H) {a : Nat} {c0 : q_C} (e : q_at h a = some c0) (c : q_C) : q_Em β δ σ (h.1.set (a - 64) c, h.2) (H.1.set (β a - 64) (q_mc β c), H.2) ∧ q_Rs β β h (h.1.set (a - 64) c, h.2) H (H.1.set (β a - 64) (q_mc β c), H.2) := by
  obtain ⟨e1, e2⟩ := q_at_in e
  have hl := (List.getElem?_eq_some_iff.mp e2).1
  obtain ⟨h1, h2, h3, h4, h5, h6⟩ := hE
  have hb : 64 ≤ β a := by have := h2 _ hl; rw [← e1] at this; exact this
  refine ⟨⟨h1, fun i hi => h2 i (by simpa using hi), fun i j hi hj => h3 i j (by simpa using hi) (by simpa using hj), fun i c2 hi => ?_, h5, h6⟩, q_ag.rf, by simp, by simp, fun i q1 q2 => ?_, fun j hj hn => ?_⟩
  · by_cases hia : a - 64 = i
    · subst hia
      have h9 : (h.1.set (a - 64) c)[a - 64]? = some c2 := hi
      rw [List.getElem?_set_self hl] at h9
      cases h9
      rw [← e1]
      have h8 := h4 _ _ e2
      rw [← e1] at h8
      exact List.getElem?_set_self (List.getElem?_eq_some_iff.mp h8).1
    · have h9 : (h.1.set (a - 64) c)[i]? = some c2 := hi
      rw [List.getElem?_set_ne hia] at h9
      have hne : ¬ β a - 64 = β (64 + i) - 64 := by
        intro q
        have hli := (List.getElem?_eq_some_iff.mp h9).1
        have hb2 := h2 i hli
        have : β (64 + (a - 64)) = β (64 + i) := by rw [← e1]; omega
        exact hia (h3 _ _ hl hli this)
      show (H.1.set (β a - 64) (q_mc β c))[β (64 + i) - 64]? = _
      rw [List.getElem?_set_ne hne]
      exact h4 _ _ h9
  · exact absurd q2 (Nat.not_lt.mpr (by simpa using q1))
  · show (H.1.set (β a - 64) (q_mc β c))[j]? = _
    rw [List.getElem?_set_ne]
    intro q
    exact hn _ hl (by rw [← e1]; omega)
theorem q_Em.push {β : Nat → Nat} {δ σ : Nat} {h H : q_H} (hE : q_Em β δ σ h H) (hk : q_okh h.1) (c : q_C) (hc : ∀ β2, q_mc β2 c = c) (k m : Nat) : q_Em (q_up β h.1.length (64 + H.1.length)) δ σ (h.1 ++ [c], h.2.1 + k, h.2.2 + m) (H.1 ++ [c], H.2.1 + k, H.2.2 + m) ∧ q_Rs β (q_up β h.1.length (64 + H.1.length)) h (h.1 ++ [c], h.2.1 + k, h.2.2 + m) H (H.1 ++ [c], H.2.1 + k, H.2.2 + m) := by
  obtain ⟨h1, h2, h3, h4, h5, h6⟩ := hE
  have hu : ∀ i, i < h.1.length → q_up β h.1.length (64 + H.1.length) (64 + i) = β (64 + i) := fun i hi => q_up_ag β _ _ _ (Nat.add_lt_add_left hi 64)
  have hlt : ∀ i, i < h.1.length → β (64 + i) < 64 + H.1.length := fun i hi => by
    have q1 := (List.getElem?_eq_some_iff.mp (h4 i _ (List.getElem?_eq_getElem hi))).1
    have q2 := h2 i hi
    omega
  have hlen : (h.1 ++ [c]).length = h.1.length + 1 := by simp
  refine ⟨⟨fun a ha => (q_up_ag β _ _ _ (Nat.lt_of_lt_of_le ha (Nat.le_add_right _ _))).trans (h1 a ha), fun i hi => ?_, fun i j hi hj he => ?_, fun i c2 hi => ?_, by show H.2.1 + k = h.2.1 + k + δ; omega, by show H.2.2 + m = h.2.2 + m + σ; omega⟩, q_up_ag β _ _, by rw [hlen]; omega, by simp; omega, fun i q1 q2 => ?_, fun j hj _ => ?_⟩
  · have hi : i < (h.1 ++ [c]).length := hi
    rw [hlen] at hi
    rcases Nat.lt_or_ge i h.1.length with q | q
    · rw [hu i q]; exact h2 i q
    · have : i = h.1.length := by omega
      rw [this, q_up_at]; omega
  · have hi : i < (h.1 ++ [c]).length := hi
    have hj : j < (h.1 ++ [c]).length := hj
    rw [hlen] at hi hj
    rcases Nat.lt_or_ge i h.1.length with q | q
    · rcases Nat.lt_or_ge j h.1.length with q2 | q2
      · rw [hu i q, hu j q2] at he; exact h3 i j q q2 he
      · have e2 : j = h.1.length := by omega
        rw [hu i q, e2, q_up_at] at he
        have := hlt i q
        omega
    · have e1 : i = h.1.length := by omega
      rcases Nat.lt_or_ge j h.1.length with q2 | q2
      · rw [hu j q2, e1, q_up_at] at he
        have := hlt j q2
        omega
      · omega
  · have hi : (h.1 ++ [c])[i]? = some c2 := hi
    rcases Nat.lt_or_ge i h.1.length with q | q
    · rw [List.getElem?_append_left q] at hi
      rw [hu i q, q_mc_ag (q_up_ag β _ _) (hk c2 (List.mem_of_getElem? hi))]
      have h9 := h4 i c2 hi
      exact (List.getElem?_append_left (List.getElem?_eq_some_iff.mp h9).1).trans h9
    · have hl9 := (List.getElem?_eq_some_iff.mp hi).1
      rw [hlen] at hl9
      have e1 : i = h.1.length := by omega
      subst e1
      rw [List.getElem?_append_right (Nat.le_refl _), Nat.sub_self] at hi
      cases hi
      rw [q_up_at, hc]
      show (H.1 ++ [c])[64 + H.1.length - 64]? = _
      rw [Nat.add_sub_cancel_left, List.getElem?_append_right (Nat.le_refl _), Nat.sub_self]; rfl
  · have q2 : i < (h.1 ++ [c]).length := q2
    rw [hlen] at q2
    have e1 : i = h.1.length := by omega
    rw [e1, q_up_at]; exact Nat.le_refl _
  · exact List.getElem?_append_left hj
end
section
-- 38.fleaf
/-! ===== .. step by step ===== -/
def q_RnJ (f : q_G → Option q_G) : Prop := ∀ (β : Nat → Nat) (δ σ : Nat) (g g2 : q_G) (H : q_H), f g = some g2 → q_okg g → q_Em β δ σ g.2.2.2 H → ∃ β2 H2, f (q_rg β g H) = some (q_rg β2 g2 H2) ∧ q_Em β2 δ σ g2.2.2.2 H2 ∧ q_Rs β β2 g.2.2.2 g2.2.2.2 H H2
def q_RnS (s9 : q_L → List Value → Option (List Value)) : Prop := ∀ (β : Nat → Nat) (L : q_L) (st st2 : List Value), (∀ a, a < 64 → β a = a) → s9 L st = some st2 → s9 (q_l β L) (st.map (q_v β)) = some (st2.map (q_v β))
theorem q_Rn_st {nx : Nat} {s9 : q_L → List Value → Option (List Value)} (h : q_RnS s9) : q_RnJ (q_st nx s9) := by
  intro β δ σ g g2 H hf _ hE
  obtain ⟨pc, L, st, hp⟩ := g
  unfold q_st at hf
  dsimp only at hf
  cases hs : s9 L st with
  | none => rw [hs] at hf; cases hf
  | some st2 =>
    rw [hs] at hf
    cases hf
    refine ⟨β, H, ?_, hE, q_Rs.rf⟩
    show (match s9 (q_l β L) (st.map (q_v β)) with
      | none => none
      | some st3 => some (nx, q_l β L, st3, H)) = _
    rw [h β L st st2 hE.1 hs]
    rfl
def q_RnL (s9 : q_L → List Value → Option (q_L × List Value)) : Prop := ∀ (β : Nat → Nat) (L : q_L) (st : List Value) (L2 : q_L) (st2 : List Value), s9 L st = some (L2, st2) → s9 (q_l β L) (st.map (q_v β)) = some (q_l β L2, st2.map (q_v β))
theorem q_Rn_lo {nx : Nat} {s9 : q_L → List Value → Option (q_L × List Value)} (h : q_RnL s9) : q_RnJ (q_lo nx s9) := by
  intro β δ σ g g2 H hf _ hE
  obtain ⟨pc, L, st, hp⟩ := g
  unfold q_lo at hf
  dsimp only at hf
  cases hs : s9 L st with
  | none => rw [hs] at hf; cases hf
  | some v =>
    obtain ⟨L2, st2⟩ := v
    rw [hs] at hf
    cases hf
    refine ⟨β, H, ?_, hE, q_Rs.rf⟩
    show (match s9 (q_l β L) (st.map (q_v β)) with
      | none => none
      | some (L3, st3) => some (nx, L3, st3, H)) = _
    rw [h β L st L2 st2 hs]
    rfl
theorem q_ld_l (β : Nat → Nat) (L : q_L) (i : Nat) : q_ld (q_l β L) i = (q_ld L i).map (q_v β) := by
  induction L with
  | nil => rfl
  | cons q r ih =>
    show (if q.1 = i then some (q_v β q.2) else q_ld (q_l β r) i) = Option.map (q_v β) (if q.1 = i then some q.2 else q_ld r i)
    split
    · rfl
    · exact ih
theorem q_s1_m (β : Nat → Nat) (L : q_L) (i : Nat) (v : Value) : q_s1 (q_l β L) i (q_v β v) = q_l β (q_s1 L i v) := q_s1_l β L i v
theorem q_s2_m (β : Nat → Nat) (L : q_L) (i : Nat) (v : Value) : q_s2 (q_l β L) i (q_v β v) = q_l β (q_s2 L i v) := q_s2_l β L i v
theorem q_v_id {β : Nat → Nat} (h : ∀ a, a < 64 → β a = a) {v : Value} (hv : ∀ a, v = .ref a → a < 64) : q_v β v = v := by
  cases v <;> try rfl
  rename_i a
  show Value.ref (β a) = .ref a
  rw [h a (hv a rfl)]
theorem q_n_fk {v : Value} (hv : ∀ a, v = .ref a → a < 64) : q_RnS (q_fk v) := by
  intro β L st st2 h e
  cases e
  show some (v :: st.map (q_v β)) = some (q_v β v :: st.map (q_v β))
  rw [q_v_id h hv]
theorem q_n_fvS {TB : Nat → Option (Nat × Nat × (Nat → Int32))} : q_RnS (q_fvS TB) := by
  intro β L st st2 h e
  unfold q_fvS at e ⊢
  cases hT : TB 9 with
  | none => rw [hT] at e; cases e
  | some x =>
    rw [hT] at e
    cases e
    have h9 : ∀ b : Bool, q_v β (cond b (.ref 9) .null) = cond b (.ref 9) .null := fun b => by
      cases b with
      | true =>
        show Value.ref (β 9) = .ref 9
        rw [h 9 (Nat.le_of_ble_eq_true rfl)]
      | false => rfl
    show some (cond (Nat.beq x.1 99) (.ref 9) .null :: st.map (q_v β)) = some (q_v β (cond (Nat.beq x.1 99) (.ref 9) .null) :: st.map (q_v β))
    rw [h9]
theorem q_n_fil {i : Nat} : q_RnS (q_fil i) := by
  intro β L st st2 h e
  unfold q_fil at e ⊢
  rw [q_ld_l]
  split at e
  · rename_i x hx
    rw [hx]
    cases e
    rfl
  · cases e
theorem q_n_fll {i : Nat} : q_RnS (q_fll i) := by
  intro β L st st2 h e
  unfold q_fll at e ⊢
  rw [q_ld_l]
  split at e
  · rename_i x hx
    rw [hx]
    cases e
    rfl
  · cases e
theorem q_n_fdl {i : Nat} : q_RnS (q_fdl i) := by
  intro β L st st2 h e
  unfold q_fdl at e ⊢
  rw [q_ld_l]
  split at e
  · rename_i x hx
    rw [hx]
    cases e
    rfl
  · cases e
theorem q_n_fal {i : Nat} : q_RnS (q_fal i) := by
  intro β L st st2 h e
  unfold q_fal at e ⊢
  rw [q_ld_l]
  split at e
  · rename_i x hx
    rw [hx]
    cases e
    rfl
  · rename_i hx
    rw [hx]
    cases e
    rfl
  · cases e
theorem q_n_fii {o : Int32 → Int32 → Int32} : q_RnS (q_fii o) := by
  intro β L st st2 h e
  unfold q_fii at e
  split at e
  · cases e; rfl
  · cases e
theorem q_n_fiz {o : Int32 → Int32 → Int32} : q_RnS (q_fiz o) := by
  intro β L st st2 h e
  unfold q_fiz at e
  split at e
  · rename_i y x r
    split at e
    · cases e
    · rename_i hy
      cases e
      show (if y = 0 then none else some (Value.int (o x y) :: r.map (q_v β))) = _
      rw [if_neg hy]; rfl
  · cases e
theorem q_n_f1 {o : Value → Option Value} (ho : ∀ β v w, o v = some w → o (q_v β v) = some (q_v β w)) : q_RnS (q_f1 o) := by
  intro β L st st2 h e
  unfold q_f1 at e
  split at e
  · rename_i v r
    split at e
    · cases e
    · rename_i w hw
      cases e
      show (match o (q_v β v) with
        | none => none
        | some w => some (w :: r.map (q_v β))) = _
      rw [ho β v w hw]; rfl
  · cases e
theorem q_n_f2 {o : Value → Value → Option Value} (ho : ∀ β v w z, o v w = some z → o (q_v β v) (q_v β w) = some (q_v β z)) : q_RnS (q_f2 o) := by
  intro β L st st2 h e
  unfold q_f2 at e
  split at e
  · rename_i y x r
    split at e
    · cases e
    · rename_i w hw
      cases e
      show (match o (q_v β x) (q_v β y) with
        | none => none
        | some w => some (w :: r.map (q_v β))) = _
      rw [ho β x y w hw]; rfl
  · cases e
/-- what has no references, to what has none -/
theorem q_no1 {o : Value → Option Value} (h : ∀ v w, o v = some w → (∀ a, ¬ v = .ref a) ∧ ∀ a, ¬ w = .ref a) : ∀ β v w, o v = some w → o (q_v β v) = some (q_v β w) := by
  intro β v w e
  obtain ⟨h1, h2⟩ := h v w e
  have e1 : q_v β v = v := by cases v <;> first | rfl | exact absurd rfl (h1 _)
  have e2 : q_v β w = w := by cases w <;> first | rfl | exact absurd rfl (h2 _)
  rw [e1, e2, e]
theorem q_no2 {o : Value → Value → Option Value} (h : ∀ v w z, o v w = some z → (∀ a, ¬ v = .ref a) ∧ (∀ a, ¬ w = .ref a) ∧ ∀ a, ¬ z = .ref a) : ∀ β v w z, o v w = some z → o (q_v β v) (q_v β w) = some (q_v β z) := by
  intro β v w z e
  obtain ⟨h1, h2, h3⟩ := h v w z e
  have e1 : q_v β v = v := by cases v <;> first | rfl | exact absurd rfl (h1 _)
  have e2 : q_v β w = w := by cases w <;> first | rfl | exact absurd rfl (h2 _)
  have e3 : q_v β z = z := by cases z <;> first | rfl | exact absurd rfl (h3 _)
  rw [e1, e2, e3, e]
theorem q_no_i2l : q_RnS (q_f1 q_o_i2l) := q_n_f1 (q_no1 fun v w e => by cases v <;> cases e; exact ⟨fun _ h => (by cases h), fun _ h => (by cases h)⟩)
theorem q_no_l2i : q_RnS (q_f1 q_o_l2i) := q_n_f1 (q_no1 fun v w e => by cases v <;> cases e; exact ⟨fun _ h => (by cases h), fun _ h => (by cases h)⟩)
theorem q_no_i2c : q_RnS (q_f1 q_o_i2c) := q_n_f1 (q_no1 fun v w e => by cases v <;> cases e; exact ⟨fun _ h => (by cases h), fun _ h => (by cases h)⟩)
theorem q_no_i2b : q_RnS (q_f1 q_o_i2b) := q_n_f1 (q_no1 fun v w e => by cases v <;> cases e; exact ⟨fun _ h => (by cases h), fun _ h => (by cases h)⟩)
theorem q_no_ineg : q_RnS (q_f1 q_o_ineg) := q_n_f1 (q_no1 fun v w e => by cases v <;> cases e; exact ⟨fun _ h => (by cases h), fun _ h => (by cases h)⟩)
theorem q_no_i2f : q_RnS (q_f1 q_o_i2f) := q_n_f1 (q_no1 fun v w e => by cases v <;> cases e; exact ⟨fun _ h => (by cases h), fun _ h => (by cases h)⟩)
theorem q_no_i2d : q_RnS (q_f1 q_o_i2d) := q_n_f1 (q_no1 fun v w e => by cases v <;> cases e; exact ⟨fun _ h => (by cases h), fun _ h => (by cases h)⟩)
theorem q_no_f2d : q_RnS (q_f1 q_o_f2d) := q_n_f1 (q_no1 fun v w e => by
  unfold q_o_f2d at e
  split at e
  · split at e
    · cases e; exact ⟨fun _ h => (by cases h), fun _ h => (by cases h)⟩
    · cases e
  · cases e)
theorem q_no_ll {o : Int64 → Int64 → Int64} : q_RnS (q_f2 (q_o_ll o)) := q_n_f2 (q_no2 fun v w z e => by
  unfold q_o_ll at e
  split at e
  · cases e; exact ⟨fun _ h => (by cases h), fun _ h => (by cases h), fun _ h => (by cases h)⟩
  · cases e)
theorem q_no_lz {o : Int64 → Int64 → Int64} : q_RnS (q_f2 (q_o_lz o)) := q_n_f2 (q_no2 fun v w z e => by
  unfold q_o_lz at e
  split at e
  · split at e
    · cases e
    · cases e; exact ⟨fun _ h => (by cases h), fun _ h => (by cases h), fun _ h => (by cases h)⟩
  · cases e)
theorem q_no_lcmp : q_RnS (q_f2 q_o_lcmp) := q_n_f2 (q_no2 fun v w z e => by
  unfold q_o_lcmp at e
  split at e
  · cases e; exact ⟨fun _ h => (by cases h), fun _ h => (by cases h), fun _ h => (by cases h)⟩
  · cases e)
theorem q_no_dcmp {op : CmpOp} : q_RnS (q_f2 (q_o_dcmp op)) := q_n_f2 (q_no2 fun v w z e => by
  unfold q_o_dcmp at e
  split at e
  · cases e; exact ⟨fun _ h => (by cases h), fun _ h => (by cases h), fun _ h => (by cases h)⟩
  · cases e)
theorem q_no_fdiv : q_RnS (q_f2 q_o_fdiv) := q_n_f2 (q_no2 fun v w z e => by
  unfold q_o_fdiv at e
  split at e
  · split at e
    · cases e; exact ⟨fun _ h => (by cases h), fun _ h => (by cases h), fun _ h => (by cases h)⟩
    · cases e
  · cases e)
theorem q_no_ddiv : q_RnS (q_f2 q_o_ddiv) := q_n_f2 (q_no2 fun v w z e => by
  unfold q_o_ddiv at e
  split at e
  · split at e
    · cases e; exact ⟨fun _ h => (by cases h), fun _ h => (by cases h), fun _ h => (by cases h)⟩
    · cases e
  · cases e)
theorem q_c1_v (β : Nat → Nat) (v : Value) : q_c1 (q_v β v) = q_c1 v := by cases v <;> rfl
theorem q_n_fdup : q_RnS q_fdup := by
  intro β L st st2 h e
  unfold q_fdup at e
  split at e
  · rename_i v r
    split at e
    · rename_i hv
      cases e
      show (if q_c1 (q_v β v) = true then some (q_v β v :: q_v β v :: r.map (q_v β)) else none) = _
      rw [q_c1_v, if_pos hv]; rfl
    · cases e
  · cases e
theorem q_n_fpop : q_RnS q_fpop := by
  intro β L st st2 h e
  unfold q_fpop at e
  split at e
  · rename_i v r
    split at e
    · rename_i hv
      cases e
      show (if q_c1 (q_v β v) = true then some (st2.map (q_v β)) else none) = _
      rw [q_c1_v, if_pos hv]
    · cases e
  · cases e
theorem q_c2_v (β : Nat → Nat) (v : Value) : q_c2 (q_v β v) = q_c2 v := by cases v <;> rfl
theorem q_n_fpop2 : q_RnS q_fpop2 := by
  intro β L st st2 h e
  unfold q_fpop2 at e
  split at e
  · rename_i v r
    split at e
    · rename_i hv
      cases e
      show (if q_c2 (q_v β v) = true then some (st2.map (q_v β)) else none) = _
      rw [q_c2_v, if_pos hv]
    · cases e
  · cases e
theorem q_n_fdupx1 : q_RnS q_fdupx1 := by
  intro β L st st2 h e
  unfold q_fdupx1 at e
  split at e
  · rename_i v u r
    split at e
    · rename_i hv
      cases e
      show (if q_c1 (q_v β v) = true ∧ q_c1 (q_v β u) = true then some (q_v β v :: q_v β u :: q_v β v :: r.map (q_v β)) else none) = _
      rw [q_c1_v, q_c1_v, if_pos hv]; rfl
    · cases e
  · cases e
theorem q_n_fdup2 : q_RnS q_fdup2 := by
  intro β L st st2 h e
  unfold q_fdup2 at e
  split at e
  · rename_i v u r
    split at e
    · rename_i hv
      cases e
      show (if q_c1 (q_v β v) = true ∧ q_c1 (q_v β u) = true then some (q_v β v :: q_v β u :: q_v β v :: q_v β u :: r.map (q_v β)) else none) = _
      rw [q_c1_v, q_c1_v, if_pos hv]; rfl
    · cases e
  · cases e
theorem q_n_goto : q_RnS (fun _ st => some st) := fun β L st st2 h e => by cases e; rfl
theorem q_catm (β : Nat → Nat) (st : List Value) : ((st.map (q_v β)).map fun v => v.category) = st.map fun v => v.category := by
  rw [List.map_map]
  exact List.map_congr_left fun v _ => q_v_cat β v
theorem q_n_fm {o : Int32 → Int32 → Int32} : q_RnS (q_fm o) := by
  intro β L st st2 h e
  unfold q_fm at e
  split at e
  · rename_i y x r
    split at e
    · rename_i hs
      cases e
      show (if ((r.map (q_v β)).map fun v => v.category).sum ≤ 8 then some (Value.int (o x y) :: r.map (q_v β)) else none) = _
      rw [q_catm, if_pos hs]; rfl
    · cases e
  · cases e
theorem q_n_fog {t : List (Nat × Value)} (hlo : ∀ x ∈ t, x.1 < 64) (hok : ∀ x ∈ t, ∀ a, x.2 = .ref a → a < 64) : q_RnS (q_fog t) := by
  intro β L st st2 h e
  unfold q_fog at e
  split at e
  · rename_i b r
    split at e
    · rename_i v hv
      cases e
      have hm := q_lkv_mem hv
      show (match q_lkv t (β b) with
        | some v => some (v :: r.map (q_v β))
        | none => none) = some (q_v β v :: r.map (q_v β))
      rw [h b (hlo _ hm), hv, q_v_id h (hok _ hm)]
    · cases e
  · cases e
theorem q_l_fis {i : Nat} : q_RnL (q_fis i) := by
  intro β L st L2 st2 e
  unfold q_fis at e
  split at e
  · rename_i x r
    cases e
    show some (q_s1 (q_l β L) i (q_v β (.int x)), st2.map (q_v β)) = _
    rw [q_s1_m]
  · cases e
theorem q_l_fls {i : Nat} : q_RnL (q_fls i) := by
  intro β L st L2 st2 e
  unfold q_fls at e
  split at e
  · rename_i x r
    cases e
    show some (q_s2 (q_l β L) i (q_v β (.long x)), st2.map (q_v β)) = _
    rw [q_s2_m]
  · cases e
theorem q_l_fds {i : Nat} : q_RnL (q_fds i) := by
  intro β L st L2 st2 e
  unfold q_fds at e
  split at e
  · rename_i x r
    cases e
    show some (q_s2 (q_l β L) i (q_v β (.double x)), st2.map (q_v β)) = _
    rw [q_s2_m]
  · cases e
theorem q_l_fas {i : Nat} : q_RnL (q_fas i) := by
  intro β L st L2 st2 e
  unfold q_fas at e
  split at e
  · rename_i x r
    cases e
    show some (q_s1 (q_l β L) i (q_v β (.ref x)), st2.map (q_v β)) = _
    rw [q_s1_m]
  · cases e
    show some (q_s1 (q_l β L) i (q_v β .null), st2.map (q_v β)) = _
    rw [q_s1_m]
  · cases e
theorem q_l_finc {i : Nat} {d : Int32} : q_RnL (q_finc i d) := by
  intro β L st L2 st2 e
  unfold q_finc at e ⊢
  rw [q_ld_l]
  split at e
  · rename_i x hx
    rw [hx]
    cases e
    show some (q_s1 (q_l β L) i (q_v β (.int (x + d))), st.map (q_v β)) = _
    rw [q_s1_m]
  · cases e
end
section
-- 39.fheap
/-! ===== .. steps on the heap, branches, calls, ends; the run ===== -/
theorem q_fs_get {β : Nat → Nat} {fs : List Value} {k : Nat} {v : Value} (h : fs[k]? = some v) : (fs.map (q_v β))[k]? = some (q_v β v) := by
  rw [List.getElem?_map, h]; rfl
theorem q_Rn_gf {nx ci k : Nat} : q_RnJ (q_gf nx ci k) := by
  intro β δ σ g g2 H hf hg0 hE
  obtain ⟨pc, L, st, hp⟩ := g
  unfold q_gf at hf
  dsimp only at hf
  split at hf
  · rename_i a r
    split at hf
    · rename_i cj fs e1
      split at hf
      · rename_i hc
        split at hf
        · rename_i v hv
          cases hf
          obtain ⟨hb, e2⟩ := hE.at e1
          refine ⟨β, H, ?_, hE, q_Rs.rf⟩
          show (match q_at H (β a) with
            | some (.inr (cj, fs)) => if cj = ci then (match fs[k]? with
              | some v => some (nx, q_l β L, v :: r.map (q_v β), H)
              | none => none) else none
            | _ => none) = _
          rw [e2]
          show (if cj = ci then (match (fs.map (q_v β))[k]? with
              | some v => some (nx, q_l β L, v :: r.map (q_v β), H)
              | none => none) else none) = _
          rw [if_pos hc, q_fs_get hv]; rfl
        · cases hf
      · cases hf
    · cases hf
  · cases hf
def q_ckm (chk : Value → Bool) : Prop := ∀ β v, chk v = true → chk (q_v β v) = true
theorem q_ckm_i : q_ckm q_ck_i := fun β v h => by cases v <;> first | exact h | cases h
theorem q_ckm_l : q_ckm q_ck_l := fun β v h => by cases v <;> first | exact h | cases h
theorem q_ckm_z : q_ckm q_ck_z := fun β v h => by cases v <;> first | exact h | cases h
theorem q_ckm_b : q_ckm q_ck_b := fun β v h => by cases v <;> first | exact h | cases h
theorem q_ckm_r : q_ckm q_ck_r := fun β v h => by cases v <;> first | exact h | cases h | rfl
theorem q_Rn_pf {nx ci k : Nat} {chk : Value → Bool} (hck : q_ckm chk) : q_RnJ (q_pf nx ci k chk) := by
  intro β δ σ g g2 H hf hg0 hE
  obtain ⟨pc, L, st, hp⟩ := g
  unfold q_pf at hf
  dsimp only at hf
  split at hf
  · rename_i v a r
    split at hf
    · rename_i cj fs e1
      split at hf
      · rename_i hc
        cases hf
        obtain ⟨hb, e2⟩ := hE.at e1
        obtain ⟨hE2, hR⟩ := hE.set e1 (.inr (ci, fs.set k v))
        refine ⟨β, _, ?_, hE2, hR⟩
        show (match q_at H (β a) with
          | some (.inr (cj, fs)) => if cj = ci ∧ k < fs.length ∧ chk (q_v β v) = true then some (nx, q_l β L, r.map (q_v β), H.1.set (β a - 64) (.inr (ci, fs.set k (q_v β v))), H.2) else none
          | _ => none) = _
        rw [e2]
        show (if cj = ci ∧ k < (fs.map (q_v β)).length ∧ chk (q_v β v) = true then some (nx, q_l β L, r.map (q_v β), H.1.set (β a - 64) (.inr (ci, (fs.map (q_v β)).set k (q_v β v))), H.2) else none) = some (nx, q_l β L, r.map (q_v β), H.1.set (β a - 64) (.inr (ci, (fs.set k v).map (q_v β))), H.2)
        rw [if_pos ⟨hc.1, by rw [List.length_map]; exact hc.2.1, hck β v hc.2.2⟩, List.map_set]
      · cases hf
    · cases hf
  · cases hf
theorem q_Em.ar {TB : Nat → Option (Nat × Nat × (Nat → Int32))} {β : Nat → Nat} {δ σ : Nat} {h H : q_H} (hE : q_Em β δ σ h H) {a : Nat} {v : Nat × Nat × (Nat → Int32)} (e : q_ar TB h a = some v) : q_ar TB H (β a) = some v := by
  unfold q_ar at e
  split at e
  · rename_i hlt
    unfold q_ar
    rw [hE.1 a hlt, if_pos hlt]; exact e
  · rename_i hlt
    split at e
    · rename_i t n f h9
      cases e
      have e1 : q_at h a = some (.inl (t, n, .inl f)) := by unfold q_at; rw [if_neg hlt]; exact h9
      obtain ⟨hb, e2⟩ := hE.at e1
      unfold q_at at e2
      rw [if_neg (by omega)] at e2
      unfold q_ar
      rw [if_neg (by omega), e2]; rfl
    · cases e
theorem q_Rn_ald {TB : Nat → Option (Nat × Nat × (Nat → Int32))} {nx t : Nat} : q_RnJ (q_rs (q_ald TB nx t)) := by
  intro β δ σ g g2 H hf hg0 hE
  obtain ⟨pc, L, st, hp⟩ := g
  unfold q_rs q_ald at hf
  dsimp only at hf
  split at hf
  · cases hf
  · rename_i t9 g1 g3 hs
    split at hs
    · rename_i i a r
      split at hs
      · rename_i u n f e1
        split at hs
        · rename_i hu
          cases hs
          cases hq : q_in i n with
          | false => rw [hq] at hf; cases hf
          | true =>
            rw [hq] at hf
            cases hf
            refine ⟨β, H, ?_, hE, q_Rs.rf⟩
            unfold q_rs q_ald
            show (match (match q_ar TB H (β a) with
              | some (u, n, f) => if u = t then some (q_in i n, (nx, q_l β L, Value.int (f i.toNatClampNeg) :: r.map (q_v β), H), (none : Option q_G)) else none
              | none => none) with
              | none => none
              | some (t, g1, g2) => match t with
                | true => some g1
                | false => g2) = _
            rw [hE.ar e1]
            dsimp only
            rw [if_pos hu]
            dsimp only
            rw [hq]; rfl
        · cases hs
      · cases hs
    · cases hs
theorem q_Rn_ast {nx t : Nat} {nar : Int32 → Int32} : q_RnJ (q_rs (q_ast nx t nar)) := by
  intro β δ σ g g2 H hf hg0 hE
  obtain ⟨pc, L, st, hp⟩ := g
  unfold q_rs q_ast at hf
  dsimp only at hf
  split at hf
  · cases hf
  · rename_i t9 g1 g3 hs
    split at hs
    · rename_i x i a r
      split at hs
      · rename_i u n f e1
        split at hs
        · rename_i hu
          cases hs
          cases hq : q_in i n with
          | false => rw [hq] at hf; cases hf
          | true =>
            rw [hq] at hf
            cases hf
            obtain ⟨hb, e2⟩ := hE.at e1
            obtain ⟨hE2, hR⟩ := hE.set e1 (.inl (t, n, .inl (upd f i.toNatClampNeg (nar x))))
            refine ⟨β, _, ?_, hE2, hR⟩
            unfold q_rs q_ast
            show (match (match q_at H (β a) with
              | some (.inl (u, n, .inl f)) => if u = t then some (q_in i n, (nx, q_l β L, r.map (q_v β), H.1.set (β a - 64) (.inl (t, n, .inl (upd f i.toNatClampNeg (nar x)))), H.2), (none : Option q_G)) else none
              | _ => none) with
              | none => none
              | some (t, g1, g2) => match t with
                | true => some g1
                | false => g2) = _
            rw [e2]
            show (match (if u = t then some (q_in i n, (nx, q_l β L, r.map (q_v β), H.1.set (β a - 64) (.inl (t, n, .inl (upd f i.toNatClampNeg (nar x)))), H.2), (none : Option q_G)) else none) with
              | none => none
              | some (t, g1, g2) => match t with
                | true => some g1
                | false => g2) = _
            rw [if_pos hu]
            dsimp only
            rw [hq]; rfl
        · cases hs
      · cases hs
    · cases hs
theorem q_Rn_lld {nx t : Nat} : q_RnJ (q_rs (q_lld nx t)) := by
  intro β δ σ g g2 H hf hg0 hE
  obtain ⟨pc, L, st, hp⟩ := g
  unfold q_rs q_lld at hf
  dsimp only at hf
  split at hf
  · cases hf
  · rename_i t9 g1 g3 hs
    split at hs
    · rename_i i a r
      split at hs
      · rename_i u n f e1
        split at hs
        · rename_i hu
          cases hs
          cases hq : q_in i n with
          | false => rw [hq] at hf; cases hf
          | true =>
            rw [hq] at hf
            cases hf
            obtain ⟨hb, e2⟩ := hE.at e1
            refine ⟨β, H, ?_, hE, q_Rs.rf⟩
            unfold q_rs q_lld
            show (match (match q_at H (β a) with
              | some (.inl (u, n, .inr (.inl f))) => if u = t then some (q_in i n, (nx, q_l β L, Value.long (f i.toNatClampNeg) :: r.map (q_v β), H), (none : Option q_G)) else none
              | _ => none) with
              | none => none
              | some (t, g1, g2) => match t with
                | true => some g1
                | false => g2) = _
            rw [e2]
            show (match (if u = t then some (q_in i n, (nx, q_l β L, Value.long (f i.toNatClampNeg) :: r.map (q_v β), H), (none : Option q_G)) else none) with
              | none => none
              | some (t, g1, g2) => match t with
                | true => some g1
                | false => g2) = _
            rw [if_pos hu]
            dsimp only
            rw [hq]; rfl
        · cases hs
      · cases hs
    · cases hs
theorem q_Rn_lst {nx t : Nat} : q_RnJ (q_rs (q_lst nx t)) := by
  intro β δ σ g g2 H hf hg0 hE
  obtain ⟨pc, L, st, hp⟩ := g
  unfold q_rs q_lst at hf
  dsimp only at hf
  split at hf
  · cases hf
  · rename_i t9 g1 g3 hs
    split at hs
    · rename_i x i a r
      split at hs
      · rename_i u n f e1
        split at hs
        · rename_i hu
          cases hs
          cases hq : q_in i n with
          | false => rw [hq] at hf; cases hf
          | true =>
            rw [hq] at hf
            cases hf
            obtain ⟨hb, e2⟩ := hE.at e1
            obtain ⟨hE2, hR⟩ := hE.set e1 (.inl (t, n, .inr (.inl (vp_updL f i.toNatClampNeg x))))
            refine ⟨β, _, ?_, hE2, hR⟩
            unfold q_rs q_lst
            show (match (match q_at H (β a) with
              | some (.inl (u, n, .inr (.inl f))) => if u = t then some (q_in i n, (nx, q_l β L, r.map (q_v β), H.1.set (β a - 64) (.inl (t, n, .inr (.inl (vp_updL f i.toNatClampNeg x)))), H.2), (none : Option q_G)) else none
              | _ => none) with
              | none => none
              | some (t, g1, g2) => match t with
                | true => some g1
                | false => g2) = _
            rw [e2]
            show (match (if u = t then some (q_in i n, (nx, q_l β L, r.map (q_v β), H.1.set (β a - 64) (.inl (t, n, .inr (.inl (vp_updL f i.toNatClampNeg x)))), H.2), (none : Option q_G)) else none) with
              | none => none
              | some (t, g1, g2) => match t with
                | true => some g1
                | false => g2) = _
            rw [if_pos hu]
            dsimp only
            rw [hq]; rfl
        · cases hs
      · cases hs
    · cases hs
theorem q_rfm (β : Nat → Nat) (o : Option Nat) : va_rf (o.map β) = q_v β (va_rf o) := by cases o <;> rfl
theorem q_Rn_qld {nx t : Nat} : q_RnJ (q_rs (q_qld nx t)) := by
  intro β δ σ g g2 H hf hg0 hE
  obtain ⟨pc, L, st, hp⟩ := g
  unfold q_rs q_qld at hf
  dsimp only at hf
  split at hf
  · cases hf
  · rename_i t9 g1 g3 hs
    split at hs
    · rename_i i a r
      split at hs
      · rename_i u n f e1
        split at hs
        · rename_i hu
          cases hs
          cases hq : q_in i n with
          | false => rw [hq] at hf; cases hf
          | true =>
            rw [hq] at hf
            cases hf
            obtain ⟨hb, e2⟩ := hE.at e1
            refine ⟨β, H, ?_, hE, q_Rs.rf⟩
            unfold q_rs q_qld
            show (match (match q_at H (β a) with
              | some (.inl (u, n, .inr (.inr (.inr (.inr f))))) => if u = t then some (q_in i n, (nx, q_l β L, va_rf (f i.toNatClampNeg) :: r.map (q_v β), H), (none : Option q_G)) else none
              | _ => none) with
              | none => none
              | some (t, g1, g2) => match t with
                | true => some g1
                | false => g2) = _
            rw [e2]
            show (match (if u = t then some (q_in i n, (nx, q_l β L, va_rf ((f i.toNatClampNeg).map β) :: r.map (q_v β), H), (none : Option q_G)) else none) with
              | none => none
              | some (t, g1, g2) => match t with
                | true => some g1
                | false => g2) = _
            rw [if_pos hu]
            dsimp only
            rw [hq, q_rfm]; rfl
        · cases hs
      · cases hs
    · cases hs
theorem q_x_up (β : Nat → Nat) (f : Nat → Option Nat) (i v : Nat) : (fun j => (va_up f i (some v) j).map β) = va_up (fun j => (f j).map β) i (some (β v)) := by
  funext j
  unfold va_up
  split <;> rfl
theorem q_Rn_qst {nx t ci : Nat} : q_RnJ (q_rs (q_qst nx t ci)) := by
  intro β δ σ g g2 H hf hg0 hE
  obtain ⟨pc, L, st, hp⟩ := g
  unfold q_rs q_qst at hf
  dsimp only at hf
  split at hf
  · cases hf
  · rename_i t9 g1 g3 hs
    split at hs
    · rename_i v i a r
      split at hs
      · rename_i u n f cj fs e1 e9
        split at hs
        · rename_i hu
          cases hs
          cases hq : q_in i n with
          | false => rw [hq] at hf; cases hf
          | true =>
            rw [hq] at hf
            cases hf
            obtain ⟨hb, e2⟩ := hE.at e1
            obtain ⟨hb9, e29⟩ := hE.at e9
            obtain ⟨hE2, hR⟩ := hE.set e1 (.inl (t, n, .inr (.inr (.inr (.inr (va_up f i.toNatClampNeg (some v)))))))
            refine ⟨β, _, ?_, hE2, hR⟩
            unfold q_rs q_qst
            show (match (match q_at H (β a), q_at H (β v) with
              | some (.inl (u, n, .inr (.inr (.inr (.inr f))))), some (.inr (cj, _)) => if u = t ∧ cj = ci then some (q_in i n, (nx, q_l β L, r.map (q_v β), H.1.set (β a - 64) (.inl (t, n, .inr (.inr (.inr (.inr (va_up f i.toNatClampNeg (some (β v)))))))), H.2), (none : Option q_G)) else none
              | _, _ => none) with
              | none => none
              | some (t, g1, g2) => match t with
                | true => some g1
                | false => g2) = _
            rw [e2, e29]
            show (match (if u = t ∧ cj = ci then some (q_in i n, (nx, q_l β L, r.map (q_v β), H.1.set (β a - 64) (.inl (t, n, .inr (.inr (.inr (.inr (va_up (fun j => (f j).map β) i.toNatClampNeg (some (β v)))))))), H.2), (none : Option q_G)) else none) with
              | none => none
              | some (t, g1, g2) => match t with
                | true => some g1
                | false => g2) = some (nx, q_l β L, r.map (q_v β), H.1.set (β a - 64) (.inl (t, n, .inr (.inr (.inr (.inr (fun j => (va_up f i.toNatClampNeg (some v) j).map β)))))), H.2)
            rw [if_pos hu, q_x_up]
            dsimp only
            rw [hq]
        · cases hs
      · cases hs
    · cases hs
theorem q_Rn_aln {TB : Nat → Option (Nat × Nat × (Nat → Int32))} {nx t : Nat} : q_RnJ (q_aln TB nx t) := by
  intro β δ σ g g2 H hf hg0 hE
  obtain ⟨pc, L, st, hp⟩ := g
  unfold q_aln at hf
  dsimp only at hf
  split at hf
  · rename_i a r
    refine ⟨β, H, ?_, ?_, ?_⟩
    · by_cases hlt : a < 64
      · rw [if_pos hlt] at hf
        unfold q_aln
        show (if β a < 64 then (match TB (β a) with
          | some (u, n, _) => if u = t then some (nx, q_l β L, Value.int (Int32.ofNat n) :: r.map (q_v β), H) else none
          | none => none) else _) = _
        rw [hE.1 a hlt, if_pos hlt]
        split at hf
        · rename_i u n f hT
          rw [hT]
          split at hf
          · rename_i hu
            cases hf
            dsimp only
            rw [if_pos hu]; rfl
          · cases hf
        · cases hf
      · rw [if_neg hlt] at hf
        split at hf
        · rename_i u n x h9
          have e1 : q_at hp a = some (.inl (u, n, x)) := by unfold q_at; rw [if_neg hlt]; exact h9
          obtain ⟨hb, e2⟩ := hE.at e1
          unfold q_at at e2
          rw [if_neg (by omega)] at e2
          split at hf
          · rename_i hu
            cases hf
            unfold q_aln
            show (if β a < 64 then _ else (match H.1[β a - 64]? with
              | some (.inl (u, n, _)) => if u = t then some (nx, q_l β L, Value.int (Int32.ofNat n) :: r.map (q_v β), H) else none
              | _ => none)) = _
            rw [if_neg (by omega), e2]
            show (if u = t then some (nx, q_l β L, Value.int (Int32.ofNat n) :: r.map (q_v β), H) else none) = _
            rw [if_pos hu]; rfl
          · cases hf
        · cases hf
    · split at hf
      · split at hf
        · split at hf
          · cases hf; exact hE
          · cases hf
        · cases hf
      · split at hf
        · split at hf
          · cases hf; exact hE
          · cases hf
        · cases hf
    · split at hf
      · split at hf
        · split at hf
          · cases hf; exact q_Rs.rf
          · cases hf
        · cases hf
      · split at hf
        · split at hf
          · cases hf; exact q_Rs.rf
          · cases hf
        · cases hf
  · cases hf
end
section
-- 40.frun
/-! ===== .. new cells, switches, calls, ends; the run ===== -/
theorem q_Rn_new {nx ci N : Nat} {fs : List Value} (hfs : ∀ β, fs.map (q_v β) = fs) : q_RnJ (q_new nx ci N fs) := by
  intro β δ σ g g2 H hf hg0 hE
  obtain ⟨pc, L, st, hp⟩ := g
  unfold q_new at hf
  cases hf
  obtain ⟨hE2, hR⟩ := hE.push hg0.2.2 (.inr (ci, fs)) (fun β2 => by show Sum.inr (ci, fs.map (q_v β2)) = Sum.inr (ci, fs); rw [hfs]) 1 N
  refine ⟨_, _, ?_, hE2, hR⟩
  show some (nx, q_l β L, Value.ref (64 + H.1.length) :: st.map (q_v β), H.1 ++ [.inr (ci, fs)], H.2.1 + 1, H.2.2 + N) = some (nx, q_l (q_up β hp.1.length (64 + H.1.length)) L, Value.ref (q_up β hp.1.length (64 + H.1.length) (64 + hp.1.length)) :: st.map (q_v (q_up β hp.1.length (64 + H.1.length))), H.1 ++ [.inr (ci, fs)], H.2.1 + 1, H.2.2 + N)
  rw [q_up_at, q_l_ag (q_up_ag β hp.1.length _) hg0.1, q_vs_ag (q_up_ag β hp.1.length _) hg0.2.1]
theorem q_Rn_nwa {nx t : Nat} {z : (Nat → Int32) ⊕ (Nat → Int64) ⊕ (Nat → UInt32) ⊕ (Nat → UInt64) ⊕ (Nat → Option Nat)} (hz : ∀ β, q_x β z = z) : q_RnJ (q_rs (q_nwa nx t z)) := by
  intro β δ σ g g2 H hf hg0 hE
  obtain ⟨pc, L, st, hp⟩ := g
  unfold q_rs q_nwa at hf
  dsimp only at hf
  split at hf
  · cases hf
  · rename_i t9 g1 g3 hs
    split at hs
    · rename_i n r
      cases hs
      cases hq : (!(decide (n < 0)) && decide (n.toNatClampNeg ≤ 1000000)) with
      | false => rw [hq] at hf; cases hf
      | true =>
        rw [hq] at hf
        cases hf
        obtain ⟨hE2, hR⟩ := hE.push hg0.2.2 (.inl (t, n.toNatClampNeg, z)) (fun β2 => by show Sum.inl (t, n.toNatClampNeg, q_x β2 z) = Sum.inl (t, n.toNatClampNeg, z); rw [hz]) 1 n.toNatClampNeg
        refine ⟨_, _, ?_, hE2, hR⟩
        unfold q_rs q_nwa
        show (match (!(decide (n < 0)) && decide (n.toNatClampNeg ≤ 1000000)) with
          | true => some (nx, q_l β L, Value.ref (64 + H.1.length) :: r.map (q_v β), H.1 ++ [.inl (t, n.toNatClampNeg, z)], H.2.1 + 1, H.2.2 + n.toNatClampNeg)
          | false => none) = some (nx, q_l (q_up β hp.1.length (64 + H.1.length)) L, Value.ref (q_up β hp.1.length (64 + H.1.length) (64 + hp.1.length)) :: r.map (q_v (q_up β hp.1.length (64 + H.1.length))), H.1 ++ [.inl (t, n.toNatClampNeg, z)], H.2.1 + 1, H.2.2 + n.toNatClampNeg)
        rw [hq, q_up_at, q_l_ag (q_up_ag β hp.1.length _) hg0.1, q_vs_ag (q_up_ag β hp.1.length _) (fun v hv => hg0.2.1 v (List.mem_cons_of_mem _ hv))]
    · cases hs
theorem q_Rn_acp {nx t : Nat} {fit : Int32 → Bool} : q_RnJ (q_rs (q_acp nx t fit)) := by
  intro β δ σ g g2 H hf hg0 hE
  obtain ⟨pc, L, st, hp⟩ := g
  unfold q_rs q_acp at hf
  dsimp only at hf
  split at hf
  · cases hf
  · rename_i t9 g1 g3 hs
    split at hs
    · rename_i n dp a sp b r
      split at hs
      · rename_i u n0 f v n1 f1 e1 e9
        split at hs
        · rename_i hu
          cases hs
          generalize hq : (!(decide (sp < 0)) && (!(decide (dp < 0)) && (!(decide (n < 0)) && (decide (sp.toNatClampNeg + n.toNatClampNeg ≤ n0) && (decide (dp.toNatClampNeg + n.toNatClampNeg ≤ n1) && (List.range n.toNatClampNeg).all fun i => fit (f (sp.toNatClampNeg + i))))))) = B at hf
          cases B with
          | false => cases hf
          | true =>
            cases hf
            obtain ⟨hb, e2⟩ := hE.at e1
            obtain ⟨hb9, e29⟩ := hE.at e9
            obtain ⟨hE2, hR⟩ := hE.set e9 (.inl (t, n1, .inl (va_cpy f f1 sp.toNatClampNeg dp.toNatClampNeg n.toNatClampNeg)))
            refine ⟨β, _, ?_, hE2, hR⟩
            unfold q_rs q_acp
            show (match (match q_at H (β b), q_at H (β a) with
              | some (.inl (u, n0, .inl f)), some (.inl (v, n1, .inl f1)) => if u = t ∧ v = t ∧ ((r.map (q_v β)).map fun (v : Value) => v.category).sum ≤ 8 then some (!(decide (sp < 0)) && (!(decide (dp < 0)) && (!(decide (n < 0)) && (decide (sp.toNatClampNeg + n.toNatClampNeg ≤ n0) && (decide (dp.toNatClampNeg + n.toNatClampNeg ≤ n1) && (List.range n.toNatClampNeg).all fun i => fit (f (sp.toNatClampNeg + i)))))), (nx, q_l β L, r.map (q_v β), H.1.set (β a - 64) (.inl (t, n1, .inl (va_cpy f f1 sp.toNatClampNeg dp.toNatClampNeg n.toNatClampNeg))), H.2), (none : Option q_G)) else none
              | _, _ => none) with
              | none => none
              | some (t, g1, g2) => match t with
                | true => some g1
                | false => g2) = _
            rw [e2, e29, q_catm]
            show (match (if u = t ∧ v = t ∧ (r.map fun (v : Value) => v.category).sum ≤ 8 then some (!(decide (sp < 0)) && (!(decide (dp < 0)) && (!(decide (n < 0)) && (decide (sp.toNatClampNeg + n.toNatClampNeg ≤ n0) && (decide (dp.toNatClampNeg + n.toNatClampNeg ≤ n1) && (List.range n.toNatClampNeg).all fun i => fit (f (sp.toNatClampNeg + i)))))), (nx, q_l β L, r.map (q_v β), H.1.set (β a - 64) (.inl (t, n1, .inl (va_cpy f f1 sp.toNatClampNeg dp.toNatClampNeg n.toNatClampNeg))), H.2), (none : Option q_G)) else none) with
              | none => none
              | some (t, g1, g2) => match t with
                | true => some g1
                | false => g2) = _
            rw [if_pos hu]
            dsimp only
            rw [hq]; rfl
        · cases hs
      · cases hs
    · cases hs
theorem q_Rn_acpT {TB : Nat → Option (Nat × Nat × (Nat → Int32))} {nx t : Nat} {fit : Int32 → Bool} : q_RnJ (q_rs (q_acpT TB nx t fit)) := by
  intro β δ σ g g2 H hf hg0 hE
  obtain ⟨pc, L, st, hp⟩ := g
  unfold q_rs q_acpT at hf
  dsimp only at hf
  split at hf
  · cases hf
  · rename_i t9 g1 g3 hs
    split at hs
    · rename_i n dp a sp b r
      split at hs
      · rename_i u n0 f v n1 f1 e1 e9
        split at hs
        · rename_i hu
          cases hs
          generalize hq : (!(decide (sp < 0)) && (!(decide (dp < 0)) && (!(decide (n < 0)) && (decide (sp.toNatClampNeg + n.toNatClampNeg ≤ n0) && (decide (dp.toNatClampNeg + n.toNatClampNeg ≤ n1) && (List.range n.toNatClampNeg).all fun i => fit (f (sp.toNatClampNeg + i))))))) = B at hf
          cases B with
          | false => cases hf
          | true =>
            cases hf
            have e2 := hE.ar e1
            obtain ⟨hb9, e29⟩ := hE.at e9
            obtain ⟨hE2, hR⟩ := hE.set e9 (.inl (t, n1, .inl (va_cpy f f1 sp.toNatClampNeg dp.toNatClampNeg n.toNatClampNeg)))
            refine ⟨β, _, ?_, hE2, hR⟩
            unfold q_rs q_acpT
            show (match (match q_ar TB H (β b), q_at H (β a) with
              | some (u, n0, f), some (.inl (v, n1, .inl f1)) => if u = t ∧ v = t ∧ ((r.map (q_v β)).map fun (v : Value) => v.category).sum ≤ 8 then some (!(decide (sp < 0)) && (!(decide (dp < 0)) && (!(decide (n < 0)) && (decide (sp.toNatClampNeg + n.toNatClampNeg ≤ n0) && (decide (dp.toNatClampNeg + n.toNatClampNeg ≤ n1) && (List.range n.toNatClampNeg).all fun i => fit (f (sp.toNatClampNeg + i)))))), (nx, q_l β L, r.map (q_v β), H.1.set (β a - 64) (.inl (t, n1, .inl (va_cpy f f1 sp.toNatClampNeg dp.toNatClampNeg n.toNatClampNeg))), H.2), (none : Option q_G)) else none
              | _, _ => none) with
              | none => none
              | some (t, g1, g2) => match t with
                | true => some g1
                | false => g2) = _
            rw [e2, e29, q_catm]
            show (match (if u = t ∧ v = t ∧ (r.map fun (v : Value) => v.category).sum ≤ 8 then some (!(decide (sp < 0)) && (!(decide (dp < 0)) && (!(decide (n < 0)) && (decide (sp.toNatClampNeg + n.toNatClampNeg ≤ n0) && (decide (dp.toNatClampNeg + n.toNatClampNeg ≤ n1) && (List.range n.toNatClampNeg).all fun i => fit (f (sp.toNatClampNeg + i)))))), (nx, q_l β L, r.map (q_v β), H.1.set (β a - 64) (.inl (t, n1, .inl (va_cpy f f1 sp.toNatClampNeg dp.toNatClampNeg n.toNatClampNeg))), H.2), (none : Option q_G)) else none) with
              | none => none
              | some (t, g1, g2) => match t with
                | true => some g1
                | false => g2) = _
            rw [if_pos hu]
            dsimp only
            rw [hq]; rfl
        · cases hs
      · cases hs
    · cases hs
theorem q_Rn_obj {nx : Nat} : q_RnJ (q_obj nx) := by
  intro β δ σ g g2 H hf hg0 hE
  obtain ⟨pc, L, st, hp⟩ := g
  unfold q_obj at hf
  dsimp only at hf
  split at hf
  · rename_i a r
    split at hf
    · rename_i hs
      cases hf
      refine ⟨β, H, ?_, hE, q_Rs.rf⟩
      unfold q_obj
      show (if ((r.map (q_v β)).map fun (v : Value) => v.category).sum ≤ 8 then some (nx, q_l β L, r.map (q_v β), H) else none) = _
      rw [q_catm, if_pos hs]; rfl
    · cases hf
  · cases hf
theorem q_Rn_tsw {pc : Nat} {dflt lo hi : Int} {offs : Array Int} : q_RnJ (q_tsw pc dflt lo hi offs) := by
  intro β δ σ g g2 H hf hg0 hE
  obtain ⟨pc, L, st, hp⟩ := g
  unfold q_tsw at hf
  dsimp only at hf
  split at hf
  · rename_i x r
    split at hf
    · rename_i hx
      cases hf
      refine ⟨β, H, ?_, hE, q_Rs.rf⟩
      unfold q_tsw q_rg
      show (if x.toInt < lo ∨ hi < x.toInt then _ else _) = _
      rw [if_pos hx]
    · rename_i hx
      split at hf
      · rename_i o ho
        cases hf
        refine ⟨β, H, ?_, hE, q_Rs.rf⟩
        unfold q_tsw q_rg
        show (if x.toInt < lo ∨ hi < x.toInt then _ else match offs[(x.toInt - lo).toNat]? with
          | some o => _
          | none => _) = _
        rw [if_neg hx, ho]
      · cases hf
  · cases hf
theorem q_Rn_lsw {pc : Nat} {dflt : Int} {ps : Array (Int × Int)} : q_RnJ (q_lsw pc dflt ps) := by
  intro β δ σ g g2 H hf hg0 hE
  obtain ⟨pc, L, st, hp⟩ := g
  unfold q_lsw at hf
  dsimp only at hf
  split at hf
  · rename_i x r
    cases hf
    exact ⟨β, H, rfl, hE, q_Rs.rf⟩
  · cases hf
theorem q_Rn_br {tgt nx : Nat} {b : List Value → Option (Bool × List Value)} (hb : ∀ β st t st2, b st = some (t, st2) → b (st.map (q_v β)) = some (t, st2.map (q_v β))) : q_RnJ (q_rs (q_br tgt nx b)) := by
  intro β δ σ g g2 H hf hg0 hE
  obtain ⟨pc, L, st, hp⟩ := g
  unfold q_rs q_br at hf
  dsimp only at hf
  split at hf
  · cases hf
  · rename_i t g1 g3 hs
    split at hs
    · cases hs
    · rename_i t2 st2 h9
      cases hs
      cases t with
      | true =>
        cases hf
        refine ⟨β, H, ?_, hE, q_Rs.rf⟩
        unfold q_rs q_br q_rg
        dsimp only
        rw [hb β _ _ _ h9]
      | false =>
        cases hf
        refine ⟨β, H, ?_, hE, q_Rs.rf⟩
        unfold q_rs q_br q_rg
        dsimp only
        rw [hb β _ _ _ h9]
theorem q_nb1 {t : Int32 → Bool} : ∀ β st t9 st2, q_b1 t st = some (t9, st2) → q_b1 t (st.map (q_v β)) = some (t9, st2.map (q_v β)) := by
  intro β st t9 st2 e
  unfold q_b1 at e
  split at e
  · cases e; rfl
  · cases e
theorem q_nb2 {t : Int32 → Int32 → Bool} : ∀ β st t9 st2, q_b2 t st = some (t9, st2) → q_b2 t (st.map (q_v β)) = some (t9, st2.map (q_v β)) := by
  intro β st t9 st2 e
  unfold q_b2 at e
  split at e
  · cases e; rfl
  · cases e
theorem q_nbn : ∀ β st t9 st2, q_bn st = some (t9, st2) → q_bn (st.map (q_v β)) = some (t9, st2.map (q_v β)) := by
  intro β st t9 st2 e
  unfold q_bn at e
  split at e
  · cases e; rfl
  · cases e; rfl
  · cases e
theorem q_nbnn : ∀ β st t9 st2, q_bnn st = some (t9, st2) → q_bnn (st.map (q_v β)) = some (t9, st2.map (q_v β)) := by
  intro β st t9 st2 e
  unfold q_bnn at e
  split at e
  · cases e; rfl
  · cases e; rfl
  · cases e
/-- ends -/
def q_RnR (f : q_G → Option (Option Value)) : Prop := ∀ (β : Nat → Nat) (g : q_G) (v : Option Value) (H : q_H), f g = some v → f (q_rg β g H) = some (v.map (q_v β))
theorem q_nr_i : q_RnR q_ri := by
  intro β g v H e
  obtain ⟨pc, L, st, hp⟩ := g
  unfold q_ri at e
  dsimp only at e
  split at e
  · cases e; rfl
  · cases e
theorem q_nr_z : q_RnR q_rz := by
  intro β g v H e
  obtain ⟨pc, L, st, hp⟩ := g
  unfold q_rz at e
  dsimp only at e
  split at e
  · rename_i x
    split at e
    · rename_i hx
      cases e
      show (if x = 0 ∨ x = 1 then some (some (Value.int x)) else none) = _
      rw [if_pos hx]; rfl
    · cases e
  · cases e
theorem q_nr_c : q_RnR q_rc := by
  intro β g v H e
  obtain ⟨pc, L, st, hp⟩ := g
  unfold q_rc at e
  dsimp only at e
  split at e
  · rename_i x
    split at e
    · rename_i hx
      cases e
      show (if vp_nar .char x = x then some (some (Value.int x)) else none) = _
      rw [if_pos hx]; rfl
    · cases e
  · cases e
theorem q_nr_l : q_RnR q_rl := by
  intro β g v H e
  obtain ⟨pc, L, st, hp⟩ := g
  unfold q_rl at e
  dsimp only at e
  split at e
  · cases e; rfl
  · cases e
theorem q_nr_f : q_RnR q_rf := by
  intro β g v H e
  obtain ⟨pc, L, st, hp⟩ := g
  unfold q_rf at e
  dsimp only at e
  split at e
  · cases e; rfl
  · cases e
theorem q_nr_d : q_RnR q_rd := by
  intro β g v H e
  obtain ⟨pc, L, st, hp⟩ := g
  unfold q_rd at e
  dsimp only at e
  split at e
  · cases e; rfl
  · cases e
theorem q_nr_a : q_RnR q_ra := by
  intro β g v H e
  obtain ⟨pc, L, st, hp⟩ := g
  unfold q_ra at e
  dsimp only at e
  split at e
  · cases e; rfl
  · cases e; rfl
  · cases e
theorem q_nr_v : q_RnR q_rv := by
  intro β g v H e
  obtain ⟨pc, L, st, hp⟩ := g
  unfold q_rv at e
  dsimp only at e
  split at e
  · cases e; rfl
  · cases e
def q_RnT (f : q_G → Option String) : Prop := ∀ (β : Nat → Nat) (g : q_G) (E : String) (H : q_H), f g = some E → f (q_rg β g H) = some E
theorem q_nt {E9 : String} : q_RnT (q_ft E9) := by
  intro β g E H e
  obtain ⟨pc, L, st, hp⟩ := g
  unfold q_ft at e
  split at e
  · rename_i hs
    cases e
    show (if ((st.map (q_v β)).map fun (v : Value) => v.category).sum ≤ 8 then some E9 else none) = _
    rw [q_catm, if_pos hs]
  · cases e
def q_RnC (f : q_G → Option (Nat × List Value × List Value)) : Prop := ∀ (β : Nat → Nat) (δ σ : Nat) (g : q_G) (k : Nat) (as rest : List Value) (H : q_H), f g = some (k, as, rest) → q_Em β δ σ g.2.2.2 H → f (q_rg β g H) = some (k, as.map (q_v β), rest.map (q_v β))
theorem q_nc_c {k nA : Nat} : q_RnC (q_fc k nA) := by
  intro β δ σ g k9 as rest H e hE
  obtain ⟨pc, L, st, hp⟩ := g
  unfold q_fc at e
  split at e
  · rename_i hs
    cases e
    show (if nA ≤ (st.map (q_v β)).length ∧ (((st.map (q_v β)).drop nA).map fun (v : Value) => v.category).sum ≤ 8 then some (k, ((st.map (q_v β)).take nA).reverse, (st.map (q_v β)).drop nA) else none) = _
    rw [← List.map_drop, ← List.map_take, List.length_map, q_catm, if_pos hs, List.map_reverse]
  · cases e
theorem q_nc_v {k nA ci : Nat} : q_RnC (q_fv k nA ci) := by
  intro β δ σ g k9 as rest H e hE
  obtain ⟨pc, L, st, hp⟩ := g
  unfold q_fv at e
  dsimp only at e
  split at e
  · rename_i b r hst
    split at e
    · rename_i cj fs e1
      split at e
      · rename_i hs
        cases e
        obtain ⟨hb, e2⟩ := hE.at e1
        unfold q_fv
        show (match (st.map (q_v β)).drop nA with
          | .ref b :: r => match q_at H b with
            | some (.inr (cj, _)) => if cj = ci ∧ (r.map fun (v : Value) => v.category).sum ≤ 8 then some (k, Value.ref b :: ((st.map (q_v β)).take nA).reverse, r) else none
            | _ => none
          | _ => none) = _
        rw [← List.map_drop, ← List.map_take, hst]
        show (match q_at H (β b) with
            | some (.inr (cj, _)) => if cj = ci ∧ ((rest.map (q_v β)).map fun (v : Value) => v.category).sum ≤ 8 then some (k, Value.ref (β b) :: ((st.take nA).map (q_v β)).reverse, rest.map (q_v β)) else none
            | _ => none) = _
        rw [e2, q_catm]
        show (if cj = ci ∧ (rest.map fun (v : Value) => v.category).sum ≤ 8 then some (k, Value.ref (β b) :: ((st.take nA).map (q_v β)).reverse, rest.map (q_v β)) else none) = some (k, Value.ref (β b) :: ((st.take nA).reverse).map (q_v β), rest.map (q_v β))
        rw [if_pos hs, List.map_reverse]
      · cases e
    · cases e
  · cases e
theorem q_nc_i {k nA : Nat} : q_RnC (q_fi k nA) := by
  intro β δ σ g k9 as rest H e hE
  obtain ⟨pc, L, st, hp⟩ := g
  unfold q_fi at e
  dsimp only at e
  split at e
  · rename_i b r hst
    split at e
    · rename_i hs
      cases e
      unfold q_fi
      show (match (st.map (q_v β)).drop nA with
        | .ref b :: r => if (r.map fun (v : Value) => v.category).sum ≤ 8 then some (k, Value.ref b :: ((st.map (q_v β)).take nA).reverse, r) else none
        | _ => none) = _
      rw [← List.map_drop, ← List.map_take, hst]
      show (if ((rest.map (q_v β)).map fun (v : Value) => v.category).sum ≤ 8 then some (k, Value.ref (β b) :: ((st.take nA).map (q_v β)).reverse, rest.map (q_v β)) else none) = some (k, Value.ref (β b) :: ((st.take nA).reverse).map (q_v β), rest.map (q_v β))
      rw [q_catm, if_pos hs, List.map_reverse]
    · cases e
  · cases e
theorem q_nc_o {k nA : Nat} {ks : List Nat} (hlo : ∀ x ∈ ks, x < 64) : q_RnC (q_fo k nA ks) := by
  intro β δ σ g k9 as rest H e hE
  obtain ⟨pc, L, st, hp⟩ := g
  unfold q_fo at e
  dsimp only at e
  split at e
  · rename_i b r hst
    split at e
    · rename_i hs
      cases e
      have hb : β b = b := hE.1 b (hlo b (List.contains_iff_mem.mp hs.1))
      unfold q_fo
      show (match (st.map (q_v β)).drop nA with
        | .ref b :: r => if ks.contains b = true ∧ (r.map fun (v : Value) => v.category).sum ≤ 8 then some (k, Value.ref b :: ((st.map (q_v β)).take nA).reverse, r) else none
        | _ => none) = _
      rw [← List.map_drop, ← List.map_take, hst]
      show (if ks.contains (β b) = true ∧ ((rest.map (q_v β)).map fun (v : Value) => v.category).sum ≤ 8 then some (k, Value.ref (β b) :: ((st.take nA).map (q_v β)).reverse, rest.map (q_v β)) else none) = some (k, Value.ref (β b) :: ((st.take nA).reverse).map (q_v β), rest.map (q_v β))
      rw [q_catm, hb, if_pos hs, List.map_reverse]
    · cases e
  · cases e
/-- entries, tables -/
def q_RnE (x : q_E) : Prop := match x with
  | .inl f => q_RnJ f
  | .inr (.inl f) => q_RnJ (q_rs f)
  | .inr (.inr (.inl f)) => q_RnR f
  | .inr (.inr (.inr (.inl f))) => q_RnT f
  | .inr (.inr (.inr (.inr (_, f, _)))) => q_RnC f
def q_RnB (t : Nat → Option q_E) : Prop := ∀ pc x, t pc = some x → q_RnE x
theorem q_nd_rn {m : Nat} {A B : Nat → Option q_E} (hA : q_RnB A) (hB : q_RnB B) : q_RnB (q_nd m A B) := q_nd_ok (P := fun _ x => q_RnE x) hA hB
theorem q_lf_rn {m : Nat} {y : q_E} (h : q_RnE y) : q_RnB (q_lf m y) := q_lf_ok (P := fun _ x => q_RnE x) h
theorem q_n0_rn : q_RnB q_n0 := q_n0_ok (P := fun _ x => q_RnE x)
theorem q_md_rn {m : Nat} {A B : Nat → Nat → Option q_E} (hA : ∀ k, q_RnB (A k)) (hB : ∀ k, q_RnB (B k)) : ∀ k, q_RnB (q_md m A B k) := q_md_ok (P := fun _ _ x => q_RnE x) hA hB
theorem q_ml_rn {n : Nat} {t : Nat → Option q_E} (h : q_RnB t) : ∀ k, q_RnB (q_ml n t k) := q_ml_ok (P := fun _ _ x => q_RnE x) h
def q_om (β : Nat → Nat) (o : Option Value ⊕ String) : Option Value ⊕ String := match o with
  | .inl v => .inl (v.map (q_v β))
  | .inr E => .inr E
section
variable {WU : List Cond} {cl : List vw_C} {tyl : List FieldType} {GF : (Nat → Prop) → State → Heap → Prop} {τ : Nat → Nat} {mt : Nat → q_M}
def q_FX (ex : Nat → List Value → q_H → Option q_Out) : Prop := ∀ (k : Nat) (as : List Value) (h : q_H) (out : q_Out), ex k as h = some out → (∀ v ∈ as, q_ok h.1.length v) → q_okh h.1 → q_oko h out ∧ ∀ (β : Nat → Nat) (δ σ : Nat) (H : q_H), q_Em β δ σ h H → ∃ β2 H2, ex k (as.map (q_v β)) H = some (q_om β2 out.1, H2) ∧ q_Em β2 δ σ out.2 H2 ∧ q_Rs β β2 h out.2 H H2
def q_FS (ex : Nat → List Value → q_H → Option q_Out) (tb : Nat → Option q_E) (g : q_G) (r : q_G ⊕ q_Out) : Prop := match r with
  | .inl g2 => q_gr g g2 ∧ ∀ (β : Nat → Nat) (δ σ : Nat) (H : q_H), q_Em β δ σ g.2.2.2 H → ∃ β2 H2, q_step ex tb (q_rg β g H) = some (.inl (q_rg β2 g2 H2)) ∧ q_Em β2 δ σ g2.2.2.2 H2 ∧ q_Rs β β2 g.2.2.2 g2.2.2.2 H H2
  | .inr o => q_oko g.2.2.2 o ∧ ∀ (β : Nat → Nat) (δ σ : Nat) (H : q_H), q_Em β δ σ g.2.2.2 H → ∃ β2 H2, q_step ex tb (q_rg β g H) = some (.inr (q_om β2 o.1, H2)) ∧ q_Em β2 δ σ o.2 H2 ∧ q_Rs β β2 g.2.2.2 o.2 H H2
theorem q_dropm (β : Nat → Nat) (L : q_L) (i : Nat) : q_drop (q_l β L) i = q_l β (q_drop L i) := q_drop_l β L i
theorem q_frame_step {k : Nat} {ex : Nat → List Value → q_H → Option q_Out} {tb : Nat → Option q_E} (hX : q_FX ex) (hs : ∀ pc x, tb pc = some x → q_Snd WU cl tyl GF τ mt (mt k) pc x) (hrn : q_RnB tb) {g : q_G} {r : q_G ⊕ q_Out} (h : q_step ex tb g = some r) (hg : q_okg g) : q_FS ex tb g r := by
  unfold q_step at h
  split at h
  · cases h
  · rename_i f hx
    have hJ := hs _ _ hx
    have hR := hrn _ _ hx
    split at h
    · cases h
    · rename_i g2 hf
      cases h
      refine ⟨(hJ g g2 rfl hf hg).1, fun β δ σ H hE => ?_⟩
      obtain ⟨β2, H2, e1, e2, e3⟩ := hR β δ σ g g2 H hf hg hE
      refine ⟨β2, H2, ?_, e2, e3⟩
      unfold q_step
      rw [show (q_rg β g H).1 = g.1 from rfl, hx]
      dsimp only
      rw [e1]
  · rename_i f hx
    have hJ := hs _ _ hx
    have hR := hrn _ _ hx
    split at h
    · cases h
    · rename_i g2 hf
      cases h
      refine ⟨(hJ g g2 rfl hf hg).1, fun β δ σ H hE => ?_⟩
      obtain ⟨β2, H2, e1, e2, e3⟩ := hR β δ σ g g2 H hf hg hE
      refine ⟨β2, H2, ?_, e2, e3⟩
      unfold q_step
      rw [show (q_rg β g H).1 = g.1 from rfl, hx]
      dsimp only
      rw [e1]
  · rename_i f hx
    have hJ := hs _ _ hx
    have hR := hrn _ _ hx
    split at h
    · cases h
    · rename_i v hf
      cases h
      refine ⟨⟨fun w hw => hg.2.1 w ((hJ g v rfl hf).1 w (Sum.inl.inj hw)), hg.2.2, Nat.le_refl _, Nat.le_refl _, Nat.le_refl _⟩, fun β δ σ H hE => ?_⟩
      refine ⟨β, H, ?_, hE, q_Rs.rf⟩
      unfold q_step
      rw [show (q_rg β g H).1 = g.1 from rfl, hx]
      dsimp only
      rw [hR β g v H hf]; rfl
  · rename_i f hx
    have hR := hrn _ _ hx
    split at h
    · cases h
    · rename_i E hf
      cases h
      refine ⟨⟨fun w hw => (by cases hw), hg.2.2, Nat.le_refl _, Nat.le_add_right _ _, Nat.le_add_right _ _⟩, fun β δ σ H hE => ?_⟩
      refine ⟨β, (H.1, H.2.1 + 1, H.2.2 + 6), ?_, ⟨hE.1, hE.2.1, hE.2.2.1, hE.2.2.2.1, by show H.2.1 + 1 = g.2.2.2.2.1 + 1 + δ; rw [hE.2.2.2.2.1]; omega, by show H.2.2 + 6 = g.2.2.2.2.2 + 6 + σ; rw [hE.2.2.2.2.2]; omega⟩, q_ag.rf, Nat.le_refl _, rfl, fun i h1 h2 => absurd h2 (Nat.not_lt.mpr h1), fun _ _ _ => rfl⟩
      unfold q_step
      rw [show (q_rg β g H).1 = g.1 from rfl, hx]
      dsimp only
      rw [hR β g E H hf]; rfl
  · rename_i nx f hd hx
    have hJ := hs _ _ hx
    have hR := hrn _ _ hx
    obtain ⟨hCs, hH⟩ := hJ
    split at h
    · cases h
    · rename_i j as rest hf
      obtain ⟨ha, hr, -⟩ := hCs.2 g j as rest rfl hf
      split at h
      · cases h
      · rename_i v h1 ho
        cases h
        obtain ⟨⟨o1, o2, o3, o4, o5⟩, hfr⟩ := hX j as g.2.2.2 _ ho (fun v hv => hg.2.1 v (ha v hv)) hg.2.2
        have hov : ∀ w ∈ v.toList ++ rest, q_ok h1.1.length w := by
          intro w hw
          rcases List.mem_append.mp hw with q | q
          · cases v with
            | none => cases q
            | some u => rw [List.mem_singleton.mp q]; exact o1 u rfl
          · exact (hg.2.1 w (hr w q)).le o3
        refine ⟨⟨⟨fun q hq => (hg.1 q hq).le o3, hov, o2⟩, o3, o4, o5⟩, fun β δ σ H hE => ?_⟩
        obtain ⟨β2, H2, e1, e2, e3⟩ := hfr β δ σ H hE
        refine ⟨β2, H2, ?_, e2, e3⟩
        unfold q_step
        rw [show (q_rg β g H).1 = g.1 from rfl, hx]
        dsimp only
        rw [hR β δ σ g j as rest H hf hE]
        dsimp only
        rw [show (q_rg β g H).2.2.2 = H from rfl, e1]
        have eL : q_l β g.2.1 = q_l β2 g.2.1 := (q_l_ag e3.1 hg.1).symm
        have er : rest.map (q_v β) = rest.map (q_v β2) := (q_vs_ag e3.1 fun w hw => hg.2.1 w (hr w hw)).symm
        show some (Sum.inl (nx, q_l β g.2.1, (v.map (q_v β2)).toList ++ rest.map (q_v β), H2)) = some (Sum.inl (nx, q_l β2 g.2.1, (v.toList ++ rest).map (q_v β2), H2))
        rw [eL, er]
        cases v <;> rfl
      · rename_i E h1 ho
        obtain ⟨⟨o1, o2, o3, o4, o5⟩, hfr⟩ := hX j as g.2.2.2 _ ho (fun v hv => hg.2.1 v (ha v hv)) hg.2.2
        cases hd with
        | none =>
          cases h
          refine ⟨⟨o1, o2, o3, o4, o5⟩, fun β δ σ H hE => ?_⟩
          obtain ⟨β2, H2, e1, e2, e3⟩ := hfr β δ σ H hE
          refine ⟨β2, H2, ?_, e2, e3⟩
          unfold q_step
          rw [show (q_rg β g H).1 = g.1 from rfl, hx]
          dsimp only
          rw [hR β δ σ g j as rest H hf hE]
          dsimp only
          rw [show (q_rg β g H).2.2.2 = H from rfl, e1]; rfl
        | some hf2 =>
          dsimp only at h
          split at h
          · cases h
          · rename_i tg i hti
            cases h
            refine ⟨⟨⟨fun q hq => (hg.1 q (List.mem_filter.mp hq).1).le o3, fun v hv => (by cases hv), o2⟩, o3, o4, o5⟩, fun β δ σ H hE => ?_⟩
            obtain ⟨β2, H2, e1, e2, e3⟩ := hfr β δ σ H hE
            refine ⟨β2, H2, ?_, e2, e3⟩
            unfold q_step
            rw [show (q_rg β g H).1 = g.1 from rfl, hx]
            dsimp only
            rw [hR β δ σ g j as rest H hf hE]
            dsimp only
            rw [show (q_rg β g H).2.2.2 = H from rfl, e1]
            show (match hf2 E with
              | none => none
              | some (tg, i) => some (Sum.inl (tg, q_drop (q_l β g.2.1) i, [], H2))) = some (Sum.inl (tg, q_l β2 (q_drop g.2.1 i), [], H2))
            rw [hti]
            have eL : q_l β g.2.1 = q_l β2 g.2.1 := (q_l_ag e3.1 hg.1).symm
            show some (Sum.inl (tg, q_drop (q_l β g.2.1) i, [], H2)) = _
            rw [eL, q_dropm]
theorem q_frame_loop {k : Nat} {ex : Nat → List Value → q_H → Option q_Out} {tb : Nat → Option q_E} (hX : q_FX ex) (hs : ∀ pc x, tb pc = some x → q_Snd WU cl tyl GF τ mt (mt k) pc x) (hrn : q_RnB tb) : ∀ (n : Nat) (g : q_G) (o : q_Out), q_loop ex tb n g = some o → q_okg g → q_oko g.2.2.2 o ∧ ∀ (β : Nat → Nat) (δ σ : Nat) (H : q_H), q_Em β δ σ g.2.2.2 H → ∃ β2 H2, q_loop ex tb n (q_rg β g H) = some (q_om β2 o.1, H2) ∧ q_Em β2 δ σ o.2 H2 ∧ q_Rs β β2 g.2.2.2 o.2 H H2 := by
  intro n
  induction n with
  | zero => intro g o h; cases h
  | succ n ih =>
    intro g o h hg
    rw [q_loop_s] at h
    cases hst : q_step ex tb g with
    | none => rw [hst] at h; cases h
    | some r =>
      rw [hst] at h
      have hF := q_frame_step hX hs hrn hst hg
      cases r with
      | inr o9 =>
        cases h
        obtain ⟨h1, h2⟩ := hF
        refine ⟨h1, fun β δ σ H hE => ?_⟩
        obtain ⟨β2, H2, e1, e2, e3⟩ := h2 β δ σ H hE
        refine ⟨β2, H2, ?_, e2, e3⟩
        rw [q_loop_s, e1]
      | inl g2 =>
        obtain ⟨⟨g1, l1, l2, l3⟩, h2⟩ := hF
        obtain ⟨⟨o1, o2, o3, o4, o5⟩, h4⟩ := ih g2 o h g1
        refine ⟨⟨o1, o2, Nat.le_trans l1 o3, Nat.le_trans l2 o4, Nat.le_trans l3 o5⟩, fun β δ σ H hE => ?_⟩
        obtain ⟨β2, H2, e1, e2, e3⟩ := h2 β δ σ H hE
        obtain ⟨β3, H3, f1, f2, f3⟩ := h4 β2 δ σ H2 e2
        refine ⟨β3, H3, ?_, f2, e3.tr f3⟩
        rw [q_loop_s, e1]
        exact f1
theorem q_frame {mtab : Nat → Nat → Option q_E} (hs : ∀ k pc x, mtab k pc = some x → q_Snd WU cl tyl GF τ mt (mt k) pc x) (hrn : ∀ k, q_RnB (mtab k)) (n : Nat) : ∀ d, q_FX (q_exec mt mtab n d) := by
  intro d
  induction d with
  | zero => intro k as h out e; cases e
  | succ d ih =>
    intro k as h out e ha hh
    have hw := q_exec_w e
    rw [q_exec_s hw] at e
    obtain ⟨h1, h2⟩ := q_frame_loop (k := k) ih (hs k) (hrn k) n _ out e ⟨q_args_ok as ha 0, fun v hv => (by cases hv), hh⟩
    refine ⟨h1, fun β δ σ H hE => ?_⟩
    obtain ⟨β2, H2, e1, e2, e3⟩ := h2 β δ σ H hE
    refine ⟨β2, H2, ?_, e2, e3⟩
    have hw2 : q_wd (as.map (q_v β)) ≤ (mt k).2.2.1 := by
      have q1 := q_wd_sl β as
      have q2 := q_wd_sl (fun a => a) (as.map (q_v β))
      have q3 : (as.map (q_v β)).map (q_v fun a => a) = as.map (q_v β) := by
        rw [List.map_map]
        exact List.map_congr_left fun v _ => by cases v <;> rfl
      rw [q3] at q2
      omega
    rw [q_exec_s hw2]
    have e9 : (0, lv_args 0 (as.map (q_v β)), ([] : List Value), H) = q_rg β (0, lv_args 0 as, [], h) H := by
      unfold q_rg
      rw [q_args_l]; rfl
    rw [e9]
    exact e1
end
end
