/-! J4_init_da8c8 -/
theorem q_s324_0 {TB : Nat → Option (Nat × Nat × (Nat → Int32))} {τ : Nat → Nat} : q_S9 TB τ q_m324 0 (.inl (q_st 1 (q_fal 0))) := q_aload_n dJ4_init_da8c8_0 rfl rfl
theorem q_s324_1 {TB : Nat → Option (Nat × Nat × (Nat → Int32))} {τ : Nat → Nat} : q_S9 TB τ q_m324 1 (.inl (q_st 3 (q_fk (.int 16)))) := q_bipush dJ4_init_da8c8_1 qk_b16 rfl
theorem q_s324_3 {TB : Nat → Option (Nat × Nat × (Nat → Int32))} {τ : Nat → Nat} : q_S9 TB τ q_m324 3 (.inr (.inr (.inr (.inr (6, q_fi 331 1, none))))) := ⟨q_callI' q_e331 dJ4_init_da8c8_3 rfl rfl (Nat.le_of_ble_eq_true rfl) rfl q_w1213 q_w1215 q_w1216 q_w1214 rfl (by decide +kernel), rfl⟩
theorem q_s324_6 {TB : Nat → Option (Nat × Nat × (Nat → Int32))} {τ : Nat → Nat} : q_S9 TB τ q_m324 6 (.inr (.inr (.inl q_rv))) := q_return dJ4_init_da8c8_6 rfl
def q_t324 (TB : Nat → Option (Nat × Nat × (Nat → Int32))) : Nat → Option q_E := q_nd 1 (q_nd 0 (q_lf 0 (.inl (q_st 1 (q_fal 0)))) (q_lf 1 (.inl (q_st 3 (q_fk (.int 16)))))) (q_nd 3 (q_lf 3 (.inr (.inr (.inr (.inr (6, q_fi 331 1, none)))))) (q_lf 6 (.inr (.inr (.inl q_rv)))))
theorem q_sm324 {TB : Nat → Option (Nat × Nat × (Nat → Int32))} {τ : Nat → Nat} : ∀ pc x, q_t324 TB pc = some x → q_S9 TB τ q_m324 pc x := q_nd_ok (q_nd_ok (q_lf_ok q_s324_0) (q_lf_ok q_s324_1)) (q_nd_ok (q_lf_ok q_s324_3) (q_lf_ok q_s324_6))
/-! J4_append_15ec4 -/
theorem q_s325_0 {TB : Nat → Option (Nat × Nat × (Nat → Int32))} {τ : Nat → Nat} : q_S9 TB τ q_m325 0 (.inl (q_st 1 (q_fal 0))) := q_aload_n dJ4_append_15ec4_0 rfl rfl
theorem q_s325_1 {TB : Nat → Option (Nat × Nat × (Nat → Int32))} {τ : Nat → Nat} : q_S9 TB τ q_m325 1 (.inl (q_st 2 (q_fal 1))) := q_aload_n dJ4_append_15ec4_1 rfl rfl
theorem q_s325_5 {TB : Nat → Option (Nat × Nat × (Nat → Int32))} {τ : Nat → Nat} : q_S9 TB τ q_m325 5 (.inl (q_st 6 q_fpop)) := q_pop dJ4_append_15ec4_5 rfl
theorem q_s325_6 {TB : Nat → Option (Nat × Nat × (Nat → Int32))} {τ : Nat → Nat} : q_S9 TB τ q_m325 6 (.inl (q_st 7 (q_fal 0))) := q_aload_n dJ4_append_15ec4_6 rfl rfl
theorem q_s325_7 {TB : Nat → Option (Nat × Nat × (Nat → Int32))} {τ : Nat → Nat} : q_S9 TB τ q_m325 7 (.inr (.inr (.inl q_ra))) := q_areturn dJ4_append_15ec4_7 rfl (Or.inl ⟨_, rfl⟩)
def q_t325 (TB : Nat → Option (Nat × Nat × (Nat → Int32))) : Nat → Option q_E := q_nd 1 (q_nd 0 (q_lf 0 (.inl (q_st 1 (q_fal 0)))) (q_lf 1 (.inl (q_st 2 (q_fal 1))))) (q_nd 5 (q_lf 5 (.inl (q_st 6 q_fpop))) (q_nd 6 (q_lf 6 (.inl (q_st 7 (q_fal 0)))) (q_lf 7 (.inr (.inr (.inl q_ra))))))
theorem q_sm325 {TB : Nat → Option (Nat × Nat × (Nat → Int32))} {τ : Nat → Nat} : ∀ pc x, q_t325 TB pc = some x → q_S9 TB τ q_m325 pc x := q_nd_ok (q_nd_ok (q_lf_ok q_s325_0) (q_lf_ok q_s325_1)) (q_nd_ok (q_lf_ok q_s325_5) (q_nd_ok (q_lf_ok q_s325_6) (q_lf_ok q_s325_7)))
/-! J4_append_cf468 -/
theorem q_s326_0 {TB : Nat → Option (Nat × Nat × (Nat → Int32))} {τ : Nat → Nat} : q_S9 TB τ q_m326 0 (.inl (q_st 1 (q_fal 0))) := q_aload_n dJ4_append_cf468_0 rfl rfl
theorem q_s326_1 {TB : Nat → Option (Nat × Nat × (Nat → Int32))} {τ : Nat → Nat} : q_S9 TB τ q_m326 1 (.inl (q_st 2 (q_fil 1))) := q_iload_n dJ4_append_cf468_1 rfl rfl
theorem q_s326_5 {TB : Nat → Option (Nat × Nat × (Nat → Int32))} {τ : Nat → Nat} : q_S9 TB τ q_m326 5 (.inl (q_st 6 q_fpop)) := q_pop dJ4_append_cf468_5 rfl
theorem q_s326_6 {TB : Nat → Option (Nat × Nat × (Nat → Int32))} {τ : Nat → Nat} : q_S9 TB τ q_m326 6 (.inl (q_st 7 (q_fal 0))) := q_aload_n dJ4_append_cf468_6 rfl rfl
theorem q_s326_7 {TB : Nat → Option (Nat × Nat × (Nat → Int32))} {τ : Nat → Nat} : q_S9 TB τ q_m326 7 (.inr (.inr (.inl q_ra))) := q_areturn dJ4_append_cf468_7 rfl (Or.inl ⟨_, rfl⟩)
def q_t326 (TB : Nat → Option (Nat × Nat × (Nat → Int32))) : Nat → Option q_E := q_nd 1 (q_nd 0 (q_lf 0 (.inl (q_st 1 (q_fal 0)))) (q_lf 1 (.inl (q_st 2 (q_fil 1))))) (q_nd 5 (q_lf 5 (.inl (q_st 6 q_fpop))) (q_nd 6 (q_lf 6 (.inl (q_st 7 (q_fal 0)))) (q_lf 7 (.inr (.inr (.inl q_ra))))))
theorem q_sm326 {TB : Nat → Option (Nat × Nat × (Nat → Int32))} {τ : Nat → Nat} : ∀ pc x, q_t326 TB pc = some x → q_S9 TB τ q_m326 pc x := q_nd_ok (q_nd_ok (q_lf_ok q_s326_0) (q_lf_ok q_s326_1)) (q_nd_ok (q_lf_ok q_s326_5) (q_nd_ok (q_lf_ok q_s326_6) (q_lf_ok q_s326_7)))
/-! J4_append_bf812 -/
theorem q_s327_0 {TB : Nat → Option (Nat × Nat × (Nat → Int32))} {τ : Nat → Nat} : q_S9 TB τ q_m327 0 (.inl (q_st 1 (q_fal 0))) := q_aload_n dJ4_append_bf812_0 rfl rfl
theorem q_s327_1 {TB : Nat → Option (Nat × Nat × (Nat → Int32))} {τ : Nat → Nat} : q_S9 TB τ q_m327 1 (.inl (q_st 2 (q_fil 1))) := q_iload_n dJ4_append_bf812_1 rfl rfl
theorem q_s327_5 {TB : Nat → Option (Nat × Nat × (Nat → Int32))} {τ : Nat → Nat} : q_S9 TB τ q_m327 5 (.inl (q_st 6 q_fpop)) := q_pop dJ4_append_bf812_5 rfl
theorem q_s327_6 {TB : Nat → Option (Nat × Nat × (Nat → Int32))} {τ : Nat → Nat} : q_S9 TB τ q_m327 6 (.inl (q_st 7 (q_fal 0))) := q_aload_n dJ4_append_bf812_6 rfl rfl
theorem q_s327_7 {TB : Nat → Option (Nat × Nat × (Nat → Int32))} {τ : Nat → Nat} : q_S9 TB τ q_m327 7 (.inr (.inr (.inl q_ra))) := q_areturn dJ4_append_bf812_7 rfl (Or.inl ⟨_, rfl⟩)
def q_t327 (TB : Nat → Option (Nat × Nat × (Nat → Int32))) : Nat → Option q_E := q_nd 1 (q_nd 0 (q_lf 0 (.inl (q_st 1 (q_fal 0)))) (q_lf 1 (.inl (q_st 2 (q_fil 1))))) (q_nd 5 (q_lf 5 (.inl (q_st 6 q_fpop))) (q_nd 6 (q_lf 6 (.inl (q_st 7 (q_fal 0)))) (q_lf 7 (.inr (.inr (.inl q_ra))))))
theorem q_sm327 {TB : Nat → Option (Nat × Nat × (Nat → Int32))} {τ : Nat → Nat} : ∀ pc x, q_t327 TB pc = some x → q_S9 TB τ q_m327 pc x := q_nd_ok (q_nd_ok (q_lf_ok q_s327_0) (q_lf_ok q_s327_1)) (q_nd_ok (q_lf_ok q_s327_5) (q_nd_ok (q_lf_ok q_s327_6) (q_lf_ok q_s327_7)))
/-! J4_charAt_5068e -/
theorem q_s328_0 {TB : Nat → Option (Nat × Nat × (Nat → Int32))} {τ : Nat → Nat} : q_S9 TB τ q_m328 0 (.inl (q_st 1 (q_fal 0))) := q_aload_n dJ4_charAt_5068e_0 rfl rfl
theorem q_s328_1 {TB : Nat → Option (Nat × Nat × (Nat → Int32))} {τ : Nat → Nat} : q_S9 TB τ q_m328 1 (.inl (q_st 2 (q_fil 1))) := q_iload_n dJ4_charAt_5068e_1 rfl rfl
theorem q_s328_5 {TB : Nat → Option (Nat × Nat × (Nat → Int32))} {τ : Nat → Nat} : q_S9 TB τ q_m328 5 (.inr (.inr (.inl q_rc))) := q_creturn dJ4_charAt_5068e_5 rfl
def q_t328 (TB : Nat → Option (Nat × Nat × (Nat → Int32))) : Nat → Option q_E := q_nd 0 (q_lf 0 (.inl (q_st 1 (q_fal 0)))) (q_nd 1 (q_lf 1 (.inl (q_st 2 (q_fil 1)))) (q_lf 5 (.inr (.inr (.inl q_rc)))))
theorem q_sm328 {TB : Nat → Option (Nat × Nat × (Nat → Int32))} {τ : Nat → Nat} : ∀ pc x, q_t328 TB pc = some x → q_S9 TB τ q_m328 pc x := q_nd_ok (q_lf_ok q_s328_0) (q_nd_ok (q_lf_ok q_s328_1) (q_lf_ok q_s328_5))
/-! J4_setLength_d00df -/
theorem q_s329_0 {TB : Nat → Option (Nat × Nat × (Nat → Int32))} {τ : Nat → Nat} : q_S9 TB τ q_m329 0 (.inl (q_st 1 (q_fal 0))) := q_aload_n dJ4_setLength_d00df_0 rfl rfl
theorem q_s329_1 {TB : Nat → Option (Nat × Nat × (Nat → Int32))} {τ : Nat → Nat} : q_S9 TB τ q_m329 1 (.inl (q_st 2 (q_fil 1))) := q_iload_n dJ4_setLength_d00df_1 rfl rfl
theorem q_s329_5 {TB : Nat → Option (Nat × Nat × (Nat → Int32))} {τ : Nat → Nat} : q_S9 TB τ q_m329 5 (.inr (.inr (.inl q_rv))) := q_return dJ4_setLength_d00df_5 rfl
def q_t329 (TB : Nat → Option (Nat × Nat × (Nat → Int32))) : Nat → Option q_E := q_nd 0 (q_lf 0 (.inl (q_st 1 (q_fal 0)))) (q_nd 1 (q_lf 1 (.inl (q_st 2 (q_fil 1)))) (q_lf 5 (.inr (.inr (.inl q_rv)))))
theorem q_sm329 {TB : Nat → Option (Nat × Nat × (Nat → Int32))} {τ : Nat → Nat} : ∀ pc x, q_t329 TB pc = some x → q_S9 TB τ q_m329 pc x := q_nd_ok (q_lf_ok q_s329_0) (q_nd_ok (q_lf_ok q_s329_1) (q_lf_ok q_s329_5))
/-! J4_length_8abf5 -/
theorem q_s330_0 {TB : Nat → Option (Nat × Nat × (Nat → Int32))} {τ : Nat → Nat} : q_S9 TB τ q_m330 0 (.inl (q_st 1 (q_fal 0))) := q_aload_n dJ4_length_8abf5_0 rfl rfl
theorem q_s330_4 {TB : Nat → Option (Nat × Nat × (Nat → Int32))} {τ : Nat → Nat} : q_S9 TB τ q_m330 4 (.inr (.inr (.inl q_ri))) := q_ireturn dJ4_length_8abf5_4 rfl
def q_t330 (TB : Nat → Option (Nat × Nat × (Nat → Int32))) : Nat → Option q_E := q_nd 0 (q_lf 0 (.inl (q_st 1 (q_fal 0)))) (q_lf 4 (.inr (.inr (.inl q_ri))))
theorem q_sm330 {TB : Nat → Option (Nat × Nat × (Nat → Int32))} {τ : Nat → Nat} : ∀ pc x, q_t330 TB pc = some x → q_S9 TB τ q_m330 pc x := q_nd_ok (q_lf_ok q_s330_0) (q_lf_ok q_s330_4)
