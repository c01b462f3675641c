/-! java/util/ArrayList.add(Ljava/lang/Object;)Z -/
theorem dd_al_add1_0 : decode prog_20_method_25_code 0 = .ok (.aload_n 0, 1) := by decide +kernel
theorem dd_al_add1_1 : decode prog_20_method_25_code 1 = .ok (.dup, 1) := by decide +kernel
theorem dd_al_add1_2 : decode prog_20_method_25_code 2 = .ok (.getfield 63, 3) := by decide +kernel
theorem dd_al_add1_5 : decode prog_20_method_25_code 5 = .ok (.iconst 1, 1) := by decide +kernel
theorem dd_al_add1_6 : decode prog_20_method_25_code 6 = .ok (.iadd, 1) := by decide +kernel
theorem dd_al_add1_7 : decode prog_20_method_25_code 7 = .ok (.putfield 63, 3) := by decide +kernel
theorem dd_al_add1_10 : decode prog_20_method_25_code 10 = .ok (.aload_n 0, 1) := by decide +kernel
theorem dd_al_add1_11 : decode prog_20_method_25_code 11 = .ok (.aload_n 1, 1) := by decide +kernel
theorem dd_al_add1_12 : decode prog_20_method_25_code 12 = .ok (.aload_n 0, 1) := by decide +kernel
theorem dd_al_add1_13 : decode prog_20_method_25_code 13 = .ok (.getfield 9, 3) := by decide +kernel
theorem dd_al_add1_16 : decode prog_20_method_25_code 16 = .ok (.aload_n 0, 1) := by decide +kernel
theorem dd_al_add1_17 : decode prog_20_method_25_code 17 = .ok (.getfield 48, 3) := by decide +kernel
theorem dd_al_add1_20 : decode prog_20_method_25_code 20 = .ok (.invokevirtual 131, 3) := by decide +kernel
theorem dd_al_add1_23 : decode prog_20_method_25_code 23 = .ok (.iconst 1, 1) := by decide +kernel
theorem dd_al_add1_24 : decode prog_20_method_25_code 24 = .ok (.ireturn, 1) := by decide +kernel
set_option maxHeartbeats 4000000 in
set_option maxRecDepth 100000 in
theorem kc_al_add1 (l : Launch) (D : va_G) (ac : Nat → ClassId) (a0 : Nat) (gl : gl_T) (v0 : Option Nat) (v1 : Option Nat) (st : st_S) (rF : Int32) (stF : st_S) (iT jT : Nat) (h : al_add1 gl v0 v1 st = some (rF, stF, iT, jT)) :
    ct_ l ⟨"java/util/ArrayList", "add", "(Ljava/lang/Object;)Z"⟩ (Cond.code ⟨"java/util/ArrayList", "add", "(Ljava/lang/Object;)Z"⟩ prog_20_method_25_code 2 (Option.some FieldType.boolean) :: tb_) 6 170 D cl_ ac a0 (kn_ D ac a0 gl) [(va_rf v0), (va_rf v1)] st (vb_i rF) stF iT jT := by
  refine ct_of (kn_ok D ac a0 gl) (by decide +kernel) (by simp [rf_cat, ic_cat]) (by simp) ?_
  intro p e s m args below meth c ls X hw hKs hlk hret hnm hl
  unfold al_add1 at h
  have hl : lh_ ls 2 [(0, (va_rf v0)), (1, (va_rf v1))] := hl
  obtain ⟨z0, hz0⟩ : ∃ z : Nat, 0 = z := ⟨0, rfl⟩
  obtain ⟨z1, hz1⟩ : ∃ z : Nat, 0 = z := ⟨0, rfl⟩
  refine W.cs hz0 hz1 ?_
  have hci : z0 + iT = iT := by omega
  have hcj : z1 + jT = jT := by omega
  refine rr_aldn X dd_al_add1_0 rfl (lv_at hl.1 0 rfl) ?_
  refine lv_dup X.1 X.2.1 dd_al_add1_1 (rf_cat _) ?_
  obtain ⟨t1, ht1, h⟩ := st_g_some h
  refine rr_geti X hw ff_6_2 ht1 tw_164 (Or.inr tw_163) dd_al_add1_2 ?_
  refine lv_iconst (v := (1 : Int32)) X.1 X.2.1 dd_al_add1_5 (by decide) ?_
  refine lv_iadd X.1 X.2.1 dd_al_add1_6 ?_
  obtain ⟨t2, hp7, h⟩ := st_w_some h
  refine rr_put (ty := .int) X hw ff_6_2 hp7 tw_164 (Or.inr tw_163) (by decide +kernel) rfl rfl dd_al_add1_7 (fun H locs hw => ?_)
  refine rr_aldn X dd_al_add1_10 rfl (lv_at hl.1 0 rfl) ?_
  refine rr_aldn X dd_al_add1_11 rfl (lv_at hl.1 1 rfl) ?_
  refine rr_aldn X dd_al_add1_12 rfl (lv_at hl.1 0 rfl) ?_
  obtain ⟨t3, ht3, h⟩ := st_g_some h
  refine rr_getq X hw ff_6_0 ht3 tw_26 (Or.inl rfl) dd_al_add1_13 ?_
  refine rr_aldn X dd_al_add1_16 rfl (lv_at hl.1 0 rfl) ?_
  obtain ⟨t4, ht4, h⟩ := st_g_some h
  refine rr_geti X hw ff_6_1 ht4 tw_114 (Or.inl rfl) dd_al_add1_17 ?_
  obtain ⟨t13, ht13, h⟩ := st_g_some h
  obtain ⟨t5, t6, t7, t8, t9, t10, ht5, h, ei, ej⟩ := st_b_some h
  refine rr_callV (n := 3) (As := [(va_rf v1), (va_rf t3), (.int t4)]) (rest := []) X hw (kn_ok D ac a0 gl) hKs (kc_al_add3 l D ac a0 gl v0 v1 t3 t4 _ _ _ _ _ ht5) tb_good tw_159 tw_33 tw_160 tw_161 se_3 ht13 (by decide +kernel) rfl (show 5 + 1 ≤ _ ∧ 8 + (4 + 11) + 147 ≤ _ from ⟨Nat.le_of_ble_eq_true rfl, Nat.le_of_ble_eq_true rfl⟩) (show z0 + t7 ≤ iT ∧ z1 + t8 ≤ jT from ⟨ar_1 hci ei, ar_1 hcj ej⟩) hl.1.1 (by simp [rf_cat, ic_cat]) rfl dd_al_add1_20 (sk := []) rfl (fun H locs hw => ?_)
  have hci : z0 + t7 + t9 = iT := ar_2 hci ei
  have hcj : z1 + t8 + t10 = jT := ar_2 hcj ej
  clear ei ej
  generalize z0 + t7 = t11 at hci ⊢
  generalize z1 + t8 = t12 at hcj ⊢
  refine lv_iconst (v := (1 : Int32)) X.1 X.2.1 dd_al_add1_23 (by decide) ?_
  obtain ⟨rfl, rfl, rfl, rfl⟩ := st_r_some h
  exact rr_iret X hw hlk hret (by decide) hci hcj dd_al_add1_24
/-! PromiseVats.waitAt(LPromiseVats$Promise;LPromiseVats$Call;)V -/
theorem dd_xP_waitAt_0 : decode prog_1_method_30_code 0 = .ok (.aload_n 1, 1) := by decide +kernel
theorem dd_xP_waitAt_1 : decode prog_1_method_30_code 1 = .ok (.getfield 285, 3) := by decide +kernel
theorem dd_xP_waitAt_4 : decode prog_1_method_30_code 4 = .ok (.invokevirtual 106, 3) := by decide +kernel
theorem dd_xP_waitAt_7 : decode prog_1_method_30_code 7 = .ok (.bipush 8, 2) := by decide +kernel
theorem dd_xP_waitAt_9 : decode prog_1_method_30_code 9 = .ok (.if_icmp .lt 11, 3) := by decide +kernel
theorem dd_xP_waitAt_12 : decode prog_1_method_30_code 12 = .ok (.aload_n 0, 1) := by decide +kernel
theorem dd_xP_waitAt_13 : decode prog_1_method_30_code 13 = .ok (.aload_n 2, 1) := by decide +kernel
theorem dd_xP_waitAt_14 : decode prog_1_method_30_code 14 = .ok (.invokevirtual 277, 3) := by decide +kernel
theorem dd_xP_waitAt_17 : decode prog_1_method_30_code 17 = .ok (.goto 12, 3) := by decide +kernel
theorem dd_xP_waitAt_20 : decode prog_1_method_30_code 20 = .ok (.aload_n 1, 1) := by decide +kernel
theorem dd_xP_waitAt_21 : decode prog_1_method_30_code 21 = .ok (.getfield 285, 3) := by decide +kernel
theorem dd_xP_waitAt_24 : decode prog_1_method_30_code 24 = .ok (.aload_n 2, 1) := by decide +kernel
theorem dd_xP_waitAt_25 : decode prog_1_method_30_code 25 = .ok (.invokevirtual 281, 3) := by decide +kernel
theorem dd_xP_waitAt_28 : decode prog_1_method_30_code 28 = .ok (.pop, 1) := by decide +kernel
theorem dd_xP_waitAt_29 : decode prog_1_method_30_code 29 = .ok (.return_, 1) := by decide +kernel
set_option maxHeartbeats 4000000 in
set_option maxRecDepth 100000 in
theorem kc_xP_waitAt (l : Launch) (D : va_G) (ac : Nat → ClassId) (a0 : Nat) (gl : gl_T) (v0 : Option Nat) (v1 : Option Nat) (v2 : Option Nat) (st : st_S) (rF : Unit) (stF : st_S) (iT jT : Nat) (h : xP_waitAt gl v0 v1 v2 st = some (rF, stF, iT, jT)) :
    ct_ l ⟨"PromiseVats", "waitAt", "(LPromiseVats$Promise;LPromiseVats$Call;)V"⟩ (Cond.code ⟨"PromiseVats", "waitAt", "(LPromiseVats$Promise;LPromiseVats$Call;)V"⟩ prog_1_method_30_code 3 (Option.none : Option FieldType) :: tb_) 7 191 D cl_ ac a0 (kn_ D ac a0 gl) [(va_rf v0), (va_rf v1), (va_rf v2)] st (vb_u rF) stF iT jT := by
  refine ct_of (kn_ok D ac a0 gl) (plainFor_of_name (by decide +kernel)) (by simp [rf_cat, ic_cat]) (by simp) ?_
  intro p e s m args below meth c ls X hw hKs hlk hret hnm hl
  unfold xP_waitAt at h
  have hl : lh_ ls 3 [(0, (va_rf v0)), (1, (va_rf v1)), (2, (va_rf v2))] := hl
  obtain ⟨z0, hz0⟩ : ∃ z : Nat, 0 = z := ⟨0, rfl⟩
  obtain ⟨z1, hz1⟩ : ∃ z : Nat, 0 = z := ⟨0, rfl⟩
  refine W.cs hz0 hz1 ?_
  have hci : z0 + iT = iT := by omega
  have hcj : z1 + jT = jT := by omega
  refine rr_aldn X dd_xP_waitAt_0 rfl (lv_at hl.1 1 rfl) ?_
  obtain ⟨t1, ht1, h⟩ := st_g_some h
  refine rr_getq X hw ff_4_2 ht1 tw_169 (Or.inl rfl) dd_xP_waitAt_1 ?_
  obtain ⟨t29, ht29, h⟩ := st_g_some h
  obtain ⟨t2, t3, t4, t5, t6, t7, ht2, h, ei, ej⟩ := st_b_some h
  refine rr_callV (n := 0) (As := []) (rest := []) X hw (kn_ok D ac a0 gl) hKs (kc_al_size l D ac a0 gl t1 _ _ _ _ _ ht2) tb_good tw_174 tw_33 tw_175 tw_176 se_6 ht29 (by decide +kernel) rfl (show 0 + 1 ≤ _ ∧ 8 + (1 + 11) + 0 ≤ _ from ⟨Nat.le_of_ble_eq_true rfl, Nat.le_of_ble_eq_true rfl⟩) (show z0 + t4 ≤ iT ∧ z1 + t5 ≤ jT from ⟨ar_1 hci ei, ar_1 hcj ej⟩) hl.1.1 (by simp [rf_cat, ic_cat]) rfl dd_xP_waitAt_4 (sk := [(.int t2)]) rfl (fun H locs hw => ?_)
  have hci : z0 + t4 + t6 = iT := ar_2 hci ei
  have hcj : z1 + t5 + t7 = jT := ar_2 hcj ej
  clear ei ej
  generalize z0 + t4 = t8 at hci ⊢
  generalize z1 + t5 = t9 at hcj ⊢
  refine lv_bipush (v := (8 : Int32)) X.1 X.2.1 dd_xP_waitAt_7 (by decide) ?_
  by_cases hc9 : t2 < (8 : Int32)
  · rw [if_pos hc9] at h
    refine lv_icmp_lt (tgt := 20) X.1 X.2.1 dd_xP_waitAt_9 (by decide) (fun _ => ?_) (fun z => absurd hc9 z)
    refine rr_aldn X dd_xP_waitAt_20 rfl (lv_at hl.1 1 rfl) ?_
    obtain ⟨t10, ht10, h⟩ := st_g_some h
    refine rr_getq X hw ff_4_2 ht10 tw_169 (Or.inl rfl) dd_xP_waitAt_21 ?_
    refine rr_aldn X dd_xP_waitAt_24 rfl (lv_at hl.1 2 rfl) ?_
    obtain ⟨t19, ht19, h⟩ := st_g_some h
    obtain ⟨t11, t12, t13, t14, t15, t16, ht11, h, ei, ej⟩ := st_b_some h
    refine rr_callV (n := 1) (As := [(va_rf v2)]) (rest := []) X hw (kn_ok D ac a0 gl) hKs (kc_al_add1 l D ac a0 gl t10 v2 _ _ _ _ _ ht11) tb_good tw_165 tw_33 tw_166 tw_167 se_4 ht19 (by decide +kernel) rfl (show 6 + 1 ≤ _ ∧ 8 + (2 + 11) + 170 ≤ _ from ⟨Nat.le_of_ble_eq_true rfl, Nat.le_of_ble_eq_true rfl⟩) (show t8 + t13 ≤ iT ∧ t9 + t14 ≤ jT from ⟨ar_1 hci ei, ar_1 hcj ej⟩) hl.1.1 (by simp [rf_cat, ic_cat]) rfl dd_xP_waitAt_25 (sk := [(.int t11)]) rfl (fun H locs hw => ?_)
    have hci : t8 + t13 + t15 = iT := ar_2 hci ei
    have hcj : t9 + t14 + t16 = jT := ar_2 hcj ej
    clear ei ej
    generalize t8 + t13 = t17 at hci ⊢
    generalize t9 + t14 = t18 at hcj ⊢
    refine lv_pop X.1 X.2.1 dd_xP_waitAt_28 rfl ?_
    obtain ⟨rfl, rfl, rfl, rfl⟩ := st_r_some h
    exact rr_vret X hw hlk hret hci hcj dd_xP_waitAt_29
  · rw [if_neg hc9] at h
    refine lv_icmp_lt (tgt := 20) X.1 X.2.1 dd_xP_waitAt_9 (by decide) (fun z => absurd z hc9) (fun _ => ?_)
    refine rr_aldn X dd_xP_waitAt_12 rfl (lv_at hl.1 0 rfl) ?_
    refine rr_aldn X dd_xP_waitAt_13 rfl (lv_at hl.1 2 rfl) ?_
    obtain ⟨t28, ht28, h⟩ := st_g_some h
    obtain ⟨t20, t21, t22, t23, t24, t25, ht20, h, ei, ej⟩ := st_b_some h
    refine rr_callV (n := 1) (As := [(va_rf v2)]) (rest := []) X hw (kn_ok D ac a0 gl) hKs (kc_xP_lose l D ac a0 gl v0 v2 _ _ _ _ _ ht20) tb_good tw_170 tw_91 tw_171 tw_172 se_5 ht28 (by decide +kernel) rfl (show 0 + 1 ≤ _ ∧ 8 + (2 + 11) + 0 ≤ _ from ⟨Nat.le_of_ble_eq_true rfl, Nat.le_of_ble_eq_true rfl⟩) (show t8 + t22 ≤ iT ∧ t9 + t23 ≤ jT from ⟨ar_1 hci ei, ar_1 hcj ej⟩) hl.1.1 (by simp [rf_cat, ic_cat]) rfl dd_xP_waitAt_14 (sk := []) rfl (fun H locs hw => ?_)
    have hci : t8 + t22 + t24 = iT := ar_2 hci ei
    have hcj : t9 + t23 + t25 = jT := ar_2 hcj ej
    clear ei ej
    generalize t8 + t22 = t26 at hci ⊢
    generalize t9 + t23 = t27 at hcj ⊢
    refine lv_goto (tgt := 29) X.1 X.2.1 dd_xP_waitAt_17 (by decide) ?_
    obtain ⟨rfl, rfl, rfl, rfl⟩ := st_r_some h
    exact rr_vret X hw hlk hret hci hcj dd_xP_waitAt_29
/-! PromiseVats$Message.<init>(ILPromiseVats$Entity;LPromiseVats$Entity;I)V -/
theorem dd_xM_init_0 : decode prog_5_method_1_code 0 = .ok (.aload_n 0, 1) := by decide +kernel
theorem dd_xM_init_1 : decode prog_5_method_1_code 1 = .ok (.invokespecial 1, 3) := by decide +kernel
theorem dd_xM_init_4 : decode prog_5_method_1_code 4 = .ok (.aload_n 0, 1) := by decide +kernel
theorem dd_xM_init_5 : decode prog_5_method_1_code 5 = .ok (.iload_n 1, 1) := by decide +kernel
theorem dd_xM_init_6 : decode prog_5_method_1_code 6 = .ok (.putfield 7, 3) := by decide +kernel
theorem dd_xM_init_9 : decode prog_5_method_1_code 9 = .ok (.aload_n 0, 1) := by decide +kernel
theorem dd_xM_init_10 : decode prog_5_method_1_code 10 = .ok (.aload_n 2, 1) := by decide +kernel
theorem dd_xM_init_11 : decode prog_5_method_1_code 11 = .ok (.putfield 13, 3) := by decide +kernel
theorem dd_xM_init_14 : decode prog_5_method_1_code 14 = .ok (.aload_n 0, 1) := by decide +kernel
theorem dd_xM_init_15 : decode prog_5_method_1_code 15 = .ok (.aload_n 3, 1) := by decide +kernel
theorem dd_xM_init_16 : decode prog_5_method_1_code 16 = .ok (.putfield 17, 3) := by decide +kernel
theorem dd_xM_init_19 : decode prog_5_method_1_code 19 = .ok (.aload_n 0, 1) := by decide +kernel
theorem dd_xM_init_20 : decode prog_5_method_1_code 20 = .ok (.iload 4, 2) := by decide +kernel
theorem dd_xM_init_22 : decode prog_5_method_1_code 22 = .ok (.putfield 20, 3) := by decide +kernel
theorem dd_xM_init_25 : decode prog_5_method_1_code 25 = .ok (.return_, 1) := by decide +kernel
set_option maxHeartbeats 4000000 in
set_option maxRecDepth 100000 in
theorem kc_xM_init (l : Launch) (D : va_G) (ac : Nat → ClassId) (a0 : Nat) (gl : gl_T) (v0 : Option Nat) (v1 : Int32) (v2 : Option Nat) (v3 : Option Nat) (v4 : Int32) (st : st_S) (rF : Unit) (stF : st_S) (iT jT : Nat) (h : xM_init gl v0 v1 v2 v3 v4 st = some (rF, stF, iT, jT)) :
    ct_ l ⟨"PromiseVats$Message", "<init>", "(ILPromiseVats$Entity;LPromiseVats$Entity;I)V"⟩ (Cond.code ⟨"PromiseVats$Message", "<init>", "(ILPromiseVats$Entity;LPromiseVats$Entity;I)V"⟩ prog_5_method_1_code 5 (Option.none : Option FieldType) :: tb_) 1 12 D cl_ ac a0 (kn_ D ac a0 gl) [(va_rf v0), (.int v1), (va_rf v2), (va_rf v3), (.int v4)] st (vb_u rF) stF iT jT := by
  refine ct_of (kn_ok D ac a0 gl) (plainFor_of_name (by decide +kernel)) (by simp [rf_cat, ic_cat]) (by simp) ?_
  intro p e s m args below meth c ls X hw hKs hlk hret hnm hl
  unfold xM_init at h
  have hl : lh_ ls 5 [(0, (va_rf v0)), (1, (.int v1)), (2, (va_rf v2)), (3, (va_rf v3)), (4, (.int v4))] := hl
  obtain ⟨z0, hz0⟩ : ∃ z : Nat, 0 = z := ⟨0, rfl⟩
  obtain ⟨z1, hz1⟩ : ∃ z : Nat, 0 = z := ⟨0, rfl⟩
  refine W.cs hz0 hz1 ?_
  have hci : z0 + iT = iT := by omega
  have hcj : z1 + jT = jT := by omega
  refine rr_aldn X dd_xM_init_0 rfl (lv_at hl.1 0 rfl) ?_
  obtain ⟨t1, ht1, h⟩ := st_g_some h
  refine rr_objI X ht1 tw_182 tw_1 tw_2 hl.1.1 (Nat.le_of_ble_eq_true rfl) (by simp [rf_cat, ic_cat]) dd_xM_init_1 ?_
  refine rr_aldn X dd_xM_init_4 rfl (lv_at hl.1 0 rfl) ?_
  refine lv_iload_n X.1 X.2.1 dd_xM_init_5 rfl (lv_at hl.1 1 rfl) ?_
  obtain ⟨t2, hp6, h⟩ := st_w_some h
  refine rr_putF (ty := .int) X hw ff_9_0 hp6 tw_181 hnm (by decide +kernel) rfl rfl dd_xM_init_6 (fun H locs hw => ?_)
  refine rr_aldn X dd_xM_init_9 rfl (lv_at hl.1 0 rfl) ?_
  refine rr_aldn X dd_xM_init_10 rfl (lv_at hl.1 2 rfl) ?_
  obtain ⟨t3, hp11, h⟩ := st_w_some h
  refine rr_putF (ty := .object "PromiseVats$Entity") X hw ff_9_1 hp11 tw_180 hnm (by decide +kernel) (rf_nar _ _) (rf_fit _ _) dd_xM_init_11 (fun H locs hw => ?_)
  refine rr_aldn X dd_xM_init_14 rfl (lv_at hl.1 0 rfl) ?_
  refine rr_aldn X dd_xM_init_15 rfl (lv_at hl.1 3 rfl) ?_
  obtain ⟨t4, hp16, h⟩ := st_w_some h
  refine rr_putF (ty := .object "PromiseVats$Entity") X hw ff_9_2 hp16 tw_179 hnm (by decide +kernel) (rf_nar _ _) (rf_fit _ _) dd_xM_init_16 (fun H locs hw => ?_)
  refine rr_aldn X dd_xM_init_19 rfl (lv_at hl.1 0 rfl) ?_
  refine lv_iload X.1 X.2.1 dd_xM_init_20 (lv_at hl.1 4 rfl) ?_
  obtain ⟨t5, hp22, h⟩ := st_w_some h
  refine rr_putF (ty := .int) X hw ff_9_3 hp22 tw_178 hnm (by decide +kernel) rfl rfl dd_xM_init_22 (fun H locs hw => ?_)
  obtain ⟨rfl, rfl, rfl, rfl⟩ := st_r_some h
  exact rr_vret X hw hlk hret hci hcj dd_xM_init_25
/-! PromiseVats.post(IILPromiseVats$Message;)V -/
theorem dd_xP_post_0 : decode prog_1_method_38_code 0 = .ok (.aload_n 0, 1) := by decide +kernel
theorem dd_xP_post_1 : decode prog_1_method_38_code 1 = .ok (.getfield 20, 3) := by decide +kernel
theorem dd_xP_post_4 : decode prog_1_method_38_code 4 = .ok (.iload_n 1, 1) := by decide +kernel
theorem dd_xP_post_5 : decode prog_1_method_38_code 5 = .ok (.aaload, 1) := by decide +kernel
theorem dd_xP_post_6 : decode prog_1_method_38_code 6 = .ok (.getfield 168, 3) := by decide +kernel
theorem dd_xP_post_9 : decode prog_1_method_38_code 9 = .ok (.iload_n 2, 1) := by decide +kernel
theorem dd_xP_post_10 : decode prog_1_method_38_code 10 = .ok (.aaload, 1) := by decide +kernel
theorem dd_xP_post_11 : decode prog_1_method_38_code 11 = .ok (.getfield 172, 3) := by decide +kernel
theorem dd_xP_post_14 : decode prog_1_method_38_code 14 = .ok (.aload_n 3, 1) := by decide +kernel
theorem dd_xP_post_15 : decode prog_1_method_38_code 15 = .ok (.invokevirtual 281, 3) := by decide +kernel
theorem dd_xP_post_18 : decode prog_1_method_38_code 18 = .ok (.pop, 1) := by decide +kernel
theorem dd_xP_post_19 : decode prog_1_method_38_code 19 = .ok (.return_, 1) := by decide +kernel
set_option maxHeartbeats 4000000 in
set_option maxRecDepth 100000 in
theorem kc_xP_post (l : Launch) (D : va_G) (ac : Nat → ClassId) (a0 : Nat) (gl : gl_T) (v0 : Option Nat) (v1 : Int32) (v2 : Int32) (v3 : Option Nat) (st : st_S) (rF : Unit) (stF : st_S) (iT jT : Nat) (h : xP_post gl v0 v1 v2 v3 st = some (rF, stF, iT, jT)) :
    ct_ l ⟨"PromiseVats", "post", "(IILPromiseVats$Message;)V"⟩ (Cond.code ⟨"PromiseVats", "post", "(IILPromiseVats$Message;)V"⟩ prog_1_method_38_code 4 (Option.none : Option FieldType) :: tb_) 7 191 D cl_ ac a0 (kn_ D ac a0 gl) [(va_rf v0), (.int v1), (.int v2), (va_rf v3)] st (vb_u rF) stF iT jT := by
  refine ct_of (kn_ok D ac a0 gl) (plainFor_of_name (by decide +kernel)) (by simp [rf_cat, ic_cat]) (by simp) ?_
  intro p e s m args below meth c ls X hw hKs hlk hret hnm hl
  unfold xP_post at h
  have hl : lh_ ls 4 [(0, (va_rf v0)), (1, (.int v1)), (2, (.int v2)), (3, (va_rf v3))] := hl
  obtain ⟨z0, hz0⟩ : ∃ z : Nat, 0 = z := ⟨0, rfl⟩
  obtain ⟨z1, hz1⟩ : ∃ z : Nat, 0 = z := ⟨0, rfl⟩
  refine W.cs hz0 hz1 ?_
  have hci : z0 + iT = iT := by omega
  have hcj : z1 + jT = jT := by omega
  refine rr_aldn X dd_xP_post_0 rfl (lv_at hl.1 0 rfl) ?_
  obtain ⟨t1, ht1, h⟩ := st_g_some h
  refine rr_getq X hw ff_0_0 ht1 tw_66 (Or.inl rfl) dd_xP_post_1 ?_
  refine lv_iload_n X.1 X.2.1 dd_xP_post_4 rfl (lv_at hl.1 1 rfl) ?_
  obtain ⟨t2, ht2, h⟩ := st_g_some h
  refine rr_aald X hw (tq_4 ac) ht2 dd_xP_post_5 ?_
  obtain ⟨t3, ht3, h⟩ := st_g_some h
  refine rr_getq X hw ff_5_2 ht3 tw_184 (Or.inl rfl) dd_xP_post_6 ?_
  refine lv_iload_n X.1 X.2.1 dd_xP_post_9 rfl (lv_at hl.1 2 rfl) ?_
  obtain ⟨t4, ht4, h⟩ := st_g_some h
  refine rr_aald X hw (tq_8 ac) ht4 dd_xP_post_10 ?_
  obtain ⟨t5, ht5, h⟩ := st_g_some h
  refine rr_getq X hw ff_7_0 ht5 tw_183 (Or.inl rfl) dd_xP_post_11 ?_
  refine rr_aldn X dd_xP_post_14 rfl (lv_at hl.1 3 rfl) ?_
  obtain ⟨t14, ht14, h⟩ := st_g_some h
  obtain ⟨t6, t7, t8, t9, t10, t11, ht6, h, ei, ej⟩ := st_b_some h
  refine rr_callV (n := 1) (As := [(va_rf v3)]) (rest := []) X hw (kn_ok D ac a0 gl) hKs (kc_al_add1 l D ac a0 gl t5 v3 _ _ _ _ _ ht6) tb_good tw_165 tw_33 tw_166 tw_167 se_4 ht14 (by decide +kernel) rfl (show 6 + 1 ≤ _ ∧ 8 + (2 + 11) + 170 ≤ _ from ⟨Nat.le_of_ble_eq_true rfl, Nat.le_of_ble_eq_true rfl⟩) (show z0 + t8 ≤ iT ∧ z1 + t9 ≤ jT from ⟨ar_1 hci ei, ar_1 hcj ej⟩) hl.1.1 (by simp [rf_cat, ic_cat]) rfl dd_xP_post_15 (sk := [(.int t6)]) rfl (fun H locs hw => ?_)
  have hci : z0 + t8 + t10 = iT := ar_2 hci ei
  have hcj : z1 + t9 + t11 = jT := ar_2 hcj ej
  clear ei ej
  generalize z0 + t8 = t12 at hci ⊢
  generalize z1 + t9 = t13 at hcj ⊢
  refine lv_pop X.1 X.2.1 dd_xP_post_18 rfl ?_
  obtain ⟨rfl, rfl, rfl, rfl⟩ := st_r_some h
  exact rr_vret X hw hlk hret hci hcj dd_xP_post_19
/-! PromiseVats.packArgument(LPromiseVats$Entity;II)V -/
theorem dd_xP_packArgument_0 : decode prog_1_method_36_code 0 = .ok (.aload_n 1, 1) := by decide +kernel
theorem dd_xP_packArgument_1 : decode prog_1_method_36_code 1 = .ok (.ifnonnull 4, 3) := by decide +kernel
theorem dd_xP_packArgument_4 : decode prog_1_method_36_code 4 = .ok (.return_, 1) := by decide +kernel
theorem dd_xP_packArgument_5 : decode prog_1_method_36_code 5 = .ok (.aload_n 1, 1) := by decide +kernel
theorem dd_xP_packArgument_6 : decode prog_1_method_36_code 6 = .ok (.getfield 219, 3) := by decide +kernel
theorem dd_xP_packArgument_9 : decode prog_1_method_36_code 9 = .ok (.iload_n 2, 1) := by decide +kernel
theorem dd_xP_packArgument_10 : decode prog_1_method_36_code 10 = .ok (.if_icmp .ne 16, 3) := by decide +kernel
theorem dd_xP_packArgument_13 : decode prog_1_method_36_code 13 = .ok (.aload_n 1, 1) := by decide +kernel
theorem dd_xP_packArgument_14 : decode prog_1_method_36_code 14 = .ok (.getfield 218, 3) := by decide +kernel
theorem dd_xP_packArgument_17 : decode prog_1_method_36_code 17 = .ok (.iload_n 3, 1) := by decide +kernel
theorem dd_xP_packArgument_18 : decode prog_1_method_36_code 18 = .ok (.dup2, 1) := by decide +kernel
theorem dd_xP_packArgument_19 : decode prog_1_method_36_code 19 = .ok (.iaload, 1) := by decide +kernel
theorem dd_xP_packArgument_20 : decode prog_1_method_36_code 20 = .ok (.iconst 1, 1) := by decide +kernel
theorem dd_xP_packArgument_21 : decode prog_1_method_36_code 21 = .ok (.iadd, 1) := by decide +kernel
theorem dd_xP_packArgument_22 : decode prog_1_method_36_code 22 = .ok (.iastore, 1) := by decide +kernel
theorem dd_xP_packArgument_23 : decode prog_1_method_36_code 23 = .ok (.goto 31, 3) := by decide +kernel
theorem dd_xP_packArgument_26 : decode prog_1_method_36_code 26 = .ok (.aload_n 1, 1) := by decide +kernel
theorem dd_xP_packArgument_27 : decode prog_1_method_36_code 27 = .ok (.getfield 219, 3) := by decide +kernel
theorem dd_xP_packArgument_30 : decode prog_1_method_36_code 30 = .ok (.iload_n 3, 1) := by decide +kernel
theorem dd_xP_packArgument_31 : decode prog_1_method_36_code 31 = .ok (.if_icmp .eq 23, 3) := by decide +kernel
theorem dd_xP_packArgument_34 : decode prog_1_method_36_code 34 = .ok (.aload_n 0, 1) := by decide +kernel
theorem dd_xP_packArgument_35 : decode prog_1_method_36_code 35 = .ok (.iload_n 2, 1) := by decide +kernel
theorem dd_xP_packArgument_36 : decode prog_1_method_36_code 36 = .ok (.aload_n 1, 1) := by decide +kernel
theorem dd_xP_packArgument_37 : decode prog_1_method_36_code 37 = .ok (.getfield 219, 3) := by decide +kernel
theorem dd_xP_packArgument_40 : decode prog_1_method_36_code 40 = .ok (.new 177, 3) := by decide +kernel
theorem dd_xP_packArgument_43 : decode prog_1_method_36_code 43 = .ok (.dup, 1) := by decide +kernel
theorem dd_xP_packArgument_44 : decode prog_1_method_36_code 44 = .ok (.iconst 4, 1) := by decide +kernel
theorem dd_xP_packArgument_45 : decode prog_1_method_36_code 45 = .ok (.aload_n 1, 1) := by decide +kernel
theorem dd_xP_packArgument_46 : decode prog_1_method_36_code 46 = .ok (.aconst_null, 1) := by decide +kernel
theorem dd_xP_packArgument_47 : decode prog_1_method_36_code 47 = .ok (.iload_n 3, 1) := by decide +kernel
theorem dd_xP_packArgument_48 : decode prog_1_method_36_code 48 = .ok (.invokespecial 295, 3) := by decide +kernel
theorem dd_xP_packArgument_51 : decode prog_1_method_36_code 51 = .ok (.invokevirtual 298, 3) := by decide +kernel
theorem dd_xP_packArgument_54 : decode prog_1_method_36_code 54 = .ok (.return_, 1) := by decide +kernel
set_option maxHeartbeats 4000000 in
set_option maxRecDepth 100000 in
theorem kc_xP_packArgument (l : Launch) (D : va_G) (ac : Nat → ClassId) (a0 : Nat) (gl : gl_T) (v0 : Option Nat) (v1 : Option Nat) (v2 : Int32) (v3 : Int32) (st : st_S) (rF : Unit) (stF : st_S) (iT jT : Nat) (h : xP_packArgument gl v0 v1 v2 v3 st = some (rF, stF, iT, jT)) :
    ct_ l ⟨"PromiseVats", "packArgument", "(LPromiseVats$Entity;II)V"⟩ (Cond.code ⟨"PromiseVats", "packArgument", "(LPromiseVats$Entity;II)V"⟩ prog_1_method_36_code 4 (Option.none : Option FieldType) :: tb_) 8 214 D cl_ ac a0 (kn_ D ac a0 gl) [(va_rf v0), (va_rf v1), (.int v2), (.int v3)] st (vb_u rF) stF iT jT := by
  refine ct_of (kn_ok D ac a0 gl) (plainFor_of_name (by decide +kernel)) (by simp [rf_cat, ic_cat]) (by simp) ?_
  intro p e s m args below meth c ls X hw hKs hlk hret hnm hl
  unfold xP_packArgument at h
  have hl : lh_ ls 4 [(0, (va_rf v0)), (1, (va_rf v1)), (2, (.int v2)), (3, (.int v3))] := hl
  obtain ⟨z0, hz0⟩ : ∃ z : Nat, 0 = z := ⟨0, rfl⟩
  obtain ⟨z1, hz1⟩ : ∃ z : Nat, 0 = z := ⟨0, rfl⟩
  refine W.cs hz0 hz1 ?_
  have hci : z0 + iT = iT := by omega
  have hcj : z1 + jT = jT := by omega
  refine rr_aldn X dd_xP_packArgument_0 rfl (lv_at hl.1 1 rfl) ?_
  by_cases hc1 : v1 = none
  · rw [if_pos hc1] at h
    refine rr_ifnonnull (tgt := 5) X dd_xP_packArgument_1 (by decide) (fun z => absurd hc1 z) (fun _ => ?_)
    obtain ⟨rfl, rfl, rfl, rfl⟩ := st_r_some h
    exact rr_vret X hw hlk hret hci hcj dd_xP_packArgument_4
  · rw [if_neg hc1] at h
    refine rr_ifnonnull (tgt := 5) X dd_xP_packArgument_1 (by decide) (fun _ => ?_) (fun z => absurd z hc1)
    refine rr_aldn X dd_xP_packArgument_5 rfl (lv_at hl.1 1 rfl) ?_
    obtain ⟨t1, ht1, h⟩ := st_g_some h
    refine rr_geti X hw ff_3_4_4 ht1 tw_196 (Or.inl rfl) dd_xP_packArgument_6 ?_
    refine lv_iload_n X.1 X.2.1 dd_xP_packArgument_9 rfl (lv_at hl.1 2 rfl) ?_
    by_cases hc10 : t1 = v2
    · rw [if_pos hc10] at h
      refine lv_icmp_ne (tgt := 26) X.1 X.2.1 dd_xP_packArgument_10 (by decide) (fun z => absurd hc10 z) (fun _ => ?_)
      refine rr_aldn X dd_xP_packArgument_13 rfl (lv_at hl.1 1 rfl) ?_
      obtain ⟨t2, ht2, h⟩ := st_g_some h
      refine rr_getq X hw ff_3_4_7 ht2 tw_185 (Or.inl rfl) dd_xP_packArgument_14 ?_
      refine lv_iload_n X.1 X.2.1 dd_xP_packArgument_17 rfl (lv_at hl.1 3 rfl) ?_
      refine lv_dup2_11 X.1 X.2.1 dd_xP_packArgument_18 rfl (rf_cat _) ?_
      obtain ⟨t3, ht3, h⟩ := st_g_some h
      refine rr_iald (t := 0) X hw rfl ht3 dd_xP_packArgument_19 ?_
      refine lv_iconst (v := (1 : Int32)) X.1 X.2.1 dd_xP_packArgument_20 (by decide) ?_
      refine lv_iadd X.1 X.2.1 dd_xP_packArgument_21 ?_
      obtain ⟨t4, hp22, h⟩ := st_w_some h
      refine rr_iast (t := 0) X hw rfl hp22 dd_xP_packArgument_22 (fun H locs hw => ?_)
      refine lv_goto (tgt := 54) X.1 X.2.1 dd_xP_packArgument_23 (by decide) ?_
      obtain ⟨rfl, rfl, rfl, rfl⟩ := st_r_some h
      exact rr_vret X hw hlk hret hci hcj dd_xP_packArgument_54
    · rw [if_neg hc10] at h
      refine lv_icmp_ne (tgt := 26) X.1 X.2.1 dd_xP_packArgument_10 (by decide) (fun _ => ?_) (fun z => absurd z hc10)
      refine rr_aldn X dd_xP_packArgument_26 rfl (lv_at hl.1 1 rfl) ?_
      obtain ⟨t5, ht5, h⟩ := st_g_some h
      refine rr_geti X hw ff_3_4_4 ht5 tw_196 (Or.inl rfl) dd_xP_packArgument_27 ?_
      refine lv_iload_n X.1 X.2.1 dd_xP_packArgument_30 rfl (lv_at hl.1 3 rfl) ?_
      by_cases hc31 : t5 = v3
      · rw [if_pos hc31] at h
        refine lv_icmp_eq (tgt := 54) X.1 X.2.1 dd_xP_packArgument_31 (by decide) (fun _ => ?_) (fun z => absurd hc31 z)
        obtain ⟨rfl, rfl, rfl, rfl⟩ := st_r_some h
        exact rr_vret X hw hlk hret hci hcj dd_xP_packArgument_54
      · rw [if_neg hc31] at h
        refine lv_icmp_eq (tgt := 54) X.1 X.2.1 dd_xP_packArgument_31 (by decide) (fun z => absurd z hc31) (fun _ => ?_)
        refine rr_aldn X dd_xP_packArgument_34 rfl (lv_at hl.1 0 rfl) ?_
        refine lv_iload_n X.1 X.2.1 dd_xP_packArgument_35 rfl (lv_at hl.1 2 rfl) ?_
        refine rr_aldn X dd_xP_packArgument_36 rfl (lv_at hl.1 1 rfl) ?_
        obtain ⟨t6, ht6, h⟩ := st_g_some h
        refine rr_geti X hw ff_3_4_4 ht6 tw_196 (Or.inl rfl) dd_xP_packArgument_37 ?_
        obtain ⟨t28, t29, h, ei, ej⟩ := st_n_some h
        refine rr_new (fs := cd_9) X hw cf_9 cb_9 tw_194 tw_195 tw_190 (show z0 + 1 ≤ iT ∧ z1 + 5 ≤ jT from ⟨ar_1 hci ei, ar_1 hcj ej⟩) dd_xP_packArgument_40 (fun H hw => ?_)
        have hci : z0 + 1 + t28 = iT := ar_2 hci ei
        have hcj : z1 + 5 + t29 = jT := ar_2 hcj ej
        clear ei ej
        generalize z0 + 1 = t8 at hci ⊢
        generalize z1 + 5 = t9 at hcj ⊢
        generalize st.2 = t7 at h ⊢
        have h := h
        generalize (st_ad st (.inr (.inr (9, cd_9)))) = t10 at h hw
        refine lv_dup X.1 X.2.1 dd_xP_packArgument_43 (rf_cat _) ?_
        refine lv_iconst (v := (4 : Int32)) X.1 X.2.1 dd_xP_packArgument_44 (by decide) ?_
        refine rr_aldn X dd_xP_packArgument_45 rfl (lv_at hl.1 1 rfl) ?_
        refine rr_null X dd_xP_packArgument_46 ?_
        refine lv_iload_n X.1 X.2.1 dd_xP_packArgument_47 rfl (lv_at hl.1 3 rfl) ?_
        obtain ⟨t11, t12, t13, t14, t15, t16, ht11, h, ei, ej⟩ := st_b_some h
        refine rr_callI (n := 4) (b := t7) (As := [(.int (4 : Int32)), (va_rf v1), (va_rf none), (.int v3)]) (rest := [(va_rf (some t7)), (.int t6), (.int v2), (va_rf v0)]) X hw (kn_ok D ac a0 gl) hKs (kc_xM_init l D ac a0 gl (some t7) (4 : Int32) v1 none v3 _ _ _ _ _ ht11) tb_good tw_191 tw_190 tw_192 tw_193 rfl (by decide +kernel) rfl (show 1 + 1 ≤ _ ∧ 8 + (5 + 11) + 12 ≤ _ from ⟨Nat.le_of_ble_eq_true rfl, Nat.le_of_ble_eq_true rfl⟩) (show t8 + t13 ≤ iT ∧ t9 + t14 ≤ jT from ⟨ar_1 hci ei, ar_1 hcj ej⟩) hl.1.1 (by simp [rf_cat, ic_cat]) rfl dd_xP_packArgument_48 (sk := [(va_rf (some t7)), (.int t6), (.int v2), (va_rf v0)]) rfl (fun H locs hw => ?_)
        have hci : t8 + t13 + t15 = iT := ar_2 hci ei
        have hcj : t9 + t14 + t16 = jT := ar_2 hcj ej
        clear ei ej
        generalize t8 + t13 = t17 at hci ⊢
        generalize t9 + t14 = t18 at hcj ⊢
        obtain ⟨t27, ht27, h⟩ := st_g_some h
        obtain ⟨t19, t20, t21, t22, t23, t24, ht19, h, ei, ej⟩ := st_b_some h
        refine rr_callV (n := 3) (As := [(.int v2), (.int t6), (va_rf (some t7))]) (rest := []) X hw (kn_ok D ac a0 gl) hKs (kc_xP_post l D ac a0 gl v0 v2 t6 (some t7) _ _ _ _ _ ht19) tb_good tw_186 tw_91 tw_187 tw_188 se_7 ht27 (by decide +kernel) rfl (show 7 + 1 ≤ _ ∧ 8 + (4 + 11) + 191 ≤ _ from ⟨Nat.le_of_ble_eq_true rfl, Nat.le_of_ble_eq_true rfl⟩) (show t17 + t21 ≤ iT ∧ t18 + t22 ≤ jT from ⟨ar_1 hci ei, ar_1 hcj ej⟩) hl.1.1 (by simp [rf_cat, ic_cat]) rfl dd_xP_packArgument_51 (sk := []) rfl (fun H locs hw => ?_)
        have hci : t17 + t21 + t23 = iT := ar_2 hci ei
        have hcj : t18 + t22 + t24 = jT := ar_2 hcj ej
        clear ei ej
        generalize t17 + t21 = t25 at hci ⊢
        generalize t18 + t22 = t26 at hcj ⊢
        obtain ⟨rfl, rfl, rfl, rfl⟩ := st_r_some h
        exact rr_vret X hw hlk hret hci hcj dd_xP_packArgument_54
/-! PromiseVats.postCall(LPromiseVats$Call;I)V -/
theorem dd_xP_postCall_0 : decode prog_1_method_35_code 0 = .ok (.aload_n 1, 1) := by decide +kernel
theorem dd_xP_postCall_1 : decode prog_1_method_35_code 1 = .ok (.getfield 129, 3) := by decide +kernel
theorem dd_xP_postCall_4 : decode prog_1_method_35_code 4 = .ok (.getfield 219, 3) := by decide +kernel
theorem dd_xP_postCall_7 : decode prog_1_method_35_code 7 = .ok (.istore_n 3, 1) := by decide +kernel
theorem dd_xP_postCall_8 : decode prog_1_method_35_code 8 = .ok (.aload_n 0, 1) := by decide +kernel
theorem dd_xP_postCall_9 : decode prog_1_method_35_code 9 = .ok (.aload_n 1, 1) := by decide +kernel
theorem dd_xP_postCall_10 : decode prog_1_method_35_code 10 = .ok (.getfield 313, 3) := by decide +kernel
theorem dd_xP_postCall_13 : decode prog_1_method_35_code 13 = .ok (.iload_n 2, 1) := by decide +kernel
theorem dd_xP_postCall_14 : decode prog_1_method_35_code 14 = .ok (.iload_n 3, 1) := by decide +kernel
theorem dd_xP_postCall_15 : decode prog_1_method_35_code 15 = .ok (.invokevirtual 292, 3) := by decide +kernel
theorem dd_xP_postCall_18 : decode prog_1_method_35_code 18 = .ok (.new 177, 3) := by decide +kernel
theorem dd_xP_postCall_21 : decode prog_1_method_35_code 21 = .ok (.dup, 1) := by decide +kernel
theorem dd_xP_postCall_22 : decode prog_1_method_35_code 22 = .ok (.iconst 1, 1) := by decide +kernel
theorem dd_xP_postCall_23 : decode prog_1_method_35_code 23 = .ok (.aload_n 1, 1) := by decide +kernel
theorem dd_xP_postCall_24 : decode prog_1_method_35_code 24 = .ok (.getfield 129, 3) := by decide +kernel
theorem dd_xP_postCall_27 : decode prog_1_method_35_code 27 = .ok (.aload_n 1, 1) := by decide +kernel
theorem dd_xP_postCall_28 : decode prog_1_method_35_code 28 = .ok (.getfield 313, 3) := by decide +kernel
theorem dd_xP_postCall_31 : decode prog_1_method_35_code 31 = .ok (.iconst 0, 1) := by decide +kernel
theorem dd_xP_postCall_32 : decode prog_1_method_35_code 32 = .ok (.invokespecial 295, 3) := by decide +kernel
theorem dd_xP_postCall_35 : decode prog_1_method_35_code 35 = .ok (.astore 4, 2) := by decide +kernel
theorem dd_xP_postCall_37 : decode prog_1_method_35_code 37 = .ok (.aload 4, 2) := by decide +kernel
theorem dd_xP_postCall_39 : decode prog_1_method_35_code 39 = .ok (.aload_n 1, 1) := by decide +kernel
theorem dd_xP_postCall_40 : decode prog_1_method_35_code 40 = .ok (.putfield 314, 3) := by decide +kernel
theorem dd_xP_postCall_43 : decode prog_1_method_35_code 43 = .ok (.aload_n 0, 1) := by decide +kernel
theorem dd_xP_postCall_44 : decode prog_1_method_35_code 44 = .ok (.iload_n 2, 1) := by decide +kernel
theorem dd_xP_postCall_45 : decode prog_1_method_35_code 45 = .ok (.iload_n 3, 1) := by decide +kernel
theorem dd_xP_postCall_46 : decode prog_1_method_35_code 46 = .ok (.aload 4, 2) := by decide +kernel
theorem dd_xP_postCall_48 : decode prog_1_method_35_code 48 = .ok (.invokevirtual 298, 3) := by decide +kernel
theorem dd_xP_postCall_51 : decode prog_1_method_35_code 51 = .ok (.return_, 1) := by decide +kernel
set_option maxHeartbeats 4000000 in
set_option maxRecDepth 100000 in
theorem kc_xP_postCall (l : Launch) (D : va_G) (ac : Nat → ClassId) (a0 : Nat) (gl : gl_T) (v0 : Option Nat) (v1 : Option Nat) (v2 : Int32) (st : st_S) (rF : Unit) (stF : st_S) (iT jT : Nat) (h : xP_postCall gl v0 v1 v2 st = some (rF, stF, iT, jT)) :
    ct_ l ⟨"PromiseVats", "postCall", "(LPromiseVats$Call;I)V"⟩ (Cond.code ⟨"PromiseVats", "postCall", "(LPromiseVats$Call;I)V"⟩ prog_1_method_35_code 5 (Option.none : Option FieldType) :: tb_) 9 237 D cl_ ac a0 (kn_ D ac a0 gl) [(va_rf v0), (va_rf v1), (.int v2)] st (vb_u rF) stF iT jT := by
  refine ct_of (kn_ok D ac a0 gl) (plainFor_of_name (by decide +kernel)) (by simp [rf_cat, ic_cat]) (by simp) ?_
  intro p e s m args below meth c ls X hw hKs hlk hret hnm hl
  unfold xP_postCall at h
  have hl : lh_ ls 5 [(0, (va_rf v0)), (1, (va_rf v1)), (2, (.int v2))] := hl
  obtain ⟨z0, hz0⟩ : ∃ z : Nat, 0 = z := ⟨0, rfl⟩
  obtain ⟨z1, hz1⟩ : ∃ z : Nat, 0 = z := ⟨0, rfl⟩
  refine W.cs hz0 hz1 ?_
  have hci : z0 + iT = iT := by omega
  have hcj : z1 + jT = jT := by omega
  refine rr_aldn X dd_xP_postCall_0 rfl (lv_at hl.1 1 rfl) ?_
  obtain ⟨t1, ht1, h⟩ := st_g_some h
  refine rr_getq X hw ff_8_0 ht1 tw_199 (Or.inl rfl) dd_xP_postCall_1 ?_
  obtain ⟨t2, ht2, h⟩ := st_g_some h
  refine rr_geti X hw ff_3_4_4 ht2 tw_196 (Or.inl rfl) dd_xP_postCall_4 ?_
  refine rr_istn (lv' := [(3, (.int t2)), (0, (va_rf v0)), (1, (va_rf v1)), (2, (.int v2))]) X dd_xP_postCall_7 rfl hl (by decide) rfl (fun ls hl => ?_)
  refine rr_aldn X dd_xP_postCall_8 rfl (lv_at hl.1 1 rfl) ?_
  refine rr_aldn X dd_xP_postCall_9 rfl (lv_at hl.1 2 rfl) ?_
  obtain ⟨t3, ht3, h⟩ := st_g_some h
  refine rr_getq X hw ff_8_2 ht3 tw_198 (Or.inl rfl) dd_xP_postCall_10 ?_
  refine lv_iload_n X.1 X.2.1 dd_xP_postCall_13 rfl (lv_at hl.1 3 rfl) ?_
  refine lv_iload_n X.1 X.2.1 dd_xP_postCall_14 rfl (lv_at hl.1 0 rfl) ?_
  obtain ⟨t38, ht38, h⟩ := st_g_some h
  obtain ⟨t4, t5, t6, t7, t8, t9, ht4, h, ei, ej⟩ := st_b_some h
  refine rr_callV (n := 3) (As := [(va_rf t3), (.int v2), (.int t2)]) (rest := []) X hw (kn_ok D ac a0 gl) hKs (kc_xP_packArgument l D ac a0 gl v0 t3 v2 t2 _ _ _ _ _ ht4) tb_good tw_200 tw_91 tw_201 tw_202 se_8 ht38 (by decide +kernel) rfl (show 8 + 1 ≤ _ ∧ 8 + (4 + 11) + 214 ≤ _ from ⟨Nat.le_of_ble_eq_true rfl, Nat.le_of_ble_eq_true rfl⟩) (show z0 + t6 ≤ iT ∧ z1 + t7 ≤ jT from ⟨ar_1 hci ei, ar_1 hcj ej⟩) hl.1.1 (by simp [rf_cat, ic_cat]) rfl dd_xP_postCall_15 (sk := []) rfl (fun H locs hw => ?_)
  have hci : z0 + t6 + t8 = iT := ar_2 hci ei
  have hcj : z1 + t7 + t9 = jT := ar_2 hcj ej
  clear ei ej
  generalize z0 + t6 = t10 at hci ⊢
  generalize z1 + t7 = t11 at hcj ⊢
  obtain ⟨t36, t37, h, ei, ej⟩ := st_n_some h
  refine rr_new (fs := cd_9) X hw cf_9 cb_9 tw_194 tw_195 tw_190 (show t10 + 1 ≤ iT ∧ t11 + 5 ≤ jT from ⟨ar_1 hci ei, ar_1 hcj ej⟩) dd_xP_postCall_18 (fun H hw => ?_)
  have hci : t10 + 1 + t36 = iT := ar_2 hci ei
  have hcj : t11 + 5 + t37 = jT := ar_2 hcj ej
  clear ei ej
  generalize t10 + 1 = t13 at hci ⊢
  generalize t11 + 5 = t14 at hcj ⊢
  generalize t5.2 = t12 at h ⊢
  have h := h
  generalize (st_ad t5 (.inr (.inr (9, cd_9)))) = t15 at h hw
  refine lv_dup X.1 X.2.1 dd_xP_postCall_21 (rf_cat _) ?_
  refine lv_iconst (v := (1 : Int32)) X.1 X.2.1 dd_xP_postCall_22 (by decide) ?_
  refine rr_aldn X dd_xP_postCall_23 rfl (lv_at hl.1 2 rfl) ?_
  obtain ⟨t16, ht16, h⟩ := st_g_some h
  refine rr_getq X hw ff_8_0 ht16 tw_199 (Or.inl rfl) dd_xP_postCall_24 ?_
  refine rr_aldn X dd_xP_postCall_27 rfl (lv_at hl.1 2 rfl) ?_
  obtain ⟨t17, ht17, h⟩ := st_g_some h
  refine rr_getq X hw ff_8_2 ht17 tw_198 (Or.inl rfl) dd_xP_postCall_28 ?_
  refine lv_iconst (v := (0 : Int32)) X.1 X.2.1 dd_xP_postCall_31 (by decide) ?_
  obtain ⟨t18, t19, t20, t21, t22, t23, ht18, h, ei, ej⟩ := st_b_some h
  refine rr_callI (n := 4) (b := t12) (As := [(.int (1 : Int32)), (va_rf t16), (va_rf t17), (.int (0 : Int32))]) (rest := [(va_rf (some t12))]) X hw (kn_ok D ac a0 gl) hKs (kc_xM_init l D ac a0 gl (some t12) (1 : Int32) t16 t17 (0 : Int32) _ _ _ _ _ ht18) tb_good tw_191 tw_190 tw_192 tw_193 rfl (by decide +kernel) rfl (show 1 + 1 ≤ _ ∧ 8 + (5 + 11) + 12 ≤ _ from ⟨Nat.le_of_ble_eq_true rfl, Nat.le_of_ble_eq_true rfl⟩) (show t13 + t20 ≤ iT ∧ t14 + t21 ≤ jT from ⟨ar_1 hci ei, ar_1 hcj ej⟩) hl.1.1 (by simp [rf_cat, ic_cat]) rfl dd_xP_postCall_32 (sk := [(va_rf (some t12))]) rfl (fun H locs hw => ?_)
  have hci : t13 + t20 + t22 = iT := ar_2 hci ei
  have hcj : t14 + t21 + t23 = jT := ar_2 hcj ej
  clear ei ej
  generalize t13 + t20 = t24 at hci ⊢
  generalize t14 + t21 = t25 at hcj ⊢
  refine rr_ast (lv' := [(4, (va_rf (some t12))), (3, (.int t2)), (0, (va_rf v0)), (1, (va_rf v1)), (2, (.int v2))]) X dd_xP_postCall_35 hl (by decide) rfl (fun ls hl => ?_)
  refine rr_ald X dd_xP_postCall_37 (lv_at hl.1 0 rfl) ?_
  refine rr_aldn X dd_xP_postCall_39 rfl (lv_at hl.1 3 rfl) ?_
  obtain ⟨t26, hp40, h⟩ := st_w_some h
  refine rr_put (ty := .object "PromiseVats$Call") X hw ff_9_4 hp40 tw_197 (Or.inl rfl) (by decide +kernel) (rf_nar _ _) (rf_fit _ _) dd_xP_postCall_40 (fun H locs hw => ?_)
  refine rr_aldn X dd_xP_postCall_43 rfl (lv_at hl.1 2 rfl) ?_
  refine lv_iload_n X.1 X.2.1 dd_xP_postCall_44 rfl (lv_at hl.1 4 rfl) ?_
  refine lv_iload_n X.1 X.2.1 dd_xP_postCall_45 rfl (lv_at hl.1 1 rfl) ?_
  refine rr_ald X dd_xP_postCall_46 (lv_at hl.1 0 rfl) ?_
  obtain ⟨t35, ht35, h⟩ := st_g_some h
  obtain ⟨t27, t28, t29, t30, t31, t32, ht27, h, ei, ej⟩ := st_b_some h
  refine rr_callV (n := 3) (As := [(.int v2), (.int t2), (va_rf (some t12))]) (rest := []) X hw (kn_ok D ac a0 gl) hKs (kc_xP_post l D ac a0 gl v0 v2 t2 (some t12) _ _ _ _ _ ht27) tb_good tw_186 tw_91 tw_187 tw_188 se_7 ht35 (by decide +kernel) rfl (show 7 + 1 ≤ _ ∧ 8 + (4 + 11) + 191 ≤ _ from ⟨Nat.le_of_ble_eq_true rfl, Nat.le_of_ble_eq_true rfl⟩) (show t24 + t29 ≤ iT ∧ t25 + t30 ≤ jT from ⟨ar_1 hci ei, ar_1 hcj ej⟩) hl.1.1 (by simp [rf_cat, ic_cat]) rfl dd_xP_postCall_48 (sk := []) rfl (fun H locs hw => ?_)
  have hci : t24 + t29 + t31 = iT := ar_2 hci ei
  have hcj : t25 + t30 + t32 = jT := ar_2 hcj ej
  clear ei ej
  generalize t24 + t29 = t33 at hci ⊢
  generalize t25 + t30 = t34 at hcj ⊢
  obtain ⟨rfl, rfl, rfl, rfl⟩ := st_r_some h
  exact rr_vret X hw hlk hret hci hcj dd_xP_postCall_51
