/-! java/lang/Math.min(II)I -/
theorem dd_ma_min_0 : decode prog_16_method_69_code 0 = .ok (.iload_n 0, 1) := by decide +kernel
theorem dd_ma_min_1 : decode prog_16_method_69_code 1 = .ok (.iload_n 1, 1) := by decide +kernel
theorem dd_ma_min_2 : decode prog_16_method_69_code 2 = .ok (.if_icmp .gt 7, 3) := by decide +kernel
theorem dd_ma_min_5 : decode prog_16_method_69_code 5 = .ok (.iload_n 0, 1) := by decide +kernel
theorem dd_ma_min_6 : decode prog_16_method_69_code 6 = .ok (.goto 4, 3) := by decide +kernel
theorem dd_ma_min_9 : decode prog_16_method_69_code 9 = .ok (.iload_n 1, 1) := by decide +kernel
theorem dd_ma_min_10 : decode prog_16_method_69_code 10 = .ok (.ireturn, 1) := by decide +kernel
set_option maxHeartbeats 4000000 in
set_option maxRecDepth 100000 in
theorem kc_ma_min (l : Launch) (D : va_G) (ac : Nat → ClassId) (a0 : Nat) (gl : gl_T) (v0 : Int32) (v1 : Int32) (st : st_S) (rF : Int32) (stF : st_S) (iT jT : Nat) (h : ma_min gl v0 v1 st = some (rF, stF, iT, jT)) :
    ct_ l ⟨"java/lang/Math", "min", "(II)I"⟩ (Cond.code ⟨"java/lang/Math", "min", "(II)I"⟩ prog_16_method_69_code 2 (Option.some FieldType.int) :: tb_) 0 0 D cl_ ac a0 (kn_ D ac a0 gl) [(.int v0), (.int v1)] st (vb_i rF) stF iT jT := by
  refine ct_of (kn_ok D ac a0 gl) (by decide +kernel) (by simp [rf_cat, ic_cat]) (by simp) ?_
  intro p e s m args below meth c ls X hw hKs hlk hret hnm hl
  unfold ma_min at h
  have hl : lh_ ls 2 [(0, (.int v0)), (1, (.int v1))] := hl
  obtain ⟨z0, hz0⟩ : ∃ z : Nat, 0 = z := ⟨0, rfl⟩
  obtain ⟨z1, hz1⟩ : ∃ z : Nat, 0 = z := ⟨0, rfl⟩
  refine W.cs hz0 hz1 ?_
  have hci : z0 + iT = iT := by omega
  have hcj : z1 + jT = jT := by omega
  refine lv_iload_n X.1 X.2.1 dd_ma_min_0 rfl (lv_at hl.1 0 rfl) ?_
  refine lv_iload_n X.1 X.2.1 dd_ma_min_1 rfl (lv_at hl.1 1 rfl) ?_
  by_cases hc2 : v1 < v0
  · rw [if_pos hc2] at h
    refine lv_icmp_gt (tgt := 9) X.1 X.2.1 dd_ma_min_2 (by decide) (fun _ => ?_) (fun z => absurd hc2 z)
    refine lv_iload_n X.1 X.2.1 dd_ma_min_9 rfl (lv_at hl.1 1 rfl) ?_
    obtain ⟨rfl, rfl, rfl, rfl⟩ := st_r_some h
    exact rr_iret X hw hlk hret rfl hci hcj dd_ma_min_10
  · rw [if_neg hc2] at h
    refine lv_icmp_gt (tgt := 9) X.1 X.2.1 dd_ma_min_2 (by decide) (fun z => absurd z hc2) (fun _ => ?_)
    refine lv_iload_n X.1 X.2.1 dd_ma_min_5 rfl (lv_at hl.1 0 rfl) ?_
    refine lv_goto (tgt := 10) X.1 X.2.1 dd_ma_min_6 (by decide) ?_
    obtain ⟨rfl, rfl, rfl, rfl⟩ := st_r_some h
    exact rr_iret X hw hlk hret rfl hci hcj dd_ma_min_10
/-! java/lang/Math.max(II)I -/
theorem dd_ma_max_0 : decode prog_16_method_65_code 0 = .ok (.iload_n 0, 1) := by decide +kernel
theorem dd_ma_max_1 : decode prog_16_method_65_code 1 = .ok (.iload_n 1, 1) := by decide +kernel
theorem dd_ma_max_2 : decode prog_16_method_65_code 2 = .ok (.if_icmp .lt 7, 3) := by decide +kernel
theorem dd_ma_max_5 : decode prog_16_method_65_code 5 = .ok (.iload_n 0, 1) := by decide +kernel
theorem dd_ma_max_6 : decode prog_16_method_65_code 6 = .ok (.goto 4, 3) := by decide +kernel
theorem dd_ma_max_9 : decode prog_16_method_65_code 9 = .ok (.iload_n 1, 1) := by decide +kernel
theorem dd_ma_max_10 : decode prog_16_method_65_code 10 = .ok (.ireturn, 1) := by decide +kernel
set_option maxHeartbeats 4000000 in
set_option maxRecDepth 100000 in
theorem kc_ma_max (l : Launch) (D : va_G) (ac : Nat → ClassId) (a0 : Nat) (gl : gl_T) (v0 : Int32) (v1 : Int32) (st : st_S) (rF : Int32) (stF : st_S) (iT jT : Nat) (h : ma_max gl v0 v1 st = some (rF, stF, iT, jT)) :
    ct_ l ⟨"java/lang/Math", "max", "(II)I"⟩ (Cond.code ⟨"java/lang/Math", "max", "(II)I"⟩ prog_16_method_65_code 2 (Option.some FieldType.int) :: tb_) 0 0 D cl_ ac a0 (kn_ D ac a0 gl) [(.int v0), (.int v1)] st (vb_i rF) stF iT jT := by
  refine ct_of (kn_ok D ac a0 gl) (by decide +kernel) (by simp [rf_cat, ic_cat]) (by simp) ?_
  intro p e s m args below meth c ls X hw hKs hlk hret hnm hl
  unfold ma_max at h
  have hl : lh_ ls 2 [(0, (.int v0)), (1, (.int v1))] := hl
  obtain ⟨z0, hz0⟩ : ∃ z : Nat, 0 = z := ⟨0, rfl⟩
  obtain ⟨z1, hz1⟩ : ∃ z : Nat, 0 = z := ⟨0, rfl⟩
  refine W.cs hz0 hz1 ?_
  have hci : z0 + iT = iT := by omega
  have hcj : z1 + jT = jT := by omega
  refine lv_iload_n X.1 X.2.1 dd_ma_max_0 rfl (lv_at hl.1 0 rfl) ?_
  refine lv_iload_n X.1 X.2.1 dd_ma_max_1 rfl (lv_at hl.1 1 rfl) ?_
  by_cases hc2 : v0 < v1
  · rw [if_pos hc2] at h
    refine lv_icmp_lt (tgt := 9) X.1 X.2.1 dd_ma_max_2 (by decide) (fun _ => ?_) (fun z => absurd hc2 z)
    refine lv_iload_n X.1 X.2.1 dd_ma_max_9 rfl (lv_at hl.1 1 rfl) ?_
    obtain ⟨rfl, rfl, rfl, rfl⟩ := st_r_some h
    exact rr_iret X hw hlk hret rfl hci hcj dd_ma_max_10
  · rw [if_neg hc2] at h
    refine lv_icmp_lt (tgt := 9) X.1 X.2.1 dd_ma_max_2 (by decide) (fun z => absurd z hc2) (fun _ => ?_)
    refine lv_iload_n X.1 X.2.1 dd_ma_max_5 rfl (lv_at hl.1 0 rfl) ?_
    refine lv_goto (tgt := 10) X.1 X.2.1 dd_ma_max_6 (by decide) ?_
    obtain ⟨rfl, rfl, rfl, rfl⟩ := st_r_some h
    exact rr_iret X hw hlk hret rfl hci hcj dd_ma_max_10
/-! PromiseVats$Turn.<init>()V -/
theorem dd_xT_init_0 : decode prog_8_method_1_code 0 = .ok (.aload_n 0, 1) := by decide +kernel
theorem dd_xT_init_1 : decode prog_8_method_1_code 1 = .ok (.invokespecial 1, 3) := by decide +kernel
theorem dd_xT_init_4 : decode prog_8_method_1_code 4 = .ok (.return_, 1) := by decide +kernel
set_option maxHeartbeats 4000000 in
set_option maxRecDepth 100000 in
theorem kc_xT_init (l : Launch) (D : va_G) (ac : Nat → ClassId) (a0 : Nat) (gl : gl_T) (v0 : Option Nat) (st : st_S) (rF : Unit) (stF : st_S) (iT jT : Nat) (h : xT_init gl v0 st = some (rF, stF, iT, jT)) :
    ct_ l ⟨"PromiseVats$Turn", "<init>", "()V"⟩ (Cond.code ⟨"PromiseVats$Turn", "<init>", "()V"⟩ prog_8_method_1_code 1 (Option.none : Option FieldType) :: tb_) 1 12 D cl_ ac a0 (kn_ D ac a0 gl) [(va_rf v0)] st (vb_u rF) stF iT jT := by
  refine ct_of (kn_ok D ac a0 gl) (plainFor_of_name (by decide +kernel)) (by simp [rf_cat, ic_cat]) (by simp) ?_
  intro p e s m args below meth c ls X hw hKs hlk hret hnm hl
  unfold xT_init at h
  have hl : lh_ ls 1 [(0, (va_rf v0))] := hl
  obtain ⟨z0, hz0⟩ : ∃ z : Nat, 0 = z := ⟨0, rfl⟩
  obtain ⟨z1, hz1⟩ : ∃ z : Nat, 0 = z := ⟨0, rfl⟩
  refine W.cs hz0 hz1 ?_
  have hci : z0 + iT = iT := by omega
  have hcj : z1 + jT = jT := by omega
  refine rr_aldn X dd_xT_init_0 rfl (lv_at hl.1 0 rfl) ?_
  obtain ⟨t1, ht1, h⟩ := st_g_some h
  refine rr_objI X ht1 tw_0 tw_1 tw_2 hl.1.1 (Nat.le_of_ble_eq_true rfl) (by simp [rf_cat, ic_cat]) dd_xT_init_1 ?_
  obtain ⟨rfl, rfl, rfl, rfl⟩ := st_r_some h
  exact rr_vret X hw hlk hret hci hcj dd_xT_init_4
/-! PromiseVats$Program.<init>()V -/
theorem dd_xG_init_0 : decode prog_6_method_1_code 0 = .ok (.aload_n 0, 1) := by decide +kernel
theorem dd_xG_init_1 : decode prog_6_method_1_code 1 = .ok (.invokespecial 3, 3) := by decide +kernel
theorem dd_xG_init_4 : decode prog_6_method_1_code 4 = .ok (.aload_n 0, 1) := by decide +kernel
theorem dd_xG_init_5 : decode prog_6_method_1_code 5 = .ok (.bipush 8, 2) := by decide +kernel
theorem dd_xG_init_7 : decode prog_6_method_1_code 7 = .ok (.newarray .int, 2) := by decide +kernel
theorem dd_xG_init_9 : decode prog_6_method_1_code 9 = .ok (.putfield 9, 3) := by decide +kernel
theorem dd_xG_init_12 : decode prog_6_method_1_code 12 = .ok (.aload_n 0, 1) := by decide +kernel
theorem dd_xG_init_13 : decode prog_6_method_1_code 13 = .ok (.bipush 8, 2) := by decide +kernel
theorem dd_xG_init_15 : decode prog_6_method_1_code 15 = .ok (.newarray .int, 2) := by decide +kernel
theorem dd_xG_init_17 : decode prog_6_method_1_code 17 = .ok (.putfield 15, 3) := by decide +kernel
theorem dd_xG_init_20 : decode prog_6_method_1_code 20 = .ok (.return_, 1) := by decide +kernel
set_option maxHeartbeats 4000000 in
set_option maxRecDepth 100000 in
theorem kc_xG_init (l : Launch) (D : va_G) (ac : Nat → ClassId) (a0 : Nat) (gl : gl_T) (v0 : Option Nat) (st : st_S) (rF : Unit) (stF : st_S) (iT jT : Nat) (h : xG_init gl v0 st = some (rF, stF, iT, jT)) :
    ct_ l ⟨"PromiseVats$Program", "<init>", "()V"⟩ (Cond.code ⟨"PromiseVats$Program", "<init>", "()V"⟩ prog_6_method_1_code 1 (Option.none : Option FieldType) :: tb_) 1 12 D cl_ ac a0 (kn_ D ac a0 gl) [(va_rf v0)] st (vb_u rF) stF iT jT := by
  refine ct_of (kn_ok D ac a0 gl) (plainFor_of_name (by decide +kernel)) (by simp [rf_cat, ic_cat]) (by simp) ?_
  intro p e s m args below meth c ls X hw hKs hlk hret hnm hl
  unfold xG_init at h
  have hl : lh_ ls 1 [(0, (va_rf v0))] := hl
  obtain ⟨z0, hz0⟩ : ∃ z : Nat, 0 = z := ⟨0, rfl⟩
  obtain ⟨z1, hz1⟩ : ∃ z : Nat, 0 = z := ⟨0, rfl⟩
  refine W.cs hz0 hz1 ?_
  have hci : z0 + iT = iT := by omega
  have hcj : z1 + jT = jT := by omega
  refine rr_aldn X dd_xG_init_0 rfl (lv_at hl.1 0 rfl) ?_
  obtain ⟨t1, ht1, h⟩ := st_g_some h
  refine rr_objI X ht1 tw_6 tw_1 tw_2 hl.1.1 (Nat.le_of_ble_eq_true rfl) (by simp [rf_cat, ic_cat]) dd_xG_init_1 ?_
  refine rr_aldn X dd_xG_init_4 rfl (lv_at hl.1 0 rfl) ?_
  refine lv_bipush (v := (8 : Int32)) X.1 X.2.1 dd_xG_init_5 (by decide) ?_
  obtain ⟨_, hz7, h⟩ := st_g_some h
  have hn7 := so_l_s hz7
  obtain ⟨t3, t4, h, ei, ej⟩ := st_n_some h
  refine rr_newi (t := 0) X hw rfl hn7.1 rfl hn7.2 tw_3 (show z0 + 1 ≤ iT ∧ z1 + (8 : Int32).toNatClampNeg ≤ jT from ⟨ar_1 hci ei, ar_1 hcj ej⟩) dd_xG_init_7 (fun H hw => ?_)
  have hci : z0 + 1 + t3 = iT := ar_2 hci ei
  have hcj : z1 + (8 : Int32).toNatClampNeg + t4 = jT := ar_2 hcj ej
  clear ei ej
  generalize z0 + 1 = t5 at hci ⊢
  generalize z1 + (8 : Int32).toNatClampNeg = t6 at hcj ⊢
  generalize st.2 = t2 at h ⊢
  have h := h
  generalize (st_ad st (.inl (0, (8 : Int32).toNatClampNeg, fun _ => 0))) = t7 at h hw
  obtain ⟨t8, hp9, h⟩ := st_w_some h
  refine rr_putF (ty := .array (.int)) X hw ff_2_0 hp9 tw_5 hnm (by decide +kernel) (rf_narA _ _) (rf_fitA _ _) dd_xG_init_9 (fun H locs hw => ?_)
  refine rr_aldn X dd_xG_init_12 rfl (lv_at hl.1 0 rfl) ?_
  refine lv_bipush (v := (8 : Int32)) X.1 X.2.1 dd_xG_init_13 (by decide) ?_
  obtain ⟨_, hz15, h⟩ := st_g_some h
  have hn15 := so_l_s hz15
  obtain ⟨t10, t11, h, ei, ej⟩ := st_n_some h
  refine rr_newi (t := 0) X hw rfl hn15.1 rfl hn15.2 tw_3 (show t5 + 1 ≤ iT ∧ t6 + (8 : Int32).toNatClampNeg ≤ jT from ⟨ar_1 hci ei, ar_1 hcj ej⟩) dd_xG_init_15 (fun H hw => ?_)
  have hci : t5 + 1 + t10 = iT := ar_2 hci ei
  have hcj : t6 + (8 : Int32).toNatClampNeg + t11 = jT := ar_2 hcj ej
  clear ei ej
  generalize t5 + 1 = t12 at hci ⊢
  generalize t6 + (8 : Int32).toNatClampNeg = t13 at hcj ⊢
  generalize t8.2 = t9 at h ⊢
  have h := h
  generalize (st_ad t8 (.inl (0, (8 : Int32).toNatClampNeg, fun _ => 0))) = t14 at h hw
  obtain ⟨t15, hp17, h⟩ := st_w_some h
  refine rr_putF (ty := .array (.int)) X hw ff_2_1 hp17 tw_4 hnm (by decide +kernel) (rf_narA _ _) (rf_fitA _ _) dd_xG_init_17 (fun H locs hw => ?_)
  obtain ⟨rfl, rfl, rfl, rfl⟩ := st_r_some h
  exact rr_vret X hw hlk hret hci hcj dd_xG_init_20
/-! PromiseVats$Entity.<init>(II)V -/
theorem dd_xE_init_0 : decode prog_4_method_1_code 0 = .ok (.aload_n 0, 1) := by decide +kernel
theorem dd_xE_init_1 : decode prog_4_method_1_code 1 = .ok (.invokespecial 3, 3) := by decide +kernel
theorem dd_xE_init_4 : decode prog_4_method_1_code 4 = .ok (.aload_n 0, 1) := by decide +kernel
theorem dd_xE_init_5 : decode prog_4_method_1_code 5 = .ok (.iconst 4, 1) := by decide +kernel
theorem dd_xE_init_6 : decode prog_4_method_1_code 6 = .ok (.newarray .int, 2) := by decide +kernel
theorem dd_xE_init_8 : decode prog_4_method_1_code 8 = .ok (.putfield 9, 3) := by decide +kernel
theorem dd_xE_init_11 : decode prog_4_method_1_code 11 = .ok (.aload_n 0, 1) := by decide +kernel
theorem dd_xE_init_12 : decode prog_4_method_1_code 12 = .ok (.iconst 4, 1) := by decide +kernel
theorem dd_xE_init_13 : decode prog_4_method_1_code 13 = .ok (.newarray .int, 2) := by decide +kernel
theorem dd_xE_init_15 : decode prog_4_method_1_code 15 = .ok (.putfield 15, 3) := by decide +kernel
theorem dd_xE_init_18 : decode prog_4_method_1_code 18 = .ok (.aload_n 0, 1) := by decide +kernel
theorem dd_xE_init_19 : decode prog_4_method_1_code 19 = .ok (.bipush 16, 2) := by decide +kernel
theorem dd_xE_init_21 : decode prog_4_method_1_code 21 = .ok (.newarray .int, 2) := by decide +kernel
theorem dd_xE_init_23 : decode prog_4_method_1_code 23 = .ok (.putfield 18, 3) := by decide +kernel
theorem dd_xE_init_26 : decode prog_4_method_1_code 26 = .ok (.aload_n 0, 1) := by decide +kernel
theorem dd_xE_init_27 : decode prog_4_method_1_code 27 = .ok (.iload_n 1, 1) := by decide +kernel
theorem dd_xE_init_28 : decode prog_4_method_1_code 28 = .ok (.putfield 21, 3) := by decide +kernel
theorem dd_xE_init_31 : decode prog_4_method_1_code 31 = .ok (.aload_n 0, 1) := by decide +kernel
theorem dd_xE_init_32 : decode prog_4_method_1_code 32 = .ok (.iload_n 2, 1) := by decide +kernel
theorem dd_xE_init_33 : decode prog_4_method_1_code 33 = .ok (.putfield 25, 3) := by decide +kernel
theorem dd_xE_init_36 : decode prog_4_method_1_code 36 = .ok (.return_, 1) := by decide +kernel
set_option maxHeartbeats 4000000 in
set_option maxRecDepth 100000 in
theorem kc_xE_init (l : Launch) (D : va_G) (ac : Nat → ClassId) (a0 : Nat) (gl : gl_T) (v0 : Option Nat) (v1 : Int32) (v2 : Int32) (st : st_S) (rF : Unit) (stF : st_S) (iT jT : Nat) (h : xE_init gl v0 v1 v2 st = some (rF, stF, iT, jT)) :
    ct_ l ⟨"PromiseVats$Entity", "<init>", "(II)V"⟩ (Cond.code ⟨"PromiseVats$Entity", "<init>", "(II)V"⟩ prog_4_method_1_code 3 (Option.none : Option FieldType) :: tb_) 1 12 D cl_ ac a0 (kn_ D ac a0 gl) [(va_rf v0), (.int v1), (.int v2)] st (vb_u rF) stF iT jT := by
  refine ct_of (kn_ok D ac a0 gl) (plainFor_of_name (by decide +kernel)) (by simp [rf_cat, ic_cat]) (by simp) ?_
  intro p e s m args below meth c ls X hw hKs hlk hret hnm hl
  unfold xE_init at h
  have hl : lh_ ls 3 [(0, (va_rf v0)), (1, (.int v1)), (2, (.int v2))] := hl
  obtain ⟨z0, hz0⟩ : ∃ z : Nat, 0 = z := ⟨0, rfl⟩
  obtain ⟨z1, hz1⟩ : ∃ z : Nat, 0 = z := ⟨0, rfl⟩
  refine W.cs hz0 hz1 ?_
  have hci : z0 + iT = iT := by omega
  have hcj : z1 + jT = jT := by omega
  refine rr_aldn X dd_xE_init_0 rfl (lv_at hl.1 0 rfl) ?_
  obtain ⟨t1, ht1, h⟩ := st_g_some h
  refine rr_objI X ht1 tw_12 tw_1 tw_2 hl.1.1 (Nat.le_of_ble_eq_true rfl) (by simp [rf_cat, ic_cat]) dd_xE_init_1 ?_
  refine rr_aldn X dd_xE_init_4 rfl (lv_at hl.1 0 rfl) ?_
  refine lv_iconst (v := (4 : Int32)) X.1 X.2.1 dd_xE_init_5 (by decide) ?_
  obtain ⟨_, hz6, h⟩ := st_g_some h
  have hn6 := so_l_s hz6
  obtain ⟨t3, t4, h, ei, ej⟩ := st_n_some h
  refine rr_newi (t := 0) X hw rfl hn6.1 rfl hn6.2 tw_3 (show z0 + 1 ≤ iT ∧ z1 + (4 : Int32).toNatClampNeg ≤ jT from ⟨ar_1 hci ei, ar_1 hcj ej⟩) dd_xE_init_6 (fun H hw => ?_)
  have hci : z0 + 1 + t3 = iT := ar_2 hci ei
  have hcj : z1 + (4 : Int32).toNatClampNeg + t4 = jT := ar_2 hcj ej
  clear ei ej
  generalize z0 + 1 = t5 at hci ⊢
  generalize z1 + (4 : Int32).toNatClampNeg = t6 at hcj ⊢
  generalize st.2 = t2 at h ⊢
  have h := h
  generalize (st_ad st (.inl (0, (4 : Int32).toNatClampNeg, fun _ => 0))) = t7 at h hw
  obtain ⟨t8, hp8, h⟩ := st_w_some h
  refine rr_putF (ty := .array (.int)) X hw ff_3_4_7 hp8 tw_11 hnm (by decide +kernel) (rf_narA _ _) (rf_fitA _ _) dd_xE_init_8 (fun H locs hw => ?_)
  refine rr_aldn X dd_xE_init_11 rfl (lv_at hl.1 0 rfl) ?_
  refine lv_iconst (v := (4 : Int32)) X.1 X.2.1 dd_xE_init_12 (by decide) ?_
  obtain ⟨_, hz13, h⟩ := st_g_some h
  have hn13 := so_l_s hz13
  obtain ⟨t10, t11, h, ei, ej⟩ := st_n_some h
  refine rr_newi (t := 0) X hw rfl hn13.1 rfl hn13.2 tw_3 (show t5 + 1 ≤ iT ∧ t6 + (4 : Int32).toNatClampNeg ≤ jT from ⟨ar_1 hci ei, ar_1 hcj ej⟩) dd_xE_init_13 (fun H hw => ?_)
  have hci : t5 + 1 + t10 = iT := ar_2 hci ei
  have hcj : t6 + (4 : Int32).toNatClampNeg + t11 = jT := ar_2 hcj ej
  clear ei ej
  generalize t5 + 1 = t12 at hci ⊢
  generalize t6 + (4 : Int32).toNatClampNeg = t13 at hcj ⊢
  generalize t8.2 = t9 at h ⊢
  have h := h
  generalize (st_ad t8 (.inl (0, (4 : Int32).toNatClampNeg, fun _ => 0))) = t14 at h hw
  obtain ⟨t15, hp15, h⟩ := st_w_some h
  refine rr_putF (ty := .array (.int)) X hw ff_3_4_8 hp15 tw_10 hnm (by decide +kernel) (rf_narA _ _) (rf_fitA _ _) dd_xE_init_15 (fun H locs hw => ?_)
  refine rr_aldn X dd_xE_init_18 rfl (lv_at hl.1 0 rfl) ?_
  refine lv_bipush (v := (16 : Int32)) X.1 X.2.1 dd_xE_init_19 (by decide) ?_
  obtain ⟨_, hz21, h⟩ := st_g_some h
  have hn21 := so_l_s hz21
  obtain ⟨t17, t18, h, ei, ej⟩ := st_n_some h
  refine rr_newi (t := 0) X hw rfl hn21.1 rfl hn21.2 tw_3 (show t12 + 1 ≤ iT ∧ t13 + (16 : Int32).toNatClampNeg ≤ jT from ⟨ar_1 hci ei, ar_1 hcj ej⟩) dd_xE_init_21 (fun H hw => ?_)
  have hci : t12 + 1 + t17 = iT := ar_2 hci ei
  have hcj : t13 + (16 : Int32).toNatClampNeg + t18 = jT := ar_2 hcj ej
  clear ei ej
  generalize t12 + 1 = t19 at hci ⊢
  generalize t13 + (16 : Int32).toNatClampNeg = t20 at hcj ⊢
  generalize t15.2 = t16 at h ⊢
  have h := h
  generalize (st_ad t15 (.inl (0, (16 : Int32).toNatClampNeg, fun _ => 0))) = t21 at h hw
  obtain ⟨t22, hp23, h⟩ := st_w_some h
  refine rr_putF (ty := .array (.int)) X hw ff_3_4_9 hp23 tw_9 hnm (by decide +kernel) (rf_narA _ _) (rf_fitA _ _) dd_xE_init_23 (fun H locs hw => ?_)
  refine rr_aldn X dd_xE_init_26 rfl (lv_at hl.1 0 rfl) ?_
  refine lv_iload_n X.1 X.2.1 dd_xE_init_27 rfl (lv_at hl.1 1 rfl) ?_
  obtain ⟨t23, hp28, h⟩ := st_w_some h
  refine rr_putF (ty := .int) X hw ff_3_4_3 hp28 tw_8 hnm (by decide +kernel) rfl rfl dd_xE_init_28 (fun H locs hw => ?_)
  refine rr_aldn X dd_xE_init_31 rfl (lv_at hl.1 0 rfl) ?_
  refine lv_iload_n X.1 X.2.1 dd_xE_init_32 rfl (lv_at hl.1 2 rfl) ?_
  obtain ⟨t24, hp33, h⟩ := st_w_some h
  refine rr_putF (ty := .int) X hw ff_3_4_4 hp33 tw_7 hnm (by decide +kernel) rfl rfl dd_xE_init_33 (fun H locs hw => ?_)
  obtain ⟨rfl, rfl, rfl, rfl⟩ := st_r_some h
  exact rr_vret X hw hlk hret hci hcj dd_xE_init_36
/-! PromiseVats$VatObject.<init>(III)V -/
theorem dd_xO_init_0 : decode prog_10_method_1_code 0 = .ok (.aload_n 0, 1) := by decide +kernel
theorem dd_xO_init_1 : decode prog_10_method_1_code 1 = .ok (.iload_n 1, 1) := by decide +kernel
theorem dd_xO_init_2 : decode prog_10_method_1_code 2 = .ok (.iload_n 2, 1) := by decide +kernel
theorem dd_xO_init_3 : decode prog_10_method_1_code 3 = .ok (.invokespecial 3, 3) := by decide +kernel
theorem dd_xO_init_6 : decode prog_10_method_1_code 6 = .ok (.aload_n 0, 1) := by decide +kernel
theorem dd_xO_init_7 : decode prog_10_method_1_code 7 = .ok (.iconst 4, 1) := by decide +kernel
theorem dd_xO_init_8 : decode prog_10_method_1_code 8 = .ok (.anewarray 4, 3) := by decide +kernel
theorem dd_xO_init_11 : decode prog_10_method_1_code 11 = .ok (.putfield 9, 3) := by decide +kernel
theorem dd_xO_init_14 : decode prog_10_method_1_code 14 = .ok (.aload_n 0, 1) := by decide +kernel
theorem dd_xO_init_15 : decode prog_10_method_1_code 15 = .ok (.iload_n 3, 1) := by decide +kernel
theorem dd_xO_init_16 : decode prog_10_method_1_code 16 = .ok (.putfield 15, 3) := by decide +kernel
theorem dd_xO_init_19 : decode prog_10_method_1_code 19 = .ok (.return_, 1) := by decide +kernel
set_option maxHeartbeats 4000000 in
set_option maxRecDepth 100000 in
theorem kc_xO_init (l : Launch) (D : va_G) (ac : Nat → ClassId) (a0 : Nat) (gl : gl_T) (v0 : Option Nat) (v1 : Int32) (v2 : Int32) (v3 : Int32) (st : st_S) (rF : Unit) (stF : st_S) (iT jT : Nat) (h : xO_init gl v0 v1 v2 v3 st = some (rF, stF, iT, jT)) :
    ct_ l ⟨"PromiseVats$VatObject", "<init>", "(III)V"⟩ (Cond.code ⟨"PromiseVats$VatObject", "<init>", "(III)V"⟩ prog_10_method_1_code 4 (Option.none : Option FieldType) :: tb_) 2 34 D cl_ ac a0 (kn_ D ac a0 gl) [(va_rf v0), (.int v1), (.int v2), (.int v3)] st (vb_u rF) stF iT jT := by
  refine ct_of (kn_ok D ac a0 gl) (plainFor_of_name (by decide +kernel)) (by simp [rf_cat, ic_cat]) (by simp) ?_
  intro p e s m args below meth c ls X hw hKs hlk hret hnm hl
  unfold xO_init at h
  have hl : lh_ ls 4 [(0, (va_rf v0)), (1, (.int v1)), (2, (.int v2)), (3, (.int v3))] := hl
  obtain ⟨z0, hz0⟩ : ∃ z : Nat, 0 = z := ⟨0, rfl⟩
  obtain ⟨z1, hz1⟩ : ∃ z : Nat, 0 = z := ⟨0, rfl⟩
  refine W.cs hz0 hz1 ?_
  have hci : z0 + iT = iT := by omega
  have hcj : z1 + jT = jT := by omega
  refine rr_aldn X dd_xO_init_0 rfl (lv_at hl.1 0 rfl) ?_
  refine lv_iload_n X.1 X.2.1 dd_xO_init_1 rfl (lv_at hl.1 1 rfl) ?_
  refine lv_iload_n X.1 X.2.1 dd_xO_init_2 rfl (lv_at hl.1 2 rfl) ?_
  obtain ⟨t17, ht17, h⟩ := st_g_some h
  obtain ⟨bt17, _, hbt17, _⟩ := so_c_some ht17
  obtain ⟨t1, t2, t3, t4, t5, t6, ht1, h, ei, ej⟩ := st_b_some h
  refine rr_callI (n := 2) (b := bt17) (As := [(.int v1), (.int v2)]) (rest := []) X hw (kn_ok D ac a0 gl) hKs (show ct_ _ _ _ _ _ _ _ _ _ _ (va_rf (some bt17) :: [(.int v1), (.int v2)]) _ _ _ _ _ from hbt17 ▸ (kc_xE_init l D ac a0 gl v0 v1 v2 _ _ _ _ _ ht1)) tb_good tw_17 tw_16 tw_18 tw_19 rfl (by decide +kernel) rfl (show 1 + 1 ≤ _ ∧ 8 + (3 + 11) + 12 ≤ _ from ⟨Nat.le_of_ble_eq_true rfl, Nat.le_of_ble_eq_true rfl⟩) (show z0 + t3 ≤ iT ∧ z1 + t4 ≤ jT from ⟨ar_1 hci ei, ar_1 hcj ej⟩) hl.1.1 (by simp [rf_cat, ic_cat]) (by rw [hbt17]; rfl) dd_xO_init_3 (sk := []) rfl (fun H locs hw => ?_)
  have hci : z0 + t3 + t5 = iT := ar_2 hci ei
  have hcj : z1 + t4 + t6 = jT := ar_2 hcj ej
  clear ei ej
  generalize z0 + t3 = t7 at hci ⊢
  generalize z1 + t4 = t8 at hcj ⊢
  refine rr_aldn X dd_xO_init_6 rfl (lv_at hl.1 0 rfl) ?_
  refine lv_iconst (v := (4 : Int32)) X.1 X.2.1 dd_xO_init_7 (by decide) ?_
  obtain ⟨_, hz8, h⟩ := st_g_some h
  have hn8 := so_l_s hz8
  obtain ⟨t10, t11, h, ei, ej⟩ := st_n_some h
  refine rr_newq (t := 6) X hw rfl hn8.1 rfl hn8.2 tw_13 (to_6 hKs) (show t7 + 1 ≤ iT ∧ t8 + (4 : Int32).toNatClampNeg ≤ jT from ⟨ar_1 hci ei, ar_1 hcj ej⟩) dd_xO_init_8 (fun H hw => ?_)
  have hci : t7 + 1 + t10 = iT := ar_2 hci ei
  have hcj : t8 + (4 : Int32).toNatClampNeg + t11 = jT := ar_2 hcj ej
  clear ei ej
  generalize t7 + 1 = t12 at hci ⊢
  generalize t8 + (4 : Int32).toNatClampNeg = t13 at hcj ⊢
  generalize t2.2 = t9 at h ⊢
  have h := h
  generalize (st_ad t2 (.inr (.inl (6, (4 : Int32).toNatClampNeg, fun _ => none)))) = t14 at h hw
  obtain ⟨t15, hp11, h⟩ := st_w_some h
  refine rr_putF (ty := .array (.object "PromiseVats$Entity")) X hw ff_3_2 hp11 tw_15 hnm (by decide +kernel) (rf_narA _ _) (rf_fitA _ _) dd_xO_init_11 (fun H locs hw => ?_)
  refine rr_aldn X dd_xO_init_14 rfl (lv_at hl.1 0 rfl) ?_
  refine lv_iload_n X.1 X.2.1 dd_xO_init_15 rfl (lv_at hl.1 3 rfl) ?_
  obtain ⟨t16, hp16, h⟩ := st_w_some h
  refine rr_putF (ty := .int) X hw ff_3_0 hp16 tw_14 hnm (by decide +kernel) rfl rfl dd_xO_init_16 (fun H locs hw => ?_)
  obtain ⟨rfl, rfl, rfl, rfl⟩ := st_r_some h
  exact rr_vret X hw hlk hret hci hcj dd_xO_init_19
/-! java/util/AbstractCollection.<init>()V -/
theorem dd_aq_init_0 : decode prog_18_method_1_code 0 = .ok (.aload_n 0, 1) := by decide +kernel
theorem dd_aq_init_1 : decode prog_18_method_1_code 1 = .ok (.invokespecial 1, 3) := by decide +kernel
theorem dd_aq_init_4 : decode prog_18_method_1_code 4 = .ok (.return_, 1) := by decide +kernel
set_option maxHeartbeats 4000000 in
set_option maxRecDepth 100000 in
theorem kc_aq_init (l : Launch) (D : va_G) (ac : Nat → ClassId) (a0 : Nat) (gl : gl_T) (v0 : Option Nat) (st : st_S) (rF : Unit) (stF : st_S) (iT jT : Nat) (h : aq_init gl v0 st = some (rF, stF, iT, jT)) :
    ct_ l ⟨"java/util/AbstractCollection", "<init>", "()V"⟩ (Cond.code ⟨"java/util/AbstractCollection", "<init>", "()V"⟩ prog_18_method_1_code 1 (Option.none : Option FieldType) :: tb_) 1 12 D cl_ ac a0 (kn_ D ac a0 gl) [(va_rf v0)] st (vb_u rF) stF iT jT := by
  refine ct_of (kn_ok D ac a0 gl) (by decide +kernel) (by simp [rf_cat, ic_cat]) (by simp) ?_
  intro p e s m args below meth c ls X hw hKs hlk hret hnm hl
  unfold aq_init at h
  have hl : lh_ ls 1 [(0, (va_rf v0))] := hl
  obtain ⟨z0, hz0⟩ : ∃ z : Nat, 0 = z := ⟨0, rfl⟩
  obtain ⟨z1, hz1⟩ : ∃ z : Nat, 0 = z := ⟨0, rfl⟩
  refine W.cs hz0 hz1 ?_
  have hci : z0 + iT = iT := by omega
  have hcj : z1 + jT = jT := by omega
  refine rr_aldn X dd_aq_init_0 rfl (lv_at hl.1 0 rfl) ?_
  obtain ⟨t1, ht1, h⟩ := st_g_some h
  refine rr_objI X ht1 tw_20 tw_1 tw_2 hl.1.1 (Nat.le_of_ble_eq_true rfl) (by simp [rf_cat, ic_cat]) dd_aq_init_1 ?_
  obtain ⟨rfl, rfl, rfl, rfl⟩ := st_r_some h
  exact rr_vret X hw hlk hret hci hcj dd_aq_init_4
/-! java/util/AbstractList.<init>()V -/
theorem dd_ab_init_0 : decode prog_19_method_1_code 0 = .ok (.aload_n 0, 1) := by decide +kernel
theorem dd_ab_init_1 : decode prog_19_method_1_code 1 = .ok (.invokespecial 1, 3) := by decide +kernel
theorem dd_ab_init_4 : decode prog_19_method_1_code 4 = .ok (.aload_n 0, 1) := by decide +kernel
theorem dd_ab_init_5 : decode prog_19_method_1_code 5 = .ok (.iconst 0, 1) := by decide +kernel
theorem dd_ab_init_6 : decode prog_19_method_1_code 6 = .ok (.putfield 7, 3) := by decide +kernel
theorem dd_ab_init_9 : decode prog_19_method_1_code 9 = .ok (.return_, 1) := by decide +kernel
set_option maxHeartbeats 4000000 in
set_option maxRecDepth 100000 in
theorem kc_ab_init (l : Launch) (D : va_G) (ac : Nat → ClassId) (a0 : Nat) (gl : gl_T) (v0 : Option Nat) (st : st_S) (rF : Unit) (stF : st_S) (iT jT : Nat) (h : ab_init gl v0 st = some (rF, stF, iT, jT)) :
    ct_ l ⟨"java/util/AbstractList", "<init>", "()V"⟩ (Cond.code ⟨"java/util/AbstractList", "<init>", "()V"⟩ prog_19_method_1_code 1 (Option.none : Option FieldType) :: tb_) 2 32 D cl_ ac a0 (kn_ D ac a0 gl) [(va_rf v0)] st (vb_u rF) stF iT jT := by
  refine ct_of (kn_ok D ac a0 gl) (by decide +kernel) (by simp [rf_cat, ic_cat]) (by simp) ?_
  intro p e s m args below meth c ls X hw hKs hlk hret hnm hl
  unfold ab_init at h
  have hl : lh_ ls 1 [(0, (va_rf v0))] := hl
  obtain ⟨z0, hz0⟩ : ∃ z : Nat, 0 = z := ⟨0, rfl⟩
  obtain ⟨z1, hz1⟩ : ∃ z : Nat, 0 = z := ⟨0, rfl⟩
  refine W.cs hz0 hz1 ?_
  have hci : z0 + iT = iT := by omega
  have hcj : z1 + jT = jT := by omega
  refine rr_aldn X dd_ab_init_0 rfl (lv_at hl.1 0 rfl) ?_
  obtain ⟨t10, ht10, h⟩ := st_g_some h
  obtain ⟨bt10, _, hbt10, _⟩ := so_c_some ht10
  obtain ⟨t1, t2, t3, t4, t5, t6, ht1, h, ei, ej⟩ := st_b_some h
  refine rr_callI (n := 0) (b := bt10) (As := []) (rest := []) X hw (kn_ok D ac a0 gl) hKs (show ct_ _ _ _ _ _ _ _ _ _ _ (va_rf (some bt10) :: []) _ _ _ _ _ from hbt10 ▸ (kc_aq_init l D ac a0 gl v0 _ _ _ _ _ ht1)) tb_good tw_23 tw_22 tw_24 tw_25 rfl (by decide +kernel) rfl (show 1 + 1 ≤ _ ∧ 8 + (1 + 11) + 12 ≤ _ from ⟨Nat.le_of_ble_eq_true rfl, Nat.le_of_ble_eq_true rfl⟩) (show z0 + t3 ≤ iT ∧ z1 + t4 ≤ jT from ⟨ar_1 hci ei, ar_1 hcj ej⟩) hl.1.1 (by simp [rf_cat, ic_cat]) (by rw [hbt10]; rfl) dd_ab_init_1 (sk := []) rfl (fun H locs hw => ?_)
  have hci : z0 + t3 + t5 = iT := ar_2 hci ei
  have hcj : z1 + t4 + t6 = jT := ar_2 hcj ej
  clear ei ej
  generalize z0 + t3 = t7 at hci ⊢
  generalize z1 + t4 = t8 at hcj ⊢
  refine rr_aldn X dd_ab_init_4 rfl (lv_at hl.1 0 rfl) ?_
  refine lv_iconst (v := (0 : Int32)) X.1 X.2.1 dd_ab_init_5 (by decide) ?_
  obtain ⟨t9, hp6, h⟩ := st_w_some h
  refine rr_put (ty := .int) X hw ff_6_2 hp6 tw_21 (Or.inl rfl) (by decide +kernel) rfl rfl dd_ab_init_6 (fun H locs hw => ?_)
  obtain ⟨rfl, rfl, rfl, rfl⟩ := st_r_some h
  exact rr_vret X hw hlk hret hci hcj dd_ab_init_9
/-! java/util/ArrayList.<init>()V -/
theorem dd_al_init_0 : decode prog_20_method_2_code 0 = .ok (.aload_n 0, 1) := by decide +kernel
theorem dd_al_init_1 : decode prog_20_method_2_code 1 = .ok (.invokespecial 1, 3) := by decide +kernel
theorem dd_al_init_4 : decode prog_20_method_2_code 4 = .ok (.aload_n 0, 1) := by decide +kernel
theorem dd_al_init_5 : decode prog_20_method_2_code 5 = .ok (.getstatic 39, 3) := by decide +kernel
theorem dd_al_init_8 : decode prog_20_method_2_code 8 = .ok (.putfield 9, 3) := by decide +kernel
theorem dd_al_init_11 : decode prog_20_method_2_code 11 = .ok (.return_, 1) := by decide +kernel
set_option maxHeartbeats 4000000 in
set_option maxRecDepth 100000 in
theorem kc_al_init (l : Launch) (D : va_G) (ac : Nat → ClassId) (a0 : Nat) (gl : gl_T) (v0 : Option Nat) (st : st_S) (rF : Unit) (stF : st_S) (iT jT : Nat) (h : al_init gl v0 st = some (rF, stF, iT, jT)) :
    ct_ l ⟨"java/util/ArrayList", "<init>", "()V"⟩ (Cond.code ⟨"java/util/ArrayList", "<init>", "()V"⟩ prog_20_method_2_code 1 (Option.none : Option FieldType) :: tb_) 3 52 D cl_ ac a0 (kn_ D ac a0 gl) [(va_rf v0)] st (vb_u rF) stF iT jT := by
  refine ct_of (kn_ok D ac a0 gl) (by decide +kernel) (by simp [rf_cat, ic_cat]) (by simp) ?_
  intro p e s m args below meth c ls X hw hKs hlk hret hnm hl
  unfold al_init at h
  have hl : lh_ ls 1 [(0, (va_rf v0))] := hl
  obtain ⟨z0, hz0⟩ : ∃ z : Nat, 0 = z := ⟨0, rfl⟩
  obtain ⟨z1, hz1⟩ : ∃ z : Nat, 0 = z := ⟨0, rfl⟩
  refine W.cs hz0 hz1 ?_
  have hci : z0 + iT = iT := by omega
  have hcj : z1 + jT = jT := by omega
  refine rr_aldn X dd_al_init_0 rfl (lv_at hl.1 0 rfl) ?_
  obtain ⟨t10, ht10, h⟩ := st_g_some h
  obtain ⟨bt10, _, hbt10, _⟩ := so_c_some ht10
  obtain ⟨t1, t2, t3, t4, t5, t6, ht1, h, ei, ej⟩ := st_b_some h
  refine rr_callI (n := 0) (b := bt10) (As := []) (rest := []) X hw (kn_ok D ac a0 gl) hKs (show ct_ _ _ _ _ _ _ _ _ _ _ (va_rf (some bt10) :: []) _ _ _ _ _ from hbt10 ▸ (kc_ab_init l D ac a0 gl v0 _ _ _ _ _ ht1)) tb_good tw_29 tw_28 tw_30 tw_31 rfl (by decide +kernel) rfl (show 2 + 1 ≤ _ ∧ 8 + (1 + 11) + 32 ≤ _ from ⟨Nat.le_of_ble_eq_true rfl, Nat.le_of_ble_eq_true rfl⟩) (show z0 + t3 ≤ iT ∧ z1 + t4 ≤ jT from ⟨ar_1 hci ei, ar_1 hcj ej⟩) hl.1.1 (by simp [rf_cat, ic_cat]) (by rw [hbt10]; rfl) dd_al_init_1 (sk := []) rfl (fun H locs hw => ?_)
  have hci : z0 + t3 + t5 = iT := ar_2 hci ei
  have hcj : z1 + t4 + t6 = jT := ar_2 hcj ej
  clear ei ej
  generalize z0 + t3 = t7 at hci ⊢
  generalize z1 + t4 = t8 at hcj ⊢
  refine rr_aldn X dd_al_init_4 rfl (lv_at hl.1 0 rfl) ?_
  refine rr_ed X hKs hw tw_27 dd_al_init_5 ?_
  obtain ⟨t9, hp8, h⟩ := st_w_some h
  refine rr_put (ty := .array (.object "java/lang/Object")) X hw ff_6_0 hp8 tw_26 (Or.inl rfl) (by decide +kernel) (rf_narA _ _) (rf_fitA _ _) dd_al_init_8 (fun H locs hw => ?_)
  obtain ⟨rfl, rfl, rfl, rfl⟩ := st_r_some h
  exact rr_vret X hw hlk hret hci hcj dd_al_init_11
/-! PromiseVats$Channel.<init>()V -/
theorem dd_xH_init_0 : decode prog_3_method_1_code 0 = .ok (.aload_n 0, 1) := by decide +kernel
theorem dd_xH_init_1 : decode prog_3_method_1_code 1 = .ok (.invokespecial 1, 3) := by decide +kernel
theorem dd_xH_init_4 : decode prog_3_method_1_code 4 = .ok (.aload_n 0, 1) := by decide +kernel
theorem dd_xH_init_5 : decode prog_3_method_1_code 5 = .ok (.new 7, 3) := by decide +kernel
theorem dd_xH_init_8 : decode prog_3_method_1_code 8 = .ok (.dup, 1) := by decide +kernel
theorem dd_xH_init_9 : decode prog_3_method_1_code 9 = .ok (.invokespecial 9, 3) := by decide +kernel
theorem dd_xH_init_12 : decode prog_3_method_1_code 12 = .ok (.putfield 10, 3) := by decide +kernel
theorem dd_xH_init_15 : decode prog_3_method_1_code 15 = .ok (.return_, 1) := by decide +kernel
set_option maxHeartbeats 4000000 in
set_option maxRecDepth 100000 in
theorem kc_xH_init (l : Launch) (D : va_G) (ac : Nat → ClassId) (a0 : Nat) (gl : gl_T) (v0 : Option Nat) (st : st_S) (rF : Unit) (stF : st_S) (iT jT : Nat) (h : xH_init gl v0 st = some (rF, stF, iT, jT)) :
    ct_ l ⟨"PromiseVats$Channel", "<init>", "()V"⟩ (Cond.code ⟨"PromiseVats$Channel", "<init>", "()V"⟩ prog_3_method_1_code 1 (Option.none : Option FieldType) :: tb_) 4 72 D cl_ ac a0 (kn_ D ac a0 gl) [(va_rf v0)] st (vb_u rF) stF iT jT := by
  refine ct_of (kn_ok D ac a0 gl) (plainFor_of_name (by decide +kernel)) (by simp [rf_cat, ic_cat]) (by simp) ?_
  intro p e s m args below meth c ls X hw hKs hlk hret hnm hl
  unfold xH_init at h
  have hl : lh_ ls 1 [(0, (va_rf v0))] := hl
  obtain ⟨z0, hz0⟩ : ∃ z : Nat, 0 = z := ⟨0, rfl⟩
  obtain ⟨z1, hz1⟩ : ∃ z : Nat, 0 = z := ⟨0, rfl⟩
  refine W.cs hz0 hz1 ?_
  have hci : z0 + iT = iT := by omega
  have hcj : z1 + jT = jT := by omega
  refine rr_aldn X dd_xH_init_0 rfl (lv_at hl.1 0 rfl) ?_
  obtain ⟨t1, ht1, h⟩ := st_g_some h
  refine rr_objI X ht1 tw_39 tw_1 tw_2 hl.1.1 (Nat.le_of_ble_eq_true rfl) (by simp [rf_cat, ic_cat]) dd_xH_init_1 ?_
  refine rr_aldn X dd_xH_init_4 rfl (lv_at hl.1 0 rfl) ?_
  obtain ⟨t15, t16, h, ei, ej⟩ := st_n_some h
  refine rr_new (fs := cd_6) X hw cf_6 cb_6 tw_37 tw_38 tw_33 (show z0 + 1 ≤ iT ∧ z1 + 3 ≤ jT from ⟨ar_1 hci ei, ar_1 hcj ej⟩) dd_xH_init_5 (fun H hw => ?_)
  have hci : z0 + 1 + t15 = iT := ar_2 hci ei
  have hcj : z1 + 3 + t16 = jT := ar_2 hcj ej
  clear ei ej
  generalize z0 + 1 = t3 at hci ⊢
  generalize z1 + 3 = t4 at hcj ⊢
  generalize st.2 = t2 at h ⊢
  have h := h
  generalize (st_ad st (.inr (.inr (6, cd_6)))) = t5 at h hw
  refine lv_dup X.1 X.2.1 dd_xH_init_8 (rf_cat _) ?_
  obtain ⟨t6, t7, t8, t9, t10, t11, ht6, h, ei, ej⟩ := st_b_some h
  refine rr_callI (n := 0) (b := t2) (As := []) (rest := [(va_rf (some t2)), (va_rf v0)]) X hw (kn_ok D ac a0 gl) hKs (kc_al_init l D ac a0 gl (some t2) _ _ _ _ _ ht6) tb_good tw_34 tw_33 tw_35 tw_36 rfl (by decide +kernel) rfl (show 3 + 1 ≤ _ ∧ 8 + (1 + 11) + 52 ≤ _ from ⟨Nat.le_of_ble_eq_true rfl, Nat.le_of_ble_eq_true rfl⟩) (show t3 + t8 ≤ iT ∧ t4 + t9 ≤ jT from ⟨ar_1 hci ei, ar_1 hcj ej⟩) hl.1.1 (by simp [rf_cat, ic_cat]) rfl dd_xH_init_9 (sk := [(va_rf (some t2)), (va_rf v0)]) rfl (fun H locs hw => ?_)
  have hci : t3 + t8 + t10 = iT := ar_2 hci ei
  have hcj : t4 + t9 + t11 = jT := ar_2 hcj ej
  clear ei ej
  generalize t3 + t8 = t12 at hci ⊢
  generalize t4 + t9 = t13 at hcj ⊢
  obtain ⟨t14, hp12, h⟩ := st_w_some h
  refine rr_putF (ty := .object "java/util/ArrayList") X hw ff_7_0 hp12 tw_32 hnm (by decide +kernel) (rf_nar _ _) (rf_fit _ _) dd_xH_init_12 (fun H locs hw => ?_)
  obtain ⟨rfl, rfl, rfl, rfl⟩ := st_r_some h
  exact rr_vret X hw hlk hret hci hcj dd_xH_init_15
