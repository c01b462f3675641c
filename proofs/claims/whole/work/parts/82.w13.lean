/-! PromiseVats.flying(II)I -/
theorem dd_xP_flying_0 : decode prog_1_method_9_code 0 = .ok (.aload_n 0, 1) := by decide +kernel
theorem dd_xP_flying_1 : decode prog_1_method_9_code 1 = .ok (.iload_n 1, 1) := by decide +kernel
theorem dd_xP_flying_2 : decode prog_1_method_9_code 2 = .ok (.invokevirtual 83, 3) := by decide +kernel
theorem dd_xP_flying_5 : decode prog_1_method_9_code 5 = .ok (.ifCond .eq 31, 3) := by decide +kernel
theorem dd_xP_flying_8 : decode prog_1_method_9_code 8 = .ok (.aload_n 0, 1) := by decide +kernel
theorem dd_xP_flying_9 : decode prog_1_method_9_code 9 = .ok (.iload_n 2, 1) := by decide +kernel
theorem dd_xP_flying_10 : decode prog_1_method_9_code 10 = .ok (.invokevirtual 83, 3) := by decide +kernel
theorem dd_xP_flying_13 : decode prog_1_method_9_code 13 = .ok (.ifCond .eq 23, 3) := by decide +kernel
theorem dd_xP_flying_16 : decode prog_1_method_9_code 16 = .ok (.aload_n 0, 1) := by decide +kernel
theorem dd_xP_flying_17 : decode prog_1_method_9_code 17 = .ok (.getfield 20, 3) := by decide +kernel
theorem dd_xP_flying_20 : decode prog_1_method_9_code 20 = .ok (.iload_n 1, 1) := by decide +kernel
theorem dd_xP_flying_21 : decode prog_1_method_9_code 21 = .ok (.aaload, 1) := by decide +kernel
theorem dd_xP_flying_22 : decode prog_1_method_9_code 22 = .ok (.getfield 168, 3) := by decide +kernel
theorem dd_xP_flying_25 : decode prog_1_method_9_code 25 = .ok (.iload_n 2, 1) := by decide +kernel
theorem dd_xP_flying_26 : decode prog_1_method_9_code 26 = .ok (.aaload, 1) := by decide +kernel
theorem dd_xP_flying_27 : decode prog_1_method_9_code 27 = .ok (.getfield 172, 3) := by decide +kernel
theorem dd_xP_flying_30 : decode prog_1_method_9_code 30 = .ok (.invokevirtual 106, 3) := by decide +kernel
theorem dd_xP_flying_33 : decode prog_1_method_9_code 33 = .ok (.goto 4, 3) := by decide +kernel
theorem dd_xP_flying_36 : decode prog_1_method_9_code 36 = .ok (.iconst 0, 1) := by decide +kernel
theorem dd_xP_flying_37 : decode prog_1_method_9_code 37 = .ok (.ireturn, 1) := by decide +kernel
set_option maxHeartbeats 4000000 in
set_option maxRecDepth 100000 in
theorem kb_xP_flying_b36 {p : Program} {l : Launch} {e : Env} {s : State} {m : MethodId} {args : Array Value} {below : List Frame} {meth : Method} {c : Code} {D : va_G} {ac : Nat → ClassId} {a0 : Nat} {gl : gl_T} {rF : Int32} {stF : st_S} {iT jT : Nat}
    (X : cx_ p s m args c prog_1_method_9_code 3 "PromiseVats" tb_ D cl_ (ty_ ac)) (hKs : kn_ D ac a0 gl s) (hlk : meth.locks = false) (hret : meth.sig.returnType = (Option.some FieldType.int)) (hnm : meth.name = "flying") : wk_ p l e 1 21 s m args below meth c D cl_ ac a0 3 vb_i rF stF iT jT 36 (fun x : Unit => []) (fun x : Unit => []) (fun _ : Unit => xP_flying_b36 gl) := by
  intro x st H locs cells slots i j ls hw hl h hci hcj
  have h : xP_flying_b36 gl  st = some (rF, stF, i, j) := h
  unfold xP_flying_b36 at h
  have hl : lh_ ls 3 [] := hl
  refine W.eq (g2 := F0 m 36 ls []) rfl ?_
  refine lv_iconst (v := (0 : Int32)) X.1 X.2.1 dd_xP_flying_36 (by decide) ?_
  obtain ⟨rfl, rfl, rfl, rfl⟩ := st_r_some h
  exact rr_iret X hw hlk hret rfl hci hcj dd_xP_flying_37
set_option maxHeartbeats 4000000 in
set_option maxRecDepth 100000 in
theorem kc_xP_flying (l : Launch) (D : va_G) (ac : Nat → ClassId) (a0 : Nat) (gl : gl_T) (v0 : Option Nat) (v1 : Int32) (v2 : Int32) (st : st_S) (rF : Int32) (stF : st_S) (iT jT : Nat) (h : xP_flying gl v0 v1 v2 st = some (rF, stF, iT, jT)) :
    ct_ l ⟨"PromiseVats", "flying", "(II)I"⟩ (Cond.code ⟨"PromiseVats", "flying", "(II)I"⟩ prog_1_method_9_code 3 (Option.some FieldType.int) :: tb_) 1 21 D cl_ ac a0 (kn_ D ac a0 gl) [(va_rf v0), (.int v1), (.int v2)] st (vb_i rF) stF iT jT := by
  refine ct_of (kn_ok D ac a0 gl) (plainFor_of_name (by decide +kernel)) (by simp [rf_cat, ic_cat]) (by simp) ?_
  intro p e s m args below meth c ls X hw hKs hlk hret hnm hl
  unfold xP_flying at h
  have hl : lh_ ls 3 [(0, (va_rf v0)), (1, (.int v1)), (2, (.int v2))] := hl
  obtain ⟨z0, hz0⟩ : ∃ z : Nat, 0 = z := ⟨0, rfl⟩
  obtain ⟨z1, hz1⟩ : ∃ z : Nat, 0 = z := ⟨0, rfl⟩
  refine W.cs hz0 hz1 ?_
  have hci : z0 + iT = iT := by omega
  have hcj : z1 + jT = jT := by omega
  refine rr_aldn X dd_xP_flying_0 rfl (lv_at hl.1 0 rfl) ?_
  refine lv_iload_n X.1 X.2.1 dd_xP_flying_1 rfl (lv_at hl.1 1 rfl) ?_
  obtain ⟨t32, ht32, h⟩ := st_g_some h
  obtain ⟨t1, t2, t3, t4, t5, t6, ht1, h, ei, ej⟩ := st_b_some h
  refine rr_callV (n := 1) (As := [(.int v1)]) (rest := []) X hw (kn_ok D ac a0 gl) hKs (kc_xP_isVat l D ac a0 gl v0 v1 _ _ _ _ _ ht1) tb_good tw_110 tw_91 tw_111 tw_112 se_0 ht32 (by decide +kernel) rfl (show 0 + 1 ≤ _ ∧ 8 + (2 + 11) + 0 ≤ _ from ⟨Nat.le_of_ble_eq_true rfl, Nat.le_of_ble_eq_true rfl⟩) (show z0 + t3 ≤ iT ∧ z1 + t4 ≤ jT from ⟨ar_1 hci ei, ar_1 hcj ej⟩) hl.1.1 (by simp [rf_cat, ic_cat]) rfl dd_xP_flying_2 (sk := [(.int t1)]) rfl (fun H locs hw => ?_)
  have hci : z0 + t3 + t5 = iT := ar_2 hci ei
  have hcj : z1 + t4 + t6 = jT := ar_2 hcj ej
  clear ei ej
  generalize z0 + t3 = t7 at hci ⊢
  generalize z1 + t4 = t8 at hcj ⊢
  by_cases hc5 : t1 = 0
  · rw [if_pos hc5] at h
    refine lv_if_eq (tgt := 36) X.1 X.2.1 dd_xP_flying_5 (by decide) (fun _ => ?_) (fun z => absurd hc5 z)
    exact (kb_xP_flying_b36 X hKs hlk hret hnm) () _ _ _ _ _ _ _ _ hw (lh_pk hl [] rfl) h hci hcj
  · rw [if_neg hc5] at h
    refine lv_if_eq (tgt := 36) X.1 X.2.1 dd_xP_flying_5 (by decide) (fun z => absurd z hc5) (fun _ => ?_)
    refine rr_aldn X dd_xP_flying_8 rfl (lv_at hl.1 0 rfl) ?_
    refine lv_iload_n X.1 X.2.1 dd_xP_flying_9 rfl (lv_at hl.1 2 rfl) ?_
    obtain ⟨t31, ht31, h⟩ := st_g_some h
    obtain ⟨t9, t10, t11, t12, t13, t14, ht9, h, ei, ej⟩ := st_b_some h
    refine rr_callV (n := 1) (As := [(.int v2)]) (rest := []) X hw (kn_ok D ac a0 gl) hKs (kc_xP_isVat l D ac a0 gl v0 v2 _ _ _ _ _ ht9) tb_good tw_110 tw_91 tw_111 tw_112 se_0 ht31 (by decide +kernel) rfl (show 0 + 1 ≤ _ ∧ 8 + (2 + 11) + 0 ≤ _ from ⟨Nat.le_of_ble_eq_true rfl, Nat.le_of_ble_eq_true rfl⟩) (show t7 + t11 ≤ iT ∧ t8 + t12 ≤ jT from ⟨ar_1 hci ei, ar_1 hcj ej⟩) hl.1.1 (by simp [rf_cat, ic_cat]) rfl dd_xP_flying_10 (sk := [(.int t9)]) rfl (fun H locs hw => ?_)
    have hci : t7 + t11 + t13 = iT := ar_2 hci ei
    have hcj : t8 + t12 + t14 = jT := ar_2 hcj ej
    clear ei ej
    generalize t7 + t11 = t15 at hci ⊢
    generalize t8 + t12 = t16 at hcj ⊢
    by_cases hc13 : t9 = 0
    · rw [if_pos hc13] at h
      refine lv_if_eq (tgt := 36) X.1 X.2.1 dd_xP_flying_13 (by decide) (fun _ => ?_) (fun z => absurd hc13 z)
      exact (kb_xP_flying_b36 X hKs hlk hret hnm) () _ _ _ _ _ _ _ _ hw (lh_pk hl [] rfl) h hci hcj
    · rw [if_neg hc13] at h
      refine lv_if_eq (tgt := 36) X.1 X.2.1 dd_xP_flying_13 (by decide) (fun z => absurd z hc13) (fun _ => ?_)
      refine rr_aldn X dd_xP_flying_16 rfl (lv_at hl.1 0 rfl) ?_
      obtain ⟨t17, ht17, h⟩ := st_g_some h
      refine rr_getq X hw ff_0_0 ht17 tw_66 (Or.inl rfl) dd_xP_flying_17 ?_
      refine lv_iload_n X.1 X.2.1 dd_xP_flying_20 rfl (lv_at hl.1 1 rfl) ?_
      obtain ⟨t18, ht18, h⟩ := st_g_some h
      refine rr_aald X hw (tq_4 ac) ht18 dd_xP_flying_21 ?_
      obtain ⟨t19, ht19, h⟩ := st_g_some h
      refine rr_getq X hw ff_5_2 ht19 tw_184 (Or.inl rfl) dd_xP_flying_22 ?_
      refine lv_iload_n X.1 X.2.1 dd_xP_flying_25 rfl (lv_at hl.1 2 rfl) ?_
      obtain ⟨t20, ht20, h⟩ := st_g_some h
      refine rr_aald X hw (tq_8 ac) ht20 dd_xP_flying_26 ?_
      obtain ⟨t21, ht21, h⟩ := st_g_some h
      refine rr_getq X hw ff_7_0 ht21 tw_183 (Or.inl rfl) dd_xP_flying_27 ?_
      obtain ⟨t30, ht30, h⟩ := st_g_some h
      obtain ⟨t22, t23, t24, t25, t26, t27, ht22, h, ei, ej⟩ := st_b_some h
      refine rr_callV (n := 0) (As := []) (rest := []) X hw (kn_ok D ac a0 gl) hKs (kc_al_size l D ac a0 gl t21 _ _ _ _ _ ht22) tb_good tw_174 tw_33 tw_175 tw_176 se_6 ht30 (by decide +kernel) rfl (show 0 + 1 ≤ _ ∧ 8 + (1 + 11) + 0 ≤ _ from ⟨Nat.le_of_ble_eq_true rfl, Nat.le_of_ble_eq_true rfl⟩) (show t15 + t24 ≤ iT ∧ t16 + t25 ≤ jT from ⟨ar_1 hci ei, ar_1 hcj ej⟩) hl.1.1 (by simp [rf_cat, ic_cat]) rfl dd_xP_flying_30 (sk := [(.int t22)]) rfl (fun H locs hw => ?_)
      have hci : t15 + t24 + t26 = iT := ar_2 hci ei
      have hcj : t16 + t25 + t27 = jT := ar_2 hcj ej
      clear ei ej
      generalize t15 + t24 = t28 at hci ⊢
      generalize t16 + t25 = t29 at hcj ⊢
      refine lv_goto (tgt := 37) X.1 X.2.1 dd_xP_flying_33 (by decide) ?_
      obtain ⟨rfl, rfl, rfl, rfl⟩ := st_r_some h
      exact rr_iret X hw hlk hret rfl hci hcj dd_xP_flying_37
/-! PromiseVats.unpackArgument(LPromiseVats$Entity;II)V -/
theorem dd_xP_unpackArgument_0 : decode prog_1_method_37_code 0 = .ok (.aload_n 1, 1) := by decide +kernel
theorem dd_xP_unpackArgument_1 : decode prog_1_method_37_code 1 = .ok (.ifnull 11, 3) := by decide +kernel
theorem dd_xP_unpackArgument_4 : decode prog_1_method_37_code 4 = .ok (.aload_n 1, 1) := by decide +kernel
theorem dd_xP_unpackArgument_5 : decode prog_1_method_37_code 5 = .ok (.getfield 219, 3) := by decide +kernel
theorem dd_xP_unpackArgument_8 : decode prog_1_method_37_code 8 = .ok (.iload_n 3, 1) := by decide +kernel
theorem dd_xP_unpackArgument_9 : decode prog_1_method_37_code 9 = .ok (.if_icmp .ne 4, 3) := by decide +kernel
theorem dd_xP_unpackArgument_12 : decode prog_1_method_37_code 12 = .ok (.return_, 1) := by decide +kernel
theorem dd_xP_unpackArgument_13 : decode prog_1_method_37_code 13 = .ok (.aload_n 1, 1) := by decide +kernel
theorem dd_xP_unpackArgument_14 : decode prog_1_method_37_code 14 = .ok (.getfield 214, 3) := by decide +kernel
theorem dd_xP_unpackArgument_17 : decode prog_1_method_37_code 17 = .ok (.iload_n 3, 1) := by decide +kernel
theorem dd_xP_unpackArgument_18 : decode prog_1_method_37_code 18 = .ok (.dup2, 1) := by decide +kernel
theorem dd_xP_unpackArgument_19 : decode prog_1_method_37_code 19 = .ok (.iaload, 1) := by decide +kernel
theorem dd_xP_unpackArgument_20 : decode prog_1_method_37_code 20 = .ok (.iconst 1, 1) := by decide +kernel
theorem dd_xP_unpackArgument_21 : decode prog_1_method_37_code 21 = .ok (.iadd, 1) := by decide +kernel
theorem dd_xP_unpackArgument_22 : decode prog_1_method_37_code 22 = .ok (.iastore, 1) := by decide +kernel
theorem dd_xP_unpackArgument_23 : decode prog_1_method_37_code 23 = .ok (.aload_n 1, 1) := by decide +kernel
theorem dd_xP_unpackArgument_24 : decode prog_1_method_37_code 24 = .ok (.getfield 219, 3) := by decide +kernel
theorem dd_xP_unpackArgument_27 : decode prog_1_method_37_code 27 = .ok (.iload_n 2, 1) := by decide +kernel
theorem dd_xP_unpackArgument_28 : decode prog_1_method_37_code 28 = .ok (.if_icmp .eq 23, 3) := by decide +kernel
theorem dd_xP_unpackArgument_31 : decode prog_1_method_37_code 31 = .ok (.aload_n 0, 1) := by decide +kernel
theorem dd_xP_unpackArgument_32 : decode prog_1_method_37_code 32 = .ok (.iload_n 3, 1) := by decide +kernel
theorem dd_xP_unpackArgument_33 : decode prog_1_method_37_code 33 = .ok (.aload_n 1, 1) := by decide +kernel
theorem dd_xP_unpackArgument_34 : decode prog_1_method_37_code 34 = .ok (.getfield 219, 3) := by decide +kernel
theorem dd_xP_unpackArgument_37 : decode prog_1_method_37_code 37 = .ok (.new 177, 3) := by decide +kernel
theorem dd_xP_unpackArgument_40 : decode prog_1_method_37_code 40 = .ok (.dup, 1) := by decide +kernel
theorem dd_xP_unpackArgument_41 : decode prog_1_method_37_code 41 = .ok (.iconst 5, 1) := by decide +kernel
theorem dd_xP_unpackArgument_42 : decode prog_1_method_37_code 42 = .ok (.aload_n 1, 1) := by decide +kernel
theorem dd_xP_unpackArgument_43 : decode prog_1_method_37_code 43 = .ok (.aconst_null, 1) := by decide +kernel
theorem dd_xP_unpackArgument_44 : decode prog_1_method_37_code 44 = .ok (.iload_n 2, 1) := by decide +kernel
theorem dd_xP_unpackArgument_45 : decode prog_1_method_37_code 45 = .ok (.invokespecial 295, 3) := by decide +kernel
theorem dd_xP_unpackArgument_48 : decode prog_1_method_37_code 48 = .ok (.invokevirtual 298, 3) := by decide +kernel
theorem dd_xP_unpackArgument_51 : decode prog_1_method_37_code 51 = .ok (.return_, 1) := by decide +kernel
set_option maxHeartbeats 4000000 in
set_option maxRecDepth 100000 in
theorem kc_xP_unpackArgument (l : Launch) (D : va_G) (ac : Nat → ClassId) (a0 : Nat) (gl : gl_T) (v0 : Option Nat) (v1 : Option Nat) (v2 : Int32) (v3 : Int32) (st : st_S) (rF : Unit) (stF : st_S) (iT jT : Nat) (h : xP_unpackArgument gl v0 v1 v2 v3 st = some (rF, stF, iT, jT)) :
    ct_ l ⟨"PromiseVats", "unpackArgument", "(LPromiseVats$Entity;II)V"⟩ (Cond.code ⟨"PromiseVats", "unpackArgument", "(LPromiseVats$Entity;II)V"⟩ prog_1_method_37_code 4 (Option.none : Option FieldType) :: tb_) 8 214 D cl_ ac a0 (kn_ D ac a0 gl) [(va_rf v0), (va_rf v1), (.int v2), (.int v3)] st (vb_u rF) stF iT jT := by
  refine ct_of (kn_ok D ac a0 gl) (plainFor_of_name (by decide +kernel)) (by simp [rf_cat, ic_cat]) (by simp) ?_
  intro p e s m args below meth c ls X hw hKs hlk hret hnm hl
  unfold xP_unpackArgument at h
  have hl : lh_ ls 4 [(0, (va_rf v0)), (1, (va_rf v1)), (2, (.int v2)), (3, (.int v3))] := hl
  obtain ⟨z0, hz0⟩ : ∃ z : Nat, 0 = z := ⟨0, rfl⟩
  obtain ⟨z1, hz1⟩ : ∃ z : Nat, 0 = z := ⟨0, rfl⟩
  refine W.cs hz0 hz1 ?_
  have hci : z0 + iT = iT := by omega
  have hcj : z1 + jT = jT := by omega
  refine rr_aldn X dd_xP_unpackArgument_0 rfl (lv_at hl.1 1 rfl) ?_
  by_cases hc1 : v1 = none
  · rw [if_pos hc1] at h
    refine rr_ifnull (tgt := 12) X dd_xP_unpackArgument_1 (by decide) (fun _ => ?_) (fun z => absurd hc1 z)
    obtain ⟨rfl, rfl, rfl, rfl⟩ := st_r_some h
    exact rr_vret X hw hlk hret hci hcj dd_xP_unpackArgument_12
  · rw [if_neg hc1] at h
    refine rr_ifnull (tgt := 12) X dd_xP_unpackArgument_1 (by decide) (fun z => absurd z hc1) (fun _ => ?_)
    refine rr_aldn X dd_xP_unpackArgument_4 rfl (lv_at hl.1 1 rfl) ?_
    obtain ⟨t1, ht1, h⟩ := st_g_some h
    refine rr_geti X hw ff_3_4_4 ht1 tw_196 (Or.inl rfl) dd_xP_unpackArgument_5 ?_
    refine lv_iload_n X.1 X.2.1 dd_xP_unpackArgument_8 rfl (lv_at hl.1 3 rfl) ?_
    by_cases hc9 : t1 = v3
    · rw [if_pos hc9] at h
      refine lv_icmp_ne (tgt := 13) X.1 X.2.1 dd_xP_unpackArgument_9 (by decide) (fun z => absurd hc9 z) (fun _ => ?_)
      obtain ⟨rfl, rfl, rfl, rfl⟩ := st_r_some h
      exact rr_vret X hw hlk hret hci hcj dd_xP_unpackArgument_12
    · rw [if_neg hc9] at h
      refine lv_icmp_ne (tgt := 13) X.1 X.2.1 dd_xP_unpackArgument_9 (by decide) (fun _ => ?_) (fun z => absurd z hc9)
      refine rr_aldn X dd_xP_unpackArgument_13 rfl (lv_at hl.1 1 rfl) ?_
      obtain ⟨t2, ht2, h⟩ := st_g_some h
      refine rr_getq X hw ff_3_4_8 ht2 tw_328 (Or.inl rfl) dd_xP_unpackArgument_14 ?_
      refine lv_iload_n X.1 X.2.1 dd_xP_unpackArgument_17 rfl (lv_at hl.1 3 rfl) ?_
      refine lv_dup2_11 X.1 X.2.1 dd_xP_unpackArgument_18 rfl (rf_cat _) ?_
      obtain ⟨t3, ht3, h⟩ := st_g_some h
      refine rr_iald (t := 0) X hw rfl ht3 dd_xP_unpackArgument_19 ?_
      refine lv_iconst (v := (1 : Int32)) X.1 X.2.1 dd_xP_unpackArgument_20 (by decide) ?_
      refine lv_iadd X.1 X.2.1 dd_xP_unpackArgument_21 ?_
      obtain ⟨t4, hp22, h⟩ := st_w_some h
      refine rr_iast (t := 0) X hw rfl hp22 dd_xP_unpackArgument_22 (fun H locs hw => ?_)
      refine rr_aldn X dd_xP_unpackArgument_23 rfl (lv_at hl.1 1 rfl) ?_
      obtain ⟨t5, ht5, h⟩ := st_g_some h
      refine rr_geti X hw ff_3_4_4 ht5 tw_196 (Or.inl rfl) dd_xP_unpackArgument_24 ?_
      refine lv_iload_n X.1 X.2.1 dd_xP_unpackArgument_27 rfl (lv_at hl.1 2 rfl) ?_
      by_cases hc28 : t5 = v2
      · rw [if_pos hc28] at h
        refine lv_icmp_eq (tgt := 51) X.1 X.2.1 dd_xP_unpackArgument_28 (by decide) (fun _ => ?_) (fun z => absurd hc28 z)
        obtain ⟨rfl, rfl, rfl, rfl⟩ := st_r_some h
        exact rr_vret X hw hlk hret hci hcj dd_xP_unpackArgument_51
      · rw [if_neg hc28] at h
        refine lv_icmp_eq (tgt := 51) X.1 X.2.1 dd_xP_unpackArgument_28 (by decide) (fun z => absurd z hc28) (fun _ => ?_)
        refine rr_aldn X dd_xP_unpackArgument_31 rfl (lv_at hl.1 0 rfl) ?_
        refine lv_iload_n X.1 X.2.1 dd_xP_unpackArgument_32 rfl (lv_at hl.1 3 rfl) ?_
        refine rr_aldn X dd_xP_unpackArgument_33 rfl (lv_at hl.1 1 rfl) ?_
        obtain ⟨t6, ht6, h⟩ := st_g_some h
        refine rr_geti X hw ff_3_4_4 ht6 tw_196 (Or.inl rfl) dd_xP_unpackArgument_34 ?_
        obtain ⟨t28, t29, h, ei, ej⟩ := st_n_some h
        refine rr_new (fs := cd_9) X hw cf_9 cb_9 tw_194 tw_195 tw_190 (show z0 + 1 ≤ iT ∧ z1 + 5 ≤ jT from ⟨ar_1 hci ei, ar_1 hcj ej⟩) dd_xP_unpackArgument_37 (fun H hw => ?_)
        have hci : z0 + 1 + t28 = iT := ar_2 hci ei
        have hcj : z1 + 5 + t29 = jT := ar_2 hcj ej
        clear ei ej
        generalize z0 + 1 = t8 at hci ⊢
        generalize z1 + 5 = t9 at hcj ⊢
        generalize t4.2 = t7 at h ⊢
        have h := h
        generalize (st_ad t4 (.inr (.inr (9, cd_9)))) = t10 at h hw
        refine lv_dup X.1 X.2.1 dd_xP_unpackArgument_40 (rf_cat _) ?_
        refine lv_iconst (v := (5 : Int32)) X.1 X.2.1 dd_xP_unpackArgument_41 (by decide) ?_
        refine rr_aldn X dd_xP_unpackArgument_42 rfl (lv_at hl.1 1 rfl) ?_
        refine rr_null X dd_xP_unpackArgument_43 ?_
        refine lv_iload_n X.1 X.2.1 dd_xP_unpackArgument_44 rfl (lv_at hl.1 2 rfl) ?_
        obtain ⟨t11, t12, t13, t14, t15, t16, ht11, h, ei, ej⟩ := st_b_some h
        refine rr_callI (n := 4) (b := t7) (As := [(.int (5 : Int32)), (va_rf v1), (va_rf none), (.int v2)]) (rest := [(va_rf (some t7)), (.int t6), (.int v3), (va_rf v0)]) X hw (kn_ok D ac a0 gl) hKs (kc_xM_init l D ac a0 gl (some t7) (5 : Int32) v1 none v2 _ _ _ _ _ ht11) tb_good tw_191 tw_190 tw_192 tw_193 rfl (by decide +kernel) rfl (show 1 + 1 ≤ _ ∧ 8 + (5 + 11) + 12 ≤ _ from ⟨Nat.le_of_ble_eq_true rfl, Nat.le_of_ble_eq_true rfl⟩) (show t8 + t13 ≤ iT ∧ t9 + t14 ≤ jT from ⟨ar_1 hci ei, ar_1 hcj ej⟩) hl.1.1 (by simp [rf_cat, ic_cat]) rfl dd_xP_unpackArgument_45 (sk := [(va_rf (some t7)), (.int t6), (.int v3), (va_rf v0)]) rfl (fun H locs hw => ?_)
        have hci : t8 + t13 + t15 = iT := ar_2 hci ei
        have hcj : t9 + t14 + t16 = jT := ar_2 hcj ej
        clear ei ej
        generalize t8 + t13 = t17 at hci ⊢
        generalize t9 + t14 = t18 at hcj ⊢
        obtain ⟨t27, ht27, h⟩ := st_g_some h
        obtain ⟨t19, t20, t21, t22, t23, t24, ht19, h, ei, ej⟩ := st_b_some h
        refine rr_callV (n := 3) (As := [(.int v3), (.int t6), (va_rf (some t7))]) (rest := []) X hw (kn_ok D ac a0 gl) hKs (kc_xP_post l D ac a0 gl v0 v3 t6 (some t7) _ _ _ _ _ ht19) tb_good tw_186 tw_91 tw_187 tw_188 se_7 ht27 (by decide +kernel) rfl (show 7 + 1 ≤ _ ∧ 8 + (4 + 11) + 191 ≤ _ from ⟨Nat.le_of_ble_eq_true rfl, Nat.le_of_ble_eq_true rfl⟩) (show t17 + t21 ≤ iT ∧ t18 + t22 ≤ jT from ⟨ar_1 hci ei, ar_1 hcj ej⟩) hl.1.1 (by simp [rf_cat, ic_cat]) rfl dd_xP_unpackArgument_48 (sk := []) rfl (fun H locs hw => ?_)
        have hci : t17 + t21 + t23 = iT := ar_2 hci ei
        have hcj : t18 + t22 + t24 = jT := ar_2 hcj ej
        clear ei ej
        generalize t17 + t21 = t25 at hci ⊢
        generalize t18 + t22 = t26 at hcj ⊢
        obtain ⟨rfl, rfl, rfl, rfl⟩ := st_r_some h
        exact rr_vret X hw hlk hret hci hcj dd_xP_unpackArgument_51
/-! PromiseVats.takeGift(LPromiseVats$Entity;II)V -/
theorem dd_xP_takeGift_0 : decode prog_1_method_40_code 0 = .ok (.iload_n 1, 1) := by decide +kernel
theorem dd_xP_takeGift_1 : decode prog_1_method_40_code 1 = .ok (.iconst 4, 1) := by decide +kernel
theorem dd_xP_takeGift_2 : decode prog_1_method_40_code 2 = .ok (.imul, 1) := by decide +kernel
theorem dd_xP_takeGift_3 : decode prog_1_method_40_code 3 = .ok (.iload_n 2, 1) := by decide +kernel
theorem dd_xP_takeGift_4 : decode prog_1_method_40_code 4 = .ok (.iadd, 1) := by decide +kernel
theorem dd_xP_takeGift_5 : decode prog_1_method_40_code 5 = .ok (.istore_n 3, 1) := by decide +kernel
theorem dd_xP_takeGift_6 : decode prog_1_method_40_code 6 = .ok (.aload_n 0, 1) := by decide +kernel
theorem dd_xP_takeGift_7 : decode prog_1_method_40_code 7 = .ok (.getfield 328, 3) := by decide +kernel
theorem dd_xP_takeGift_10 : decode prog_1_method_40_code 10 = .ok (.iload_n 3, 1) := by decide +kernel
theorem dd_xP_takeGift_11 : decode prog_1_method_40_code 11 = .ok (.iaload, 1) := by decide +kernel
theorem dd_xP_takeGift_12 : decode prog_1_method_40_code 12 = .ok (.ifCond .ge 13, 3) := by decide +kernel
theorem dd_xP_takeGift_15 : decode prog_1_method_40_code 15 = .ok (.aload_n 0, 1) := by decide +kernel
theorem dd_xP_takeGift_16 : decode prog_1_method_40_code 16 = .ok (.getfield 218, 3) := by decide +kernel
theorem dd_xP_takeGift_19 : decode prog_1_method_40_code 19 = .ok (.iload_n 2, 1) := by decide +kernel
theorem dd_xP_takeGift_20 : decode prog_1_method_40_code 20 = .ok (.dup2, 1) := by decide +kernel
theorem dd_xP_takeGift_21 : decode prog_1_method_40_code 21 = .ok (.iaload, 1) := by decide +kernel
theorem dd_xP_takeGift_22 : decode prog_1_method_40_code 22 = .ok (.iconst 1, 1) := by decide +kernel
theorem dd_xP_takeGift_23 : decode prog_1_method_40_code 23 = .ok (.iadd, 1) := by decide +kernel
theorem dd_xP_takeGift_24 : decode prog_1_method_40_code 24 = .ok (.iastore, 1) := by decide +kernel
theorem dd_xP_takeGift_25 : decode prog_1_method_40_code 25 = .ok (.aload_n 0, 1) := by decide +kernel
theorem dd_xP_takeGift_26 : decode prog_1_method_40_code 26 = .ok (.getfield 328, 3) := by decide +kernel
theorem dd_xP_takeGift_29 : decode prog_1_method_40_code 29 = .ok (.iload_n 3, 1) := by decide +kernel
theorem dd_xP_takeGift_30 : decode prog_1_method_40_code 30 = .ok (.dup2, 1) := by decide +kernel
theorem dd_xP_takeGift_31 : decode prog_1_method_40_code 31 = .ok (.iaload, 1) := by decide +kernel
theorem dd_xP_takeGift_32 : decode prog_1_method_40_code 32 = .ok (.iconst 1, 1) := by decide +kernel
theorem dd_xP_takeGift_33 : decode prog_1_method_40_code 33 = .ok (.iadd, 1) := by decide +kernel
theorem dd_xP_takeGift_34 : decode prog_1_method_40_code 34 = .ok (.iastore, 1) := by decide +kernel
theorem dd_xP_takeGift_35 : decode prog_1_method_40_code 35 = .ok (.return_, 1) := by decide +kernel
set_option maxHeartbeats 4000000 in
set_option maxRecDepth 100000 in
theorem kb_xP_takeGift_b25 {p : Program} {l : Launch} {e : Env} {s : State} {m : MethodId} {args : Array Value} {below : List Frame} {meth : Method} {c : Code} {D : va_G} {ac : Nat → ClassId} {a0 : Nat} {gl : gl_T} {rF : Unit} {stF : st_S} {iT jT : Nat}
    (X : cx_ p s m args c prog_1_method_40_code 4 "PromiseVats" tb_ D cl_ (ty_ ac)) (hKs : kn_ D ac a0 gl s) (hlk : meth.locks = false) (hret : meth.sig.returnType = (Option.none : Option FieldType)) (hnm : meth.name = "takeGift") : wk_ p l e 0 0 s m args below meth c D cl_ ac a0 4 vb_u rF stF iT jT 25 (fun x : Option Nat × Int32 => [(0, (va_rf x.1)), (3, (.int x.2))]) (fun x : Option Nat × Int32 => []) (fun x : Option Nat × Int32 => xP_takeGift_b25 gl x.1 x.2) := by
  intro x st H locs cells slots i j ls hw hl h hci hcj
  obtain ⟨p0, p3⟩ := x
  have h : xP_takeGift_b25 gl p0 p3 st = some (rF, stF, i, j) := h
  unfold xP_takeGift_b25 at h
  have hl : lh_ ls 4 [(0, (va_rf p0)), (3, (.int p3))] := hl
  refine W.eq (g2 := F0 m 25 ls []) rfl ?_
  refine rr_aldn X dd_xP_takeGift_25 rfl (lv_at hl.1 0 rfl) ?_
  obtain ⟨t6, ht6, h⟩ := st_g_some h
  refine rr_getq X hw ff_3_4_9 ht6 tw_329 (Or.inl rfl) dd_xP_takeGift_26 ?_
  refine lv_iload_n X.1 X.2.1 dd_xP_takeGift_29 rfl (lv_at hl.1 1 rfl) ?_
  refine lv_dup2_11 X.1 X.2.1 dd_xP_takeGift_30 rfl (rf_cat _) ?_
  obtain ⟨t7, ht7, h⟩ := st_g_some h
  refine rr_iald (t := 0) X hw rfl ht7 dd_xP_takeGift_31 ?_
  refine lv_iconst (v := (1 : Int32)) X.1 X.2.1 dd_xP_takeGift_32 (by decide) ?_
  refine lv_iadd X.1 X.2.1 dd_xP_takeGift_33 ?_
  obtain ⟨t8, hp34, h⟩ := st_w_some h
  refine rr_iast (t := 0) X hw rfl hp34 dd_xP_takeGift_34 (fun H locs hw => ?_)
  obtain ⟨rfl, rfl, rfl, rfl⟩ := st_r_some h
  exact rr_vret X hw hlk hret hci hcj dd_xP_takeGift_35
set_option maxHeartbeats 4000000 in
set_option maxRecDepth 100000 in
theorem kc_xP_takeGift (l : Launch) (D : va_G) (ac : Nat → ClassId) (a0 : Nat) (gl : gl_T) (v0 : Option Nat) (v1 : Int32) (v2 : Int32) (st : st_S) (rF : Unit) (stF : st_S) (iT jT : Nat) (h : xP_takeGift gl v0 v1 v2 st = some (rF, stF, iT, jT)) :
    ct_ l ⟨"PromiseVats", "takeGift", "(LPromiseVats$Entity;II)V"⟩ (Cond.code ⟨"PromiseVats", "takeGift", "(LPromiseVats$Entity;II)V"⟩ prog_1_method_40_code 4 (Option.none : Option FieldType) :: tb_) 0 0 D cl_ ac a0 (kn_ D ac a0 gl) [(va_rf v0), (.int v1), (.int v2)] st (vb_u rF) stF iT jT := by
  refine ct_of (kn_ok D ac a0 gl) (plainFor_of_name (by decide +kernel)) (by simp [rf_cat, ic_cat]) (by simp) ?_
  intro p e s m args below meth c ls X hw hKs hlk hret hnm hl
  unfold xP_takeGift at h
  have hl : lh_ ls 4 [(0, (va_rf v0)), (1, (.int v1)), (2, (.int v2))] := hl
  obtain ⟨z0, hz0⟩ : ∃ z : Nat, 0 = z := ⟨0, rfl⟩
  obtain ⟨z1, hz1⟩ : ∃ z : Nat, 0 = z := ⟨0, rfl⟩
  refine W.cs hz0 hz1 ?_
  have hci : z0 + iT = iT := by omega
  have hcj : z1 + jT = jT := by omega
  refine lv_iload_n X.1 X.2.1 dd_xP_takeGift_0 rfl (lv_at hl.1 1 rfl) ?_
  refine lv_iconst (v := (4 : Int32)) X.1 X.2.1 dd_xP_takeGift_1 (by decide) ?_
  refine lv_imul X.1 X.2.1 dd_xP_takeGift_2 ?_
  refine lv_iload_n X.1 X.2.1 dd_xP_takeGift_3 rfl (lv_at hl.1 2 rfl) ?_
  refine lv_iadd X.1 X.2.1 dd_xP_takeGift_4 ?_
  refine rr_istn (lv' := [(3, (.int ((v1 * (4 : Int32)) + v2))), (0, (va_rf v0)), (1, (.int v1)), (2, (.int v2))]) X dd_xP_takeGift_5 rfl hl (by decide) rfl (fun ls hl => ?_)
  refine rr_aldn X dd_xP_takeGift_6 rfl (lv_at hl.1 1 rfl) ?_
  obtain ⟨t1, ht1, h⟩ := st_g_some h
  refine rr_getq X hw ff_3_4_9 ht1 tw_329 (Or.inl rfl) dd_xP_takeGift_7 ?_
  refine lv_iload_n X.1 X.2.1 dd_xP_takeGift_10 rfl (lv_at hl.1 0 rfl) ?_
  obtain ⟨t2, ht2, h⟩ := st_g_some h
  refine rr_iald (t := 0) X hw rfl ht2 dd_xP_takeGift_11 ?_
  by_cases hc12 : 0 ≤ t2
  · rw [if_pos hc12] at h
    refine lv_if_ge (tgt := 25) X.1 X.2.1 dd_xP_takeGift_12 (by decide) (fun _ => ?_) (fun z => absurd hc12 z)
    exact (kb_xP_takeGift_b25 X hKs hlk hret hnm) (v0, ((v1 * (4 : Int32)) + v2)) _ _ _ _ _ _ _ _ hw (lh_pk hl [1, 0] rfl) h hci hcj
  · rw [if_neg hc12] at h
    refine lv_if_ge (tgt := 25) X.1 X.2.1 dd_xP_takeGift_12 (by decide) (fun z => absurd z hc12) (fun _ => ?_)
    refine rr_aldn X dd_xP_takeGift_15 rfl (lv_at hl.1 1 rfl) ?_
    obtain ⟨t3, ht3, h⟩ := st_g_some h
    refine rr_getq X hw ff_3_4_7 ht3 tw_185 (Or.inl rfl) dd_xP_takeGift_16 ?_
    refine lv_iload_n X.1 X.2.1 dd_xP_takeGift_19 rfl (lv_at hl.1 3 rfl) ?_
    refine lv_dup2_11 X.1 X.2.1 dd_xP_takeGift_20 rfl (rf_cat _) ?_
    obtain ⟨t4, ht4, h⟩ := st_g_some h
    refine rr_iald (t := 0) X hw rfl ht4 dd_xP_takeGift_21 ?_
    refine lv_iconst (v := (1 : Int32)) X.1 X.2.1 dd_xP_takeGift_22 (by decide) ?_
    refine lv_iadd X.1 X.2.1 dd_xP_takeGift_23 ?_
    obtain ⟨t5, hp24, h⟩ := st_w_some h
    refine rr_iast (t := 0) X hw rfl hp24 dd_xP_takeGift_24 (fun H locs hw => ?_)
    exact (kb_xP_takeGift_b25 X hKs hlk hret hnm) (v0, ((v1 * (4 : Int32)) + v2)) _ _ _ _ _ _ _ _ hw (lh_pk hl [1, 0] rfl) h hci hcj
/-! PromiseVats.takeRedeem(LPromiseVats$Entity;II)V -/
theorem dd_xP_takeRedeem_0 : decode prog_1_method_41_code 0 = .ok (.iload_n 1, 1) := by decide +kernel
theorem dd_xP_takeRedeem_1 : decode prog_1_method_41_code 1 = .ok (.iconst 4, 1) := by decide +kernel
theorem dd_xP_takeRedeem_2 : decode prog_1_method_41_code 2 = .ok (.imul, 1) := by decide +kernel
theorem dd_xP_takeRedeem_3 : decode prog_1_method_41_code 3 = .ok (.iload_n 2, 1) := by decide +kernel
theorem dd_xP_takeRedeem_4 : decode prog_1_method_41_code 4 = .ok (.iadd, 1) := by decide +kernel
theorem dd_xP_takeRedeem_5 : decode prog_1_method_41_code 5 = .ok (.istore_n 3, 1) := by decide +kernel
theorem dd_xP_takeRedeem_6 : decode prog_1_method_41_code 6 = .ok (.aload_n 0, 1) := by decide +kernel
theorem dd_xP_takeRedeem_7 : decode prog_1_method_41_code 7 = .ok (.getfield 328, 3) := by decide +kernel
theorem dd_xP_takeRedeem_10 : decode prog_1_method_41_code 10 = .ok (.iload_n 3, 1) := by decide +kernel
theorem dd_xP_takeRedeem_11 : decode prog_1_method_41_code 11 = .ok (.iaload, 1) := by decide +kernel
theorem dd_xP_takeRedeem_12 : decode prog_1_method_41_code 12 = .ok (.ifCond .le 13, 3) := by decide +kernel
theorem dd_xP_takeRedeem_15 : decode prog_1_method_41_code 15 = .ok (.aload_n 0, 1) := by decide +kernel
theorem dd_xP_takeRedeem_16 : decode prog_1_method_41_code 16 = .ok (.getfield 218, 3) := by decide +kernel
theorem dd_xP_takeRedeem_19 : decode prog_1_method_41_code 19 = .ok (.iload_n 2, 1) := by decide +kernel
theorem dd_xP_takeRedeem_20 : decode prog_1_method_41_code 20 = .ok (.dup2, 1) := by decide +kernel
theorem dd_xP_takeRedeem_21 : decode prog_1_method_41_code 21 = .ok (.iaload, 1) := by decide +kernel
theorem dd_xP_takeRedeem_22 : decode prog_1_method_41_code 22 = .ok (.iconst 1, 1) := by decide +kernel
theorem dd_xP_takeRedeem_23 : decode prog_1_method_41_code 23 = .ok (.iadd, 1) := by decide +kernel
theorem dd_xP_takeRedeem_24 : decode prog_1_method_41_code 24 = .ok (.iastore, 1) := by decide +kernel
theorem dd_xP_takeRedeem_25 : decode prog_1_method_41_code 25 = .ok (.aload_n 0, 1) := by decide +kernel
theorem dd_xP_takeRedeem_26 : decode prog_1_method_41_code 26 = .ok (.getfield 328, 3) := by decide +kernel
theorem dd_xP_takeRedeem_29 : decode prog_1_method_41_code 29 = .ok (.iload_n 3, 1) := by decide +kernel
theorem dd_xP_takeRedeem_30 : decode prog_1_method_41_code 30 = .ok (.dup2, 1) := by decide +kernel
theorem dd_xP_takeRedeem_31 : decode prog_1_method_41_code 31 = .ok (.iaload, 1) := by decide +kernel
theorem dd_xP_takeRedeem_32 : decode prog_1_method_41_code 32 = .ok (.iconst 1, 1) := by decide +kernel
theorem dd_xP_takeRedeem_33 : decode prog_1_method_41_code 33 = .ok (.isub, 1) := by decide +kernel
theorem dd_xP_takeRedeem_34 : decode prog_1_method_41_code 34 = .ok (.iastore, 1) := by decide +kernel
theorem dd_xP_takeRedeem_35 : decode prog_1_method_41_code 35 = .ok (.return_, 1) := by decide +kernel
set_option maxHeartbeats 4000000 in
set_option maxRecDepth 100000 in
theorem kb_xP_takeRedeem_b25 {p : Program} {l : Launch} {e : Env} {s : State} {m : MethodId} {args : Array Value} {below : List Frame} {meth : Method} {c : Code} {D : va_G} {ac : Nat → ClassId} {a0 : Nat} {gl : gl_T} {rF : Unit} {stF : st_S} {iT jT : Nat}
    (X : cx_ p s m args c prog_1_method_41_code 4 "PromiseVats" tb_ D cl_ (ty_ ac)) (hKs : kn_ D ac a0 gl s) (hlk : meth.locks = false) (hret : meth.sig.returnType = (Option.none : Option FieldType)) (hnm : meth.name = "takeRedeem") : wk_ p l e 0 0 s m args below meth c D cl_ ac a0 4 vb_u rF stF iT jT 25 (fun x : Option Nat × Int32 => [(0, (va_rf x.1)), (3, (.int x.2))]) (fun x : Option Nat × Int32 => []) (fun x : Option Nat × Int32 => xP_takeRedeem_b25 gl x.1 x.2) := by
  intro x st H locs cells slots i j ls hw hl h hci hcj
  obtain ⟨p0, p3⟩ := x
  have h : xP_takeRedeem_b25 gl p0 p3 st = some (rF, stF, i, j) := h
  unfold xP_takeRedeem_b25 at h
  have hl : lh_ ls 4 [(0, (va_rf p0)), (3, (.int p3))] := hl
  refine W.eq (g2 := F0 m 25 ls []) rfl ?_
  refine rr_aldn X dd_xP_takeRedeem_25 rfl (lv_at hl.1 0 rfl) ?_
  obtain ⟨t6, ht6, h⟩ := st_g_some h
  refine rr_getq X hw ff_3_4_9 ht6 tw_329 (Or.inl rfl) dd_xP_takeRedeem_26 ?_
  refine lv_iload_n X.1 X.2.1 dd_xP_takeRedeem_29 rfl (lv_at hl.1 1 rfl) ?_
  refine lv_dup2_11 X.1 X.2.1 dd_xP_takeRedeem_30 rfl (rf_cat _) ?_
  obtain ⟨t7, ht7, h⟩ := st_g_some h
  refine rr_iald (t := 0) X hw rfl ht7 dd_xP_takeRedeem_31 ?_
  refine lv_iconst (v := (1 : Int32)) X.1 X.2.1 dd_xP_takeRedeem_32 (by decide) ?_
  refine lv_isub X.1 X.2.1 dd_xP_takeRedeem_33 ?_
  obtain ⟨t8, hp34, h⟩ := st_w_some h
  refine rr_iast (t := 0) X hw rfl hp34 dd_xP_takeRedeem_34 (fun H locs hw => ?_)
  obtain ⟨rfl, rfl, rfl, rfl⟩ := st_r_some h
  exact rr_vret X hw hlk hret hci hcj dd_xP_takeRedeem_35
set_option maxHeartbeats 4000000 in
set_option maxRecDepth 100000 in
theorem kc_xP_takeRedeem (l : Launch) (D : va_G) (ac : Nat → ClassId) (a0 : Nat) (gl : gl_T) (v0 : Option Nat) (v1 : Int32) (v2 : Int32) (st : st_S) (rF : Unit) (stF : st_S) (iT jT : Nat) (h : xP_takeRedeem gl v0 v1 v2 st = some (rF, stF, iT, jT)) :
    ct_ l ⟨"PromiseVats", "takeRedeem", "(LPromiseVats$Entity;II)V"⟩ (Cond.code ⟨"PromiseVats", "takeRedeem", "(LPromiseVats$Entity;II)V"⟩ prog_1_method_41_code 4 (Option.none : Option FieldType) :: tb_) 0 0 D cl_ ac a0 (kn_ D ac a0 gl) [(va_rf v0), (.int v1), (.int v2)] st (vb_u rF) stF iT jT := by
  refine ct_of (kn_ok D ac a0 gl) (plainFor_of_name (by decide +kernel)) (by simp [rf_cat, ic_cat]) (by simp) ?_
  intro p e s m args below meth c ls X hw hKs hlk hret hnm hl
  unfold xP_takeRedeem at h
  have hl : lh_ ls 4 [(0, (va_rf v0)), (1, (.int v1)), (2, (.int v2))] := hl
  obtain ⟨z0, hz0⟩ : ∃ z : Nat, 0 = z := ⟨0, rfl⟩
  obtain ⟨z1, hz1⟩ : ∃ z : Nat, 0 = z := ⟨0, rfl⟩
  refine W.cs hz0 hz1 ?_
  have hci : z0 + iT = iT := by omega
  have hcj : z1 + jT = jT := by omega
  refine lv_iload_n X.1 X.2.1 dd_xP_takeRedeem_0 rfl (lv_at hl.1 1 rfl) ?_
  refine lv_iconst (v := (4 : Int32)) X.1 X.2.1 dd_xP_takeRedeem_1 (by decide) ?_
  refine lv_imul X.1 X.2.1 dd_xP_takeRedeem_2 ?_
  refine lv_iload_n X.1 X.2.1 dd_xP_takeRedeem_3 rfl (lv_at hl.1 2 rfl) ?_
  refine lv_iadd X.1 X.2.1 dd_xP_takeRedeem_4 ?_
  refine rr_istn (lv' := [(3, (.int ((v1 * (4 : Int32)) + v2))), (0, (va_rf v0)), (1, (.int v1)), (2, (.int v2))]) X dd_xP_takeRedeem_5 rfl hl (by decide) rfl (fun ls hl => ?_)
  refine rr_aldn X dd_xP_takeRedeem_6 rfl (lv_at hl.1 1 rfl) ?_
  obtain ⟨t1, ht1, h⟩ := st_g_some h
  refine rr_getq X hw ff_3_4_9 ht1 tw_329 (Or.inl rfl) dd_xP_takeRedeem_7 ?_
  refine lv_iload_n X.1 X.2.1 dd_xP_takeRedeem_10 rfl (lv_at hl.1 0 rfl) ?_
  obtain ⟨t2, ht2, h⟩ := st_g_some h
  refine rr_iald (t := 0) X hw rfl ht2 dd_xP_takeRedeem_11 ?_
  by_cases hc12 : t2 ≤ 0
  · rw [if_pos hc12] at h
    refine lv_if_le (tgt := 25) X.1 X.2.1 dd_xP_takeRedeem_12 (by decide) (fun _ => ?_) (fun z => absurd hc12 z)
    exact (kb_xP_takeRedeem_b25 X hKs hlk hret hnm) (v0, ((v1 * (4 : Int32)) + v2)) _ _ _ _ _ _ _ _ hw (lh_pk hl [1, 0] rfl) h hci hcj
  · rw [if_neg hc12] at h
    refine lv_if_le (tgt := 25) X.1 X.2.1 dd_xP_takeRedeem_12 (by decide) (fun z => absurd z hc12) (fun _ => ?_)
    refine rr_aldn X dd_xP_takeRedeem_15 rfl (lv_at hl.1 1 rfl) ?_
    obtain ⟨t3, ht3, h⟩ := st_g_some h
    refine rr_getq X hw ff_3_4_7 ht3 tw_185 (Or.inl rfl) dd_xP_takeRedeem_16 ?_
    refine lv_iload_n X.1 X.2.1 dd_xP_takeRedeem_19 rfl (lv_at hl.1 3 rfl) ?_
    refine lv_dup2_11 X.1 X.2.1 dd_xP_takeRedeem_20 rfl (rf_cat _) ?_
    obtain ⟨t4, ht4, h⟩ := st_g_some h
    refine rr_iald (t := 0) X hw rfl ht4 dd_xP_takeRedeem_21 ?_
    refine lv_iconst (v := (1 : Int32)) X.1 X.2.1 dd_xP_takeRedeem_22 (by decide) ?_
    refine lv_iadd X.1 X.2.1 dd_xP_takeRedeem_23 ?_
    obtain ⟨t5, hp24, h⟩ := st_w_some h
    refine rr_iast (t := 0) X hw rfl hp24 dd_xP_takeRedeem_24 (fun H locs hw => ?_)
    exact (kb_xP_takeRedeem_b25 X hKs hlk hret hnm) (v0, ((v1 * (4 : Int32)) + v2)) _ _ _ _ _ _ _ _ hw (lh_pk hl [1, 0] rfl) h hci hcj
