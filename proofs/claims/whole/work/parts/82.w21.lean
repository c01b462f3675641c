/-! PromiseVats.resolved(I)I -/
theorem dd_xP_resolved_0 : decode prog_1_method_17_code 0 = .ok (.aload_n 0, 1) := by decide +kernel
theorem dd_xP_resolved_1 : decode prog_1_method_17_code 1 = .ok (.iload_n 1, 1) := by decide +kernel
theorem dd_xP_resolved_2 : decode prog_1_method_17_code 2 = .ok (.invokevirtual 215, 3) := by decide +kernel
theorem dd_xP_resolved_5 : decode prog_1_method_17_code 5 = .ok (.astore_n 3, 1) := by decide +kernel
theorem dd_xP_resolved_6 : decode prog_1_method_17_code 6 = .ok (.aload_n 3, 1) := by decide +kernel
theorem dd_xP_resolved_7 : decode prog_1_method_17_code 7 = .ok (.instanceof 43, 3) := by decide +kernel
theorem dd_xP_resolved_10 : decode prog_1_method_17_code 10 = .ok (.ifCond .eq 23, 3) := by decide +kernel
theorem dd_xP_resolved_13 : decode prog_1_method_17_code 13 = .ok (.aload_n 3, 1) := by decide +kernel
theorem dd_xP_resolved_14 : decode prog_1_method_17_code 14 = .ok (.checkcast 43, 3) := by decide +kernel
theorem dd_xP_resolved_17 : decode prog_1_method_17_code 17 = .ok (.astore_n 2, 1) := by decide +kernel
theorem dd_xP_resolved_18 : decode prog_1_method_17_code 18 = .ok (.aload_n 2, 1) := by decide +kernel
theorem dd_xP_resolved_19 : decode prog_1_method_17_code 19 = .ok (.getfield 229, 3) := by decide +kernel
theorem dd_xP_resolved_22 : decode prog_1_method_17_code 22 = .ok (.ifCond .ne 11, 3) := by decide +kernel
theorem dd_xP_resolved_25 : decode prog_1_method_17_code 25 = .ok (.aload_n 2, 1) := by decide +kernel
theorem dd_xP_resolved_26 : decode prog_1_method_17_code 26 = .ok (.getfield 233, 3) := by decide +kernel
theorem dd_xP_resolved_29 : decode prog_1_method_17_code 29 = .ok (.invokestatic 222, 3) := by decide +kernel
theorem dd_xP_resolved_32 : decode prog_1_method_17_code 32 = .ok (.ireturn, 1) := by decide +kernel
theorem dd_xP_resolved_33 : decode prog_1_method_17_code 33 = .ok (.iconst (-1), 1) := by decide +kernel
theorem dd_xP_resolved_34 : decode prog_1_method_17_code 34 = .ok (.ireturn, 1) := by decide +kernel
set_option maxHeartbeats 4000000 in
set_option maxRecDepth 100000 in
theorem kb_xP_resolved_b33 {p : Program} {l : Launch} {e : Env} {s : State} {m : MethodId} {args : Array Value} {below : List Frame} {meth : Method} {c : Code} {D : va_G} {ac : Nat → ClassId} {a0 : Nat} {gl : gl_T} {rF : Int32} {stF : st_S} {iT jT : Nat}
    (X : cx_ p s m args c prog_1_method_17_code 4 "PromiseVats" tb_ D cl_ (ty_ ac)) (hKs : kn_ D ac a0 gl s) (hlk : meth.locks = false) (hret : meth.sig.returnType = (Option.some FieldType.int)) (hnm : meth.name = "resolved") : wk_ p l e 2 43 s m args below meth c D cl_ ac a0 4 vb_i rF stF iT jT 33 (fun x : Unit => []) (fun x : Unit => []) (fun _ : Unit => xP_resolved_b33 gl) := by
  intro x st H locs cells slots i j ls hw hl h hci hcj
  have h : xP_resolved_b33 gl  st = some (rF, stF, i, j) := h
  unfold xP_resolved_b33 at h
  have hl : lh_ ls 4 [] := hl
  refine W.eq (g2 := F0 m 33 ls []) rfl ?_
  refine lv_iconst (v := (-1 : Int32)) X.1 X.2.1 dd_xP_resolved_33 (by decide) ?_
  obtain ⟨rfl, rfl, rfl, rfl⟩ := st_r_some h
  exact rr_iret X hw hlk hret rfl hci hcj dd_xP_resolved_34
set_option maxHeartbeats 4000000 in
set_option maxRecDepth 100000 in
theorem kc_xP_resolved (l : Launch) (D : va_G) (ac : Nat → ClassId) (a0 : Nat) (gl : gl_T) (v0 : Option Nat) (v1 : Int32) (st : st_S) (rF : Int32) (stF : st_S) (iT jT : Nat) (h : xP_resolved gl v0 v1 st = some (rF, stF, iT, jT)) :
    ct_ l ⟨"PromiseVats", "resolved", "(I)I"⟩ (Cond.code ⟨"PromiseVats", "resolved", "(I)I"⟩ prog_1_method_17_code 4 (Option.some FieldType.int) :: tb_) 2 43 D cl_ ac a0 (kn_ D ac a0 gl) [(va_rf v0), (.int v1)] st (vb_i rF) stF iT jT := by
  refine ct_of (kn_ok D ac a0 gl) (plainFor_of_name (by decide +kernel)) (by simp [rf_cat, ic_cat]) (by simp) ?_
  intro p e s m args below meth c ls X hw hKs hlk hret hnm hl
  unfold xP_resolved at h
  have hl : lh_ ls 4 [(0, (va_rf v0)), (1, (.int v1))] := hl
  obtain ⟨z0, hz0⟩ : ∃ z : Nat, 0 = z := ⟨0, rfl⟩
  obtain ⟨z1, hz1⟩ : ∃ z : Nat, 0 = z := ⟨0, rfl⟩
  refine W.cs hz0 hz1 ?_
  have hci : z0 + iT = iT := by omega
  have hcj : z1 + jT = jT := by omega
  refine rr_aldn X dd_xP_resolved_0 rfl (lv_at hl.1 0 rfl) ?_
  refine lv_iload_n X.1 X.2.1 dd_xP_resolved_1 rfl (lv_at hl.1 1 rfl) ?_
  obtain ⟨t21, ht21, h⟩ := st_g_some h
  obtain ⟨t1, t2, t3, t4, t5, t6, ht1, h, ei, ej⟩ := st_b_some h
  refine rr_callV (n := 1) (As := [(.int v1)]) (rest := []) X hw (kn_ok D ac a0 gl) hKs (kc_xP_liveEntity l D ac a0 gl v0 v1 _ _ _ _ _ ht1) tb_good tw_426 tw_91 tw_427 tw_428 se_42 ht21 (by decide +kernel) rfl (show 1 + 1 ≤ _ ∧ 8 + (3 + 11) + 21 ≤ _ from ⟨Nat.le_of_ble_eq_true rfl, Nat.le_of_ble_eq_true rfl⟩) (show z0 + t3 ≤ iT ∧ z1 + t4 ≤ jT from ⟨ar_1 hci ei, ar_1 hcj ej⟩) hl.1.1 (by simp [rf_cat, ic_cat]) rfl dd_xP_resolved_2 (sk := [(va_rf t1)]) rfl (fun H locs hw => ?_)
  have hci : z0 + t3 + t5 = iT := ar_2 hci ei
  have hcj : z1 + t4 + t6 = jT := ar_2 hcj ej
  clear ei ej
  generalize z0 + t3 = t7 at hci ⊢
  generalize z1 + t4 = t8 at hcj ⊢
  refine rr_astn (lv' := [(3, (va_rf t1)), (0, (va_rf v0)), (1, (.int v1))]) X dd_xP_resolved_5 rfl hl (by decide) rfl (fun ls hl => ?_)
  refine rr_aldn X dd_xP_resolved_6 rfl (lv_at hl.1 0 rfl) ?_
  obtain ⟨t9, ht9, h⟩ := st_g_some h
  refine rr_inst X hw (ti_Q_y hKs) (ti_Q_n hKs) ht9 tw_55 dd_xP_resolved_7 ?_
  by_cases hc10 : t9 = 0
  · rw [if_pos hc10] at h
    refine lv_if_eq (tgt := 33) X.1 X.2.1 dd_xP_resolved_10 (by decide) (fun _ => ?_) (fun z => absurd hc10 z)
    exact (kb_xP_resolved_b33 X hKs hlk hret hnm) () _ _ _ _ _ _ _ _ hw (lh_pk hl [] rfl) h hci hcj
  · rw [if_neg hc10] at h
    refine lv_if_eq (tgt := 33) X.1 X.2.1 dd_xP_resolved_10 (by decide) (fun z => absurd z hc10) (fun _ => ?_)
    refine rr_aldn X dd_xP_resolved_13 rfl (lv_at hl.1 0 rfl) ?_
    obtain ⟨t10, ht10, h⟩ := st_g_some h
    refine rr_cast X hw (ti_Q_y hKs) ht10 tw_55 dd_xP_resolved_14 ?_
    refine rr_astn (lv' := [(2, (va_rf t1)), (3, (va_rf t1)), (0, (va_rf v0)), (1, (.int v1))]) X dd_xP_resolved_17 rfl hl (by decide) rfl (fun ls hl => ?_)
    refine rr_aldn X dd_xP_resolved_18 rfl (lv_at hl.1 0 rfl) ?_
    obtain ⟨t11, ht11, h⟩ := st_g_some h
    refine rr_geti X hw ff_4_0 ht11 tw_214 (Or.inl rfl) dd_xP_resolved_19 ?_
    by_cases hc22 : t11 = 0
    · rw [if_pos hc22] at h
      refine lv_if_ne (tgt := 33) X.1 X.2.1 dd_xP_resolved_22 (by decide) (fun z => absurd hc22 z) (fun _ => ?_)
      refine rr_aldn X dd_xP_resolved_25 rfl (lv_at hl.1 0 rfl) ?_
      obtain ⟨t12, ht12, h⟩ := st_g_some h
      refine rr_getq X hw ff_4_1 ht12 tw_209 (Or.inl rfl) dd_xP_resolved_26 ?_
      obtain ⟨t13, t14, t15, t16, t17, t18, ht13, h, ei, ej⟩ := st_b_some h
      refine rr_callS (n := 1) (As := [(va_rf t12)]) (rest := []) X hw (kn_ok D ac a0 gl) hKs (kc_xP_referenceTo l D ac a0 gl t12 _ _ _ _ _ ht13) tb_good tw_431 tw_91 tw_432 tw_433 (by decide +kernel) rfl (show 0 + 1 ≤ _ ∧ 8 + (1 + 11) + 0 ≤ _ from ⟨Nat.le_of_ble_eq_true rfl, Nat.le_of_ble_eq_true rfl⟩) (show t7 + t15 ≤ iT ∧ t8 + t16 ≤ jT from ⟨ar_1 hci ei, ar_1 hcj ej⟩) hl.1.1 (by simp [rf_cat, ic_cat]) rfl dd_xP_resolved_29 (sk := [(.int t13)]) rfl (fun H locs hw => ?_)
      have hci : t7 + t15 + t17 = iT := ar_2 hci ei
      have hcj : t8 + t16 + t18 = jT := ar_2 hcj ej
      clear ei ej
      generalize t7 + t15 = t19 at hci ⊢
      generalize t8 + t16 = t20 at hcj ⊢
      obtain ⟨rfl, rfl, rfl, rfl⟩ := st_r_some h
      exact rr_iret X hw hlk hret rfl hci hcj dd_xP_resolved_32
    · rw [if_neg hc22] at h
      refine lv_if_ne (tgt := 33) X.1 X.2.1 dd_xP_resolved_22 (by decide) (fun _ => ?_) (fun z => absurd z hc22)
      exact (kb_xP_resolved_b33 X hKs hlk hret hnm) () _ _ _ _ _ _ _ _ hw (lh_pk hl [] rfl) h hci hcj
/-! PromiseVats.output(II)I -/
theorem dd_xP_output_0 : decode prog_1_method_18_code 0 = .ok (.aload_n 0, 1) := by decide +kernel
theorem dd_xP_output_1 : decode prog_1_method_18_code 1 = .ok (.iload_n 1, 1) := by decide +kernel
theorem dd_xP_output_2 : decode prog_1_method_18_code 2 = .ok (.invokevirtual 83, 3) := by decide +kernel
theorem dd_xP_output_5 : decode prog_1_method_18_code 5 = .ok (.ifCond .eq 27, 3) := by decide +kernel
theorem dd_xP_output_8 : decode prog_1_method_18_code 8 = .ok (.iload_n 2, 1) := by decide +kernel
theorem dd_xP_output_9 : decode prog_1_method_18_code 9 = .ok (.ifCond .lt 23, 3) := by decide +kernel
theorem dd_xP_output_12 : decode prog_1_method_18_code 12 = .ok (.iload_n 2, 1) := by decide +kernel
theorem dd_xP_output_13 : decode prog_1_method_18_code 13 = .ok (.bipush 10, 2) := by decide +kernel
theorem dd_xP_output_15 : decode prog_1_method_18_code 15 = .ok (.if_icmp .ge 17, 3) := by decide +kernel
theorem dd_xP_output_18 : decode prog_1_method_18_code 18 = .ok (.aload_n 0, 1) := by decide +kernel
theorem dd_xP_output_19 : decode prog_1_method_18_code 19 = .ok (.getfield 20, 3) := by decide +kernel
theorem dd_xP_output_22 : decode prog_1_method_18_code 22 = .ok (.iload_n 1, 1) := by decide +kernel
theorem dd_xP_output_23 : decode prog_1_method_18_code 23 = .ok (.aaload, 1) := by decide +kernel
theorem dd_xP_output_24 : decode prog_1_method_18_code 24 = .ok (.getfield 236, 3) := by decide +kernel
theorem dd_xP_output_27 : decode prog_1_method_18_code 27 = .ok (.iload_n 2, 1) := by decide +kernel
theorem dd_xP_output_28 : decode prog_1_method_18_code 28 = .ok (.iaload, 1) := by decide +kernel
theorem dd_xP_output_29 : decode prog_1_method_18_code 29 = .ok (.goto 4, 3) := by decide +kernel
theorem dd_xP_output_32 : decode prog_1_method_18_code 32 = .ok (.iconst 0, 1) := by decide +kernel
theorem dd_xP_output_33 : decode prog_1_method_18_code 33 = .ok (.ireturn, 1) := by decide +kernel
set_option maxHeartbeats 4000000 in
set_option maxRecDepth 100000 in
theorem kb_xP_output_b32 {p : Program} {l : Launch} {e : Env} {s : State} {m : MethodId} {args : Array Value} {below : List Frame} {meth : Method} {c : Code} {D : va_G} {ac : Nat → ClassId} {a0 : Nat} {gl : gl_T} {rF : Int32} {stF : st_S} {iT jT : Nat}
    (X : cx_ p s m args c prog_1_method_18_code 3 "PromiseVats" tb_ D cl_ (ty_ ac)) (hKs : kn_ D ac a0 gl s) (hlk : meth.locks = false) (hret : meth.sig.returnType = (Option.some FieldType.int)) (hnm : meth.name = "output") : wk_ p l e 1 21 s m args below meth c D cl_ ac a0 3 vb_i rF stF iT jT 32 (fun x : Unit => []) (fun x : Unit => []) (fun _ : Unit => xP_output_b32 gl) := by
  intro x st H locs cells slots i j ls hw hl h hci hcj
  have h : xP_output_b32 gl  st = some (rF, stF, i, j) := h
  unfold xP_output_b32 at h
  have hl : lh_ ls 3 [] := hl
  refine W.eq (g2 := F0 m 32 ls []) rfl ?_
  refine lv_iconst (v := (0 : Int32)) X.1 X.2.1 dd_xP_output_32 (by decide) ?_
  obtain ⟨rfl, rfl, rfl, rfl⟩ := st_r_some h
  exact rr_iret X hw hlk hret rfl hci hcj dd_xP_output_33
set_option maxHeartbeats 4000000 in
set_option maxRecDepth 100000 in
theorem kc_xP_output (l : Launch) (D : va_G) (ac : Nat → ClassId) (a0 : Nat) (gl : gl_T) (v0 : Option Nat) (v1 : Int32) (v2 : Int32) (st : st_S) (rF : Int32) (stF : st_S) (iT jT : Nat) (h : xP_output gl v0 v1 v2 st = some (rF, stF, iT, jT)) :
    ct_ l ⟨"PromiseVats", "output", "(II)I"⟩ (Cond.code ⟨"PromiseVats", "output", "(II)I"⟩ prog_1_method_18_code 3 (Option.some FieldType.int) :: tb_) 1 21 D cl_ ac a0 (kn_ D ac a0 gl) [(va_rf v0), (.int v1), (.int v2)] st (vb_i rF) stF iT jT := by
  refine ct_of (kn_ok D ac a0 gl) (plainFor_of_name (by decide +kernel)) (by simp [rf_cat, ic_cat]) (by simp) ?_
  intro p e s m args below meth c ls X hw hKs hlk hret hnm hl
  unfold xP_output at h
  have hl : lh_ ls 3 [(0, (va_rf v0)), (1, (.int v1)), (2, (.int v2))] := hl
  obtain ⟨z0, hz0⟩ : ∃ z : Nat, 0 = z := ⟨0, rfl⟩
  obtain ⟨z1, hz1⟩ : ∃ z : Nat, 0 = z := ⟨0, rfl⟩
  refine W.cs hz0 hz1 ?_
  have hci : z0 + iT = iT := by omega
  have hcj : z1 + jT = jT := by omega
  refine rr_aldn X dd_xP_output_0 rfl (lv_at hl.1 0 rfl) ?_
  refine lv_iload_n X.1 X.2.1 dd_xP_output_1 rfl (lv_at hl.1 1 rfl) ?_
  obtain ⟨t13, ht13, h⟩ := st_g_some h
  obtain ⟨t1, t2, t3, t4, t5, t6, ht1, h, ei, ej⟩ := st_b_some h
  refine rr_callV (n := 1) (As := [(.int v1)]) (rest := []) X hw (kn_ok D ac a0 gl) hKs (kc_xP_isVat l D ac a0 gl v0 v1 _ _ _ _ _ ht1) tb_good tw_110 tw_91 tw_111 tw_112 se_0 ht13 (by decide +kernel) rfl (show 0 + 1 ≤ _ ∧ 8 + (2 + 11) + 0 ≤ _ from ⟨Nat.le_of_ble_eq_true rfl, Nat.le_of_ble_eq_true rfl⟩) (show z0 + t3 ≤ iT ∧ z1 + t4 ≤ jT from ⟨ar_1 hci ei, ar_1 hcj ej⟩) hl.1.1 (by simp [rf_cat, ic_cat]) rfl dd_xP_output_2 (sk := [(.int t1)]) rfl (fun H locs hw => ?_)
  have hci : z0 + t3 + t5 = iT := ar_2 hci ei
  have hcj : z1 + t4 + t6 = jT := ar_2 hcj ej
  clear ei ej
  generalize z0 + t3 = t7 at hci ⊢
  generalize z1 + t4 = t8 at hcj ⊢
  by_cases hc5 : t1 = 0
  · rw [if_pos hc5] at h
    refine lv_if_eq (tgt := 32) X.1 X.2.1 dd_xP_output_5 (by decide) (fun _ => ?_) (fun z => absurd hc5 z)
    exact (kb_xP_output_b32 X hKs hlk hret hnm) () _ _ _ _ _ _ _ _ hw (lh_pk hl [] rfl) h hci hcj
  · rw [if_neg hc5] at h
    refine lv_if_eq (tgt := 32) X.1 X.2.1 dd_xP_output_5 (by decide) (fun z => absurd z hc5) (fun _ => ?_)
    refine lv_iload_n X.1 X.2.1 dd_xP_output_8 rfl (lv_at hl.1 2 rfl) ?_
    by_cases hc9 : v2 < 0
    · rw [if_pos hc9] at h
      refine lv_if_lt (tgt := 32) X.1 X.2.1 dd_xP_output_9 (by decide) (fun _ => ?_) (fun z => absurd hc9 z)
      exact (kb_xP_output_b32 X hKs hlk hret hnm) () _ _ _ _ _ _ _ _ hw (lh_pk hl [] rfl) h hci hcj
    · rw [if_neg hc9] at h
      refine lv_if_lt (tgt := 32) X.1 X.2.1 dd_xP_output_9 (by decide) (fun z => absurd z hc9) (fun _ => ?_)
      refine lv_iload_n X.1 X.2.1 dd_xP_output_12 rfl (lv_at hl.1 2 rfl) ?_
      refine lv_bipush (v := (10 : Int32)) X.1 X.2.1 dd_xP_output_13 (by decide) ?_
      by_cases hc15 : (10 : Int32) ≤ v2
      · rw [if_pos hc15] at h
        refine lv_icmp_ge (tgt := 32) X.1 X.2.1 dd_xP_output_15 (by decide) (fun _ => ?_) (fun z => absurd hc15 z)
        exact (kb_xP_output_b32 X hKs hlk hret hnm) () _ _ _ _ _ _ _ _ hw (lh_pk hl [] rfl) h hci hcj
      · rw [if_neg hc15] at h
        refine lv_icmp_ge (tgt := 32) X.1 X.2.1 dd_xP_output_15 (by decide) (fun z => absurd z hc15) (fun _ => ?_)
        refine rr_aldn X dd_xP_output_18 rfl (lv_at hl.1 0 rfl) ?_
        obtain ⟨t9, ht9, h⟩ := st_g_some h
        refine rr_getq X hw ff_0_0 ht9 tw_66 (Or.inl rfl) dd_xP_output_19 ?_
        refine lv_iload_n X.1 X.2.1 dd_xP_output_22 rfl (lv_at hl.1 1 rfl) ?_
        obtain ⟨t10, ht10, h⟩ := st_g_some h
        refine rr_aald X hw (tq_4 ac) ht10 dd_xP_output_23 ?_
        obtain ⟨t11, ht11, h⟩ := st_g_some h
        refine rr_getq X hw ff_5_3 ht11 tw_434 (Or.inl rfl) dd_xP_output_24 ?_
        refine lv_iload_n X.1 X.2.1 dd_xP_output_27 rfl (lv_at hl.1 2 rfl) ?_
        obtain ⟨t12, ht12, h⟩ := st_g_some h
        refine rr_iald (t := 0) X hw rfl ht12 dd_xP_output_28 ?_
        refine lv_goto (tgt := 33) X.1 X.2.1 dd_xP_output_29 (by decide) ?_
        obtain ⟨rfl, rfl, rfl, rfl⟩ := st_r_some h
        exact rr_iret X hw hlk hret rfl hci hcj dd_xP_output_33
