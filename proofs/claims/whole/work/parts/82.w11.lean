/-! java/util/ArrayList.elementData(I)Ljava/lang/Object; -/
theorem dd_al_elementData_0 : decode prog_20_method_18_code 0 = .ok (.aload_n 0, 1) := by decide +kernel
theorem dd_al_elementData_1 : decode prog_20_method_18_code 1 = .ok (.getfield 9, 3) := by decide +kernel
theorem dd_al_elementData_4 : decode prog_20_method_18_code 4 = .ok (.iload_n 1, 1) := by decide +kernel
theorem dd_al_elementData_5 : decode prog_20_method_18_code 5 = .ok (.aaload, 1) := by decide +kernel
theorem dd_al_elementData_6 : decode prog_20_method_18_code 6 = .ok (.areturn, 1) := by decide +kernel
set_option maxHeartbeats 4000000 in
set_option maxRecDepth 100000 in
theorem kc_al_elementData (l : Launch) (D : va_G) (ac : Nat → ClassId) (a0 : Nat) (gl : gl_T) (v0 : Option Nat) (v1 : Int32) (st : st_S) (rF : Option Nat) (stF : st_S) (iT jT : Nat) (h : al_elementData gl v0 v1 st = some (rF, stF, iT, jT)) :
    ct_ l ⟨"java/util/ArrayList", "elementData", "(I)Ljava/lang/Object;"⟩ (Cond.code ⟨"java/util/ArrayList", "elementData", "(I)Ljava/lang/Object;"⟩ prog_20_method_18_code 2 (Option.some (FieldType.object "java/lang/Object")) :: tb_) 0 0 D cl_ ac a0 (kn_ D ac a0 gl) [(va_rf v0), (.int v1)] st (vb_q rF) stF iT jT := by
  refine ct_of (kn_ok D ac a0 gl) (by decide +kernel) (by simp [rf_cat, ic_cat]) (by simp) ?_
  intro p e s m args below meth c ls X hw hKs hlk hret hnm hl
  unfold al_elementData at h
  have hl : lh_ ls 2 [(0, (va_rf v0)), (1, (.int v1))] := hl
  obtain ⟨z0, hz0⟩ : ∃ z : Nat, 0 = z := ⟨0, rfl⟩
  obtain ⟨z1, hz1⟩ : ∃ z : Nat, 0 = z := ⟨0, rfl⟩
  refine W.cs hz0 hz1 ?_
  have hci : z0 + iT = iT := by omega
  have hcj : z1 + jT = jT := by omega
  refine rr_aldn X dd_al_elementData_0 rfl (lv_at hl.1 0 rfl) ?_
  obtain ⟨t1, ht1, h⟩ := st_g_some h
  refine rr_getq X hw ff_6_0 ht1 tw_26 (Or.inl rfl) dd_al_elementData_1 ?_
  refine lv_iload_n X.1 X.2.1 dd_al_elementData_4 rfl (lv_at hl.1 1 rfl) ?_
  obtain ⟨t2, ht2, h⟩ := st_g_some h
  refine rr_aald X hw (tq_9 ac) ht2 dd_al_elementData_5 ?_
  obtain ⟨rfl, rfl, rfl, rfl⟩ := st_r_some h
  exact rr_aret X hw hlk hret (Or.inl ⟨_, rfl⟩) hci hcj dd_al_elementData_6
/-! java/util/ArrayList.get(I)Ljava/lang/Object; -/
theorem dd_al_get_0 : decode prog_20_method_20_code 0 = .ok (.iload_n 1, 1) := by decide +kernel
theorem dd_al_get_1 : decode prog_20_method_20_code 1 = .ok (.aload_n 0, 1) := by decide +kernel
theorem dd_al_get_2 : decode prog_20_method_20_code 2 = .ok (.getfield 48, 3) := by decide +kernel
theorem dd_al_get_5 : decode prog_20_method_20_code 5 = .ok (.invokestatic 118, 3) := by decide +kernel
theorem dd_al_get_8 : decode prog_20_method_20_code 8 = .ok (.pop, 1) := by decide +kernel
theorem dd_al_get_9 : decode prog_20_method_20_code 9 = .ok (.aload_n 0, 1) := by decide +kernel
theorem dd_al_get_10 : decode prog_20_method_20_code 10 = .ok (.iload_n 1, 1) := by decide +kernel
theorem dd_al_get_11 : decode prog_20_method_20_code 11 = .ok (.invokevirtual 123, 3) := by decide +kernel
theorem dd_al_get_14 : decode prog_20_method_20_code 14 = .ok (.areturn, 1) := by decide +kernel
set_option maxHeartbeats 4000000 in
set_option maxRecDepth 100000 in
theorem kc_al_get (l : Launch) (D : va_G) (ac : Nat → ClassId) (a0 : Nat) (gl : gl_T) (v0 : Option Nat) (v1 : Int32) (st : st_S) (rF : Option Nat) (stF : st_S) (iT jT : Nat) (h : al_get gl v0 v1 st = some (rF, stF, iT, jT)) :
    ct_ l ⟨"java/util/ArrayList", "get", "(I)Ljava/lang/Object;"⟩ (Cond.code ⟨"java/util/ArrayList", "get", "(I)Ljava/lang/Object;"⟩ prog_20_method_20_code 2 (Option.some (FieldType.object "java/lang/Object")) :: tb_) 2 43 D cl_ ac a0 (kn_ D ac a0 gl) [(va_rf v0), (.int v1)] st (vb_q rF) stF iT jT := by
  refine ct_of (kn_ok D ac a0 gl) (by decide +kernel) (by simp [rf_cat, ic_cat]) (by simp) ?_
  intro p e s m args below meth c ls X hw hKs hlk hret hnm hl
  unfold al_get at h
  have hl : lh_ ls 2 [(0, (va_rf v0)), (1, (.int v1))] := hl
  obtain ⟨z0, hz0⟩ : ∃ z : Nat, 0 = z := ⟨0, rfl⟩
  obtain ⟨z1, hz1⟩ : ∃ z : Nat, 0 = z := ⟨0, rfl⟩
  refine W.cs hz0 hz1 ?_
  have hci : z0 + iT = iT := by omega
  have hcj : z1 + jT = jT := by omega
  refine lv_iload_n X.1 X.2.1 dd_al_get_0 rfl (lv_at hl.1 1 rfl) ?_
  refine rr_aldn X dd_al_get_1 rfl (lv_at hl.1 0 rfl) ?_
  obtain ⟨t1, ht1, h⟩ := st_g_some h
  refine rr_geti X hw ff_6_1 ht1 tw_114 (Or.inl rfl) dd_al_get_2 ?_
  obtain ⟨t2, t3, t4, t5, t6, t7, ht2, h, ei, ej⟩ := st_b_some h
  refine rr_callS (n := 2) (As := [(.int v1), (.int t1)]) (rest := []) X hw (kn_ok D ac a0 gl) hKs (kc_ob_checkIndex l D ac a0 gl v1 t1 _ _ _ _ _ ht2) tb_good tw_235 tw_234 tw_236 tw_237 (by decide +kernel) rfl (show 1 + 1 ≤ _ ∧ 8 + (2 + 11) + 22 ≤ _ from ⟨Nat.le_of_ble_eq_true rfl, Nat.le_of_ble_eq_true rfl⟩) (show z0 + t4 ≤ iT ∧ z1 + t5 ≤ jT from ⟨ar_1 hci ei, ar_1 hcj ej⟩) hl.1.1 (by simp [rf_cat, ic_cat]) rfl dd_al_get_5 (sk := [(.int t2)]) rfl (fun H locs hw => ?_)
  have hci : z0 + t4 + t6 = iT := ar_2 hci ei
  have hcj : z1 + t5 + t7 = jT := ar_2 hcj ej
  clear ei ej
  generalize z0 + t4 = t8 at hci ⊢
  generalize z1 + t5 = t9 at hcj ⊢
  refine lv_pop X.1 X.2.1 dd_al_get_8 rfl ?_
  refine rr_aldn X dd_al_get_9 rfl (lv_at hl.1 0 rfl) ?_
  refine lv_iload_n X.1 X.2.1 dd_al_get_10 rfl (lv_at hl.1 1 rfl) ?_
  obtain ⟨t18, ht18, h⟩ := st_g_some h
  obtain ⟨t10, t11, t12, t13, t14, t15, ht10, h, ei, ej⟩ := st_b_some h
  refine rr_callV (n := 1) (As := [(.int v1)]) (rest := []) X hw (kn_ok D ac a0 gl) hKs (kc_al_elementData l D ac a0 gl v0 v1 _ _ _ _ _ ht10) tb_good tw_286 tw_33 tw_287 tw_288 se_16 ht18 (by decide +kernel) rfl (show 0 + 1 ≤ _ ∧ 8 + (2 + 11) + 0 ≤ _ from ⟨Nat.le_of_ble_eq_true rfl, Nat.le_of_ble_eq_true rfl⟩) (show t8 + t12 ≤ iT ∧ t9 + t13 ≤ jT from ⟨ar_1 hci ei, ar_1 hcj ej⟩) hl.1.1 (by simp [rf_cat, ic_cat]) rfl dd_al_get_11 (sk := [(va_rf t10)]) rfl (fun H locs hw => ?_)
  have hci : t8 + t12 + t14 = iT := ar_2 hci ei
  have hcj : t9 + t13 + t15 = jT := ar_2 hcj ej
  clear ei ej
  generalize t8 + t12 = t16 at hci ⊢
  generalize t9 + t13 = t17 at hcj ⊢
  obtain ⟨rfl, rfl, rfl, rfl⟩ := st_r_some h
  exact rr_aret X hw hlk hret (Or.inl ⟨_, rfl⟩) hci hcj dd_al_get_14
/-! java/util/ArrayList.clear()V -/
theorem dd_al_clear_0 : decode prog_20_method_40_code 0 = .ok (.aload_n 0, 1) := by decide +kernel
theorem dd_al_clear_1 : decode prog_20_method_40_code 1 = .ok (.dup, 1) := by decide +kernel
theorem dd_al_clear_2 : decode prog_20_method_40_code 2 = .ok (.getfield 63, 3) := by decide +kernel
theorem dd_al_clear_5 : decode prog_20_method_40_code 5 = .ok (.iconst 1, 1) := by decide +kernel
theorem dd_al_clear_6 : decode prog_20_method_40_code 6 = .ok (.iadd, 1) := by decide +kernel
theorem dd_al_clear_7 : decode prog_20_method_40_code 7 = .ok (.putfield 63, 3) := by decide +kernel
theorem dd_al_clear_10 : decode prog_20_method_40_code 10 = .ok (.aload_n 0, 1) := by decide +kernel
theorem dd_al_clear_11 : decode prog_20_method_40_code 11 = .ok (.getfield 9, 3) := by decide +kernel
theorem dd_al_clear_14 : decode prog_20_method_40_code 14 = .ok (.astore_n 1, 1) := by decide +kernel
theorem dd_al_clear_15 : decode prog_20_method_40_code 15 = .ok (.aload_n 0, 1) := by decide +kernel
theorem dd_al_clear_16 : decode prog_20_method_40_code 16 = .ok (.getfield 48, 3) := by decide +kernel
theorem dd_al_clear_19 : decode prog_20_method_40_code 19 = .ok (.istore_n 2, 1) := by decide +kernel
theorem dd_al_clear_20 : decode prog_20_method_40_code 20 = .ok (.aload_n 0, 1) := by decide +kernel
theorem dd_al_clear_21 : decode prog_20_method_40_code 21 = .ok (.iconst 0, 1) := by decide +kernel
theorem dd_al_clear_22 : decode prog_20_method_40_code 22 = .ok (.dup_x1, 1) := by decide +kernel
theorem dd_al_clear_23 : decode prog_20_method_40_code 23 = .ok (.putfield 48, 3) := by decide +kernel
theorem dd_al_clear_26 : decode prog_20_method_40_code 26 = .ok (.istore_n 3, 1) := by decide +kernel
theorem dd_al_clear_27 : decode prog_20_method_40_code 27 = .ok (.iload_n 3, 1) := by decide +kernel
theorem dd_al_clear_28 : decode prog_20_method_40_code 28 = .ok (.iload_n 2, 1) := by decide +kernel
theorem dd_al_clear_29 : decode prog_20_method_40_code 29 = .ok (.if_icmp .ge 13, 3) := by decide +kernel
theorem dd_al_clear_32 : decode prog_20_method_40_code 32 = .ok (.aload_n 1, 1) := by decide +kernel
theorem dd_al_clear_33 : decode prog_20_method_40_code 33 = .ok (.iload_n 3, 1) := by decide +kernel
theorem dd_al_clear_34 : decode prog_20_method_40_code 34 = .ok (.aconst_null, 1) := by decide +kernel
theorem dd_al_clear_35 : decode prog_20_method_40_code 35 = .ok (.aastore, 1) := by decide +kernel
theorem dd_al_clear_36 : decode prog_20_method_40_code 36 = .ok (.iinc 3 1, 3) := by decide +kernel
theorem dd_al_clear_39 : decode prog_20_method_40_code 39 = .ok (.goto (-12), 3) := by decide +kernel
theorem dd_al_clear_42 : decode prog_20_method_40_code 42 = .ok (.return_, 1) := by decide +kernel
set_option maxHeartbeats 4000000 in
set_option maxRecDepth 100000 in
theorem kb_al_clear_b27 {p : Program} {l : Launch} {e : Env} {s : State} {m : MethodId} {args : Array Value} {below : List Frame} {meth : Method} {c : Code} {D : va_G} {ac : Nat → ClassId} {a0 : Nat} {gl : gl_T} {rF : Unit} {stF : st_S} {iT jT : Nat}
    (X : cx_ p s m args c prog_20_method_40_code 4 "java/util/ArrayList" tb_ D cl_ (ty_ ac)) (hKs : kn_ D ac a0 gl s) (hlk : meth.locks = false) (hret : meth.sig.returnType = (Option.none : Option FieldType)) (hnm : meth.name = "clea\x72") : wk_ p l e 0 0 s m args below meth c D cl_ ac a0 4 vb_u rF stF iT jT 27 (fun x : Option Nat × Int32 × Int32 => [(1, (va_rf x.1)), (2, (.int x.2.1)), (3, (.int x.2.2))]) (fun x : Option Nat × Int32 × Int32 => []) (st_it (fun rec27 => (fun x : Option Nat × Int32 × Int32 => al_clear_b27 gl rec27 x.1 x.2.1 x.2.2)) fu_) := by
  refine wk_it ?_ _
  intro rec27 hr27 x st H locs cells slots i j ls hw hl h hci hcj
  obtain ⟨p1, p2, p3⟩ := x
  have h : al_clear_b27 gl rec27 p1 p2 p3 st = some (rF, stF, i, j) := h
  unfold al_clear_b27 at h
  have hl : lh_ ls 4 [(1, (va_rf p1)), (2, (.int p2)), (3, (.int p3))] := hl
  refine W.eq (g2 := F0 m 27 ls []) rfl ?_
  refine lv_iload_n X.1 X.2.1 dd_al_clear_27 rfl (lv_at hl.1 2 rfl) ?_
  refine lv_iload_n X.1 X.2.1 dd_al_clear_28 rfl (lv_at hl.1 1 rfl) ?_
  by_cases hc29 : p2 ≤ p3
  · rw [if_pos hc29] at h
    refine lv_icmp_ge (tgt := 42) X.1 X.2.1 dd_al_clear_29 (by decide) (fun _ => ?_) (fun z => absurd hc29 z)
    obtain ⟨rfl, rfl, rfl, rfl⟩ := st_r_some h
    exact rr_vret X hw hlk hret hci hcj dd_al_clear_42
  · rw [if_neg hc29] at h
    refine lv_icmp_ge (tgt := 42) X.1 X.2.1 dd_al_clear_29 (by decide) (fun z => absurd z hc29) (fun _ => ?_)
    refine rr_aldn X dd_al_clear_32 rfl (lv_at hl.1 0 rfl) ?_
    refine lv_iload_n X.1 X.2.1 dd_al_clear_33 rfl (lv_at hl.1 2 rfl) ?_
    refine rr_null X dd_al_clear_34 ?_
    obtain ⟨t6, hp35, h⟩ := st_w_some h
    refine rr_aast X hw (ta_9 hKs) hp35 dd_al_clear_35 (fun H locs hw => ?_)
    refine rr_iinc (k := 2) (v := (p3 + (1 : Int32))) (lv' := [(3, (.int (p3 + (1 : Int32)))), (1, (va_rf p1)), (2, (.int p2))]) X dd_al_clear_36 hl rfl (by rw [show Int32.ofInt (1) = (1 : Int32) from by decide]) (by decide) rfl (fun ls hl => ?_)
    refine lv_goto (tgt := 27) X.1 X.2.1 dd_al_clear_39 (by decide) ?_
    exact hr27 (p1, p2, (p3 + (1 : Int32))) _ _ _ _ _ _ _ _ hw (lh_pk hl [1, 2, 0] rfl) h hci hcj
set_option maxHeartbeats 4000000 in
set_option maxRecDepth 100000 in
theorem kc_al_clear (l : Launch) (D : va_G) (ac : Nat → ClassId) (a0 : Nat) (gl : gl_T) (v0 : Option Nat) (st : st_S) (rF : Unit) (stF : st_S) (iT jT : Nat) (h : al_clear gl v0 st = some (rF, stF, iT, jT)) :
    ct_ l ⟨"java/util/ArrayList", "clea\x72", "()V"⟩ (Cond.code ⟨"java/util/ArrayList", "clea\x72", "()V"⟩ prog_20_method_40_code 4 (Option.none : Option FieldType) :: tb_) 0 0 D cl_ ac a0 (kn_ D ac a0 gl) [(va_rf v0)] st (vb_u rF) stF iT jT := by
  refine ct_of (kn_ok D ac a0 gl) (by decide +kernel) (by simp [rf_cat, ic_cat]) (by simp) ?_
  intro p e s m args below meth c ls X hw hKs hlk hret hnm hl
  unfold al_clear at h
  have hl : lh_ ls 4 [(0, (va_rf v0))] := hl
  obtain ⟨z0, hz0⟩ : ∃ z : Nat, 0 = z := ⟨0, rfl⟩
  obtain ⟨z1, hz1⟩ : ∃ z : Nat, 0 = z := ⟨0, rfl⟩
  refine W.cs hz0 hz1 ?_
  have hci : z0 + iT = iT := by omega
  have hcj : z1 + jT = jT := by omega
  refine rr_aldn X dd_al_clear_0 rfl (lv_at hl.1 0 rfl) ?_
  refine lv_dup X.1 X.2.1 dd_al_clear_1 (rf_cat _) ?_
  obtain ⟨t1, ht1, h⟩ := st_g_some h
  refine rr_geti X hw ff_6_2 ht1 tw_164 (Or.inr tw_163) dd_al_clear_2 ?_
  refine lv_iconst (v := (1 : Int32)) X.1 X.2.1 dd_al_clear_5 (by decide) ?_
  refine lv_iadd X.1 X.2.1 dd_al_clear_6 ?_
  obtain ⟨t2, hp7, h⟩ := st_w_some h
  refine rr_put (ty := .int) X hw ff_6_2 hp7 tw_164 (Or.inr tw_163) (by decide +kernel) rfl rfl dd_al_clear_7 (fun H locs hw => ?_)
  refine rr_aldn X dd_al_clear_10 rfl (lv_at hl.1 0 rfl) ?_
  obtain ⟨t3, ht3, h⟩ := st_g_some h
  refine rr_getq X hw ff_6_0 ht3 tw_26 (Or.inl rfl) dd_al_clear_11 ?_
  refine rr_astn (lv' := [(1, (va_rf t3)), (0, (va_rf v0))]) X dd_al_clear_14 rfl hl (by decide) rfl (fun ls hl => ?_)
  refine rr_aldn X dd_al_clear_15 rfl (lv_at hl.1 1 rfl) ?_
  obtain ⟨t4, ht4, h⟩ := st_g_some h
  refine rr_geti X hw ff_6_1 ht4 tw_114 (Or.inl rfl) dd_al_clear_16 ?_
  refine rr_istn (lv' := [(2, (.int t4)), (1, (va_rf t3)), (0, (va_rf v0))]) X dd_al_clear_19 rfl hl (by decide) rfl (fun ls hl => ?_)
  refine rr_aldn X dd_al_clear_20 rfl (lv_at hl.1 2 rfl) ?_
  refine lv_iconst (v := (0 : Int32)) X.1 X.2.1 dd_al_clear_21 (by decide) ?_
  refine lv_dup_x1 X.1 X.2.1 dd_al_clear_22 rfl (rf_cat _) ?_
  obtain ⟨t5, hp23, h⟩ := st_w_some h
  refine rr_put (ty := .int) X hw ff_6_1 hp23 tw_114 (Or.inl rfl) (by decide +kernel) rfl rfl dd_al_clear_23 (fun H locs hw => ?_)
  refine rr_istn (lv' := [(3, (.int (0 : Int32))), (2, (.int t4)), (1, (va_rf t3)), (0, (va_rf v0))]) X dd_al_clear_26 rfl hl (by decide) rfl (fun ls hl => ?_)
  exact (kb_al_clear_b27 X hKs hlk hret hnm) (t3, t4, (0 : Int32)) _ _ _ _ _ _ _ _ hw (lh_pk hl [2, 1, 0] rfl) h hci hcj
/-! PromiseVats.resolveIn(ILPromiseVats$Promise;LPromiseVats$Entity;)V -/
theorem dd_xP_resolveIn_0 : decode prog_1_method_33_code 0 = .ok (.aload_n 2, 1) := by decide +kernel
theorem dd_xP_resolveIn_1 : decode prog_1_method_33_code 1 = .ok (.getfield 291, 3) := by decide +kernel
theorem dd_xP_resolveIn_4 : decode prog_1_method_33_code 4 = .ok (.iload_n 1, 1) := by decide +kernel
theorem dd_xP_resolveIn_5 : decode prog_1_method_33_code 5 = .ok (.if_icmp .eq 34, 3) := by decide +kernel
theorem dd_xP_resolveIn_8 : decode prog_1_method_33_code 8 = .ok (.aload_n 0, 1) := by decide +kernel
theorem dd_xP_resolveIn_9 : decode prog_1_method_33_code 9 = .ok (.aload_n 3, 1) := by decide +kernel
theorem dd_xP_resolveIn_10 : decode prog_1_method_33_code 10 = .ok (.iload_n 1, 1) := by decide +kernel
theorem dd_xP_resolveIn_11 : decode prog_1_method_33_code 11 = .ok (.aload_n 2, 1) := by decide +kernel
theorem dd_xP_resolveIn_12 : decode prog_1_method_33_code 12 = .ok (.getfield 291, 3) := by decide +kernel
theorem dd_xP_resolveIn_15 : decode prog_1_method_33_code 15 = .ok (.invokevirtual 292, 3) := by decide +kernel
theorem dd_xP_resolveIn_18 : decode prog_1_method_33_code 18 = .ok (.aload_n 0, 1) := by decide +kernel
theorem dd_xP_resolveIn_19 : decode prog_1_method_33_code 19 = .ok (.iload_n 1, 1) := by decide +kernel
theorem dd_xP_resolveIn_20 : decode prog_1_method_33_code 20 = .ok (.aload_n 2, 1) := by decide +kernel
theorem dd_xP_resolveIn_21 : decode prog_1_method_33_code 21 = .ok (.getfield 291, 3) := by decide +kernel
theorem dd_xP_resolveIn_24 : decode prog_1_method_33_code 24 = .ok (.new 177, 3) := by decide +kernel
theorem dd_xP_resolveIn_27 : decode prog_1_method_33_code 27 = .ok (.dup, 1) := by decide +kernel
theorem dd_xP_resolveIn_28 : decode prog_1_method_33_code 28 = .ok (.iconst 2, 1) := by decide +kernel
theorem dd_xP_resolveIn_29 : decode prog_1_method_33_code 29 = .ok (.aload_n 2, 1) := by decide +kernel
theorem dd_xP_resolveIn_30 : decode prog_1_method_33_code 30 = .ok (.aload_n 3, 1) := by decide +kernel
theorem dd_xP_resolveIn_31 : decode prog_1_method_33_code 31 = .ok (.iconst 0, 1) := by decide +kernel
theorem dd_xP_resolveIn_32 : decode prog_1_method_33_code 32 = .ok (.invokespecial 295, 3) := by decide +kernel
theorem dd_xP_resolveIn_35 : decode prog_1_method_33_code 35 = .ok (.invokevirtual 298, 3) := by decide +kernel
theorem dd_xP_resolveIn_38 : decode prog_1_method_33_code 38 = .ok (.return_, 1) := by decide +kernel
theorem dd_xP_resolveIn_39 : decode prog_1_method_33_code 39 = .ok (.aload_n 2, 1) := by decide +kernel
theorem dd_xP_resolveIn_40 : decode prog_1_method_33_code 40 = .ok (.getfield 302, 3) := by decide +kernel
theorem dd_xP_resolveIn_43 : decode prog_1_method_33_code 43 = .ok (.ifCond .ne 10, 3) := by decide +kernel
theorem dd_xP_resolveIn_46 : decode prog_1_method_33_code 46 = .ok (.aload_n 2, 1) := by decide +kernel
theorem dd_xP_resolveIn_47 : decode prog_1_method_33_code 47 = .ok (.getfield 229, 3) := by decide +kernel
theorem dd_xP_resolveIn_50 : decode prog_1_method_33_code 50 = .ok (.ifCond .ne 4, 3) := by decide +kernel
theorem dd_xP_resolveIn_53 : decode prog_1_method_33_code 53 = .ok (.return_, 1) := by decide +kernel
theorem dd_xP_resolveIn_54 : decode prog_1_method_33_code 54 = .ok (.aload_n 2, 1) := by decide +kernel
theorem dd_xP_resolveIn_55 : decode prog_1_method_33_code 55 = .ok (.aload_n 3, 1) := by decide +kernel
theorem dd_xP_resolveIn_56 : decode prog_1_method_33_code 56 = .ok (.aload_n 2, 1) := by decide +kernel
theorem dd_xP_resolveIn_57 : decode prog_1_method_33_code 57 = .ok (.invokestatic 303, 3) := by decide +kernel
theorem dd_xP_resolveIn_60 : decode prog_1_method_33_code 60 = .ok (.ifCond .eq 7, 3) := by decide +kernel
theorem dd_xP_resolveIn_63 : decode prog_1_method_33_code 63 = .ok (.aconst_null, 1) := by decide +kernel
theorem dd_xP_resolveIn_64 : decode prog_1_method_33_code 64 = .ok (.goto 4, 3) := by decide +kernel
theorem dd_xP_resolveIn_67 : decode prog_1_method_33_code 67 = .ok (.aload_n 3, 1) := by decide +kernel
theorem dd_xP_resolveIn_68 : decode prog_1_method_33_code 68 = .ok (.putfield 233, 3) := by decide +kernel
theorem dd_xP_resolveIn_71 : decode prog_1_method_33_code 71 = .ok (.aload_n 2, 1) := by decide +kernel
theorem dd_xP_resolveIn_72 : decode prog_1_method_33_code 72 = .ok (.iconst 0, 1) := by decide +kernel
theorem dd_xP_resolveIn_73 : decode prog_1_method_33_code 73 = .ok (.putfield 229, 3) := by decide +kernel
theorem dd_xP_resolveIn_76 : decode prog_1_method_33_code 76 = .ok (.iconst 0, 1) := by decide +kernel
theorem dd_xP_resolveIn_77 : decode prog_1_method_33_code 77 = .ok (.istore 4, 2) := by decide +kernel
theorem dd_xP_resolveIn_79 : decode prog_1_method_33_code 79 = .ok (.iload 4, 2) := by decide +kernel
theorem dd_xP_resolveIn_81 : decode prog_1_method_33_code 81 = .ok (.bipush 8, 2) := by decide +kernel
theorem dd_xP_resolveIn_83 : decode prog_1_method_33_code 83 = .ok (.if_icmp .ge 38, 3) := by decide +kernel
theorem dd_xP_resolveIn_86 : decode prog_1_method_33_code 86 = .ok (.iload 4, 2) := by decide +kernel
theorem dd_xP_resolveIn_88 : decode prog_1_method_33_code 88 = .ok (.aload_n 2, 1) := by decide +kernel
theorem dd_xP_resolveIn_89 : decode prog_1_method_33_code 89 = .ok (.getfield 285, 3) := by decide +kernel
theorem dd_xP_resolveIn_92 : decode prog_1_method_33_code 92 = .ok (.invokevirtual 106, 3) := by decide +kernel
theorem dd_xP_resolveIn_95 : decode prog_1_method_33_code 95 = .ok (.if_icmp .ge 26, 3) := by decide +kernel
theorem dd_xP_resolveIn_98 : decode prog_1_method_33_code 98 = .ok (.aload_n 0, 1) := by decide +kernel
theorem dd_xP_resolveIn_99 : decode prog_1_method_33_code 99 = .ok (.aload_n 2, 1) := by decide +kernel
theorem dd_xP_resolveIn_100 : decode prog_1_method_33_code 100 = .ok (.getfield 285, 3) := by decide +kernel
theorem dd_xP_resolveIn_103 : decode prog_1_method_33_code 103 = .ok (.iload 4, 2) := by decide +kernel
theorem dd_xP_resolveIn_105 : decode prog_1_method_33_code 105 = .ok (.invokevirtual 307, 3) := by decide +kernel
theorem dd_xP_resolveIn_108 : decode prog_1_method_33_code 108 = .ok (.checkcast 112, 3) := by decide +kernel
theorem dd_xP_resolveIn_111 : decode prog_1_method_33_code 111 = .ok (.iload_n 1, 1) := by decide +kernel
theorem dd_xP_resolveIn_112 : decode prog_1_method_33_code 112 = .ok (.invokevirtual 117, 3) := by decide +kernel
theorem dd_xP_resolveIn_115 : decode prog_1_method_33_code 115 = .ok (.iinc 4 1, 3) := by decide +kernel
theorem dd_xP_resolveIn_118 : decode prog_1_method_33_code 118 = .ok (.goto (-39), 3) := by decide +kernel
theorem dd_xP_resolveIn_121 : decode prog_1_method_33_code 121 = .ok (.aload_n 2, 1) := by decide +kernel
theorem dd_xP_resolveIn_122 : decode prog_1_method_33_code 122 = .ok (.getfield 285, 3) := by decide +kernel
theorem dd_xP_resolveIn_125 : decode prog_1_method_33_code 125 = .ok (.invokevirtual 310, 3) := by decide +kernel
theorem dd_xP_resolveIn_128 : decode prog_1_method_33_code 128 = .ok (.return_, 1) := by decide +kernel
set_option maxHeartbeats 4000000 in
set_option maxRecDepth 100000 in
theorem kb_xP_resolveIn_b121 {p : Program} {l : Launch} {e : Env} {s : State} {m : MethodId} {args : Array Value} {below : List Frame} {meth : Method} {c : Code} {D : va_G} {ac : Nat → ClassId} {a0 : Nat} {gl : gl_T} {rF : Unit} {stF : st_S} {iT jT : Nat}
    (X : cx_ p s m args c prog_1_method_33_code 5 "PromiseVats" tb_ D cl_ (ty_ ac)) (hKs : kn_ D ac a0 gl s) (hlk : meth.locks = false) (hret : meth.sig.returnType = (Option.none : Option FieldType)) (hnm : meth.name = "resolveIn") : wk_ p l e 11 286 s m args below meth c D cl_ ac a0 5 vb_u rF stF iT jT 121 (fun x : Option Nat => [(2, (va_rf x))]) (fun x : Option Nat => []) (fun x : Option Nat => xP_resolveIn_b121 gl x) := by
  intro x st H locs cells slots i j ls hw hl h hci hcj
  have hx : ∃ z, z = x := ⟨_, rfl⟩; obtain ⟨p2, rfl⟩ := hx
  have h : xP_resolveIn_b121 gl p2 st = some (rF, stF, i, j) := h
  unfold xP_resolveIn_b121 at h
  have hl : lh_ ls 5 [(2, (va_rf p2))] := hl
  refine W.eq (g2 := F0 m 121 ls []) rfl ?_
  refine rr_aldn X dd_xP_resolveIn_121 rfl (lv_at hl.1 0 rfl) ?_
  obtain ⟨t78, ht78, h⟩ := st_g_some h
  refine rr_getq X hw ff_4_2 ht78 tw_169 (Or.inl rfl) dd_xP_resolveIn_122 ?_
  obtain ⟨t87, ht87, h⟩ := st_g_some h
  obtain ⟨t79, t80, t81, t82, t83, t84, ht79, h, ei, ej⟩ := st_b_some h
  refine rr_callV (n := 0) (As := []) (rest := []) X hw (kn_ok D ac a0 gl) hKs (kc_al_clear l D ac a0 gl t78 _ _ _ _ _ ht79) tb_good tw_299 tw_33 tw_300 tw_301 se_18 ht87 (by decide +kernel) rfl (show 0 + 1 ≤ _ ∧ 8 + (4 + 11) + 0 ≤ _ from ⟨Nat.le_of_ble_eq_true rfl, Nat.le_of_ble_eq_true rfl⟩) (show cells + t81 ≤ iT ∧ slots + t82 ≤ jT from ⟨ar_1 hci ei, ar_1 hcj ej⟩) hl.1.1 (by simp [rf_cat, ic_cat]) rfl dd_xP_resolveIn_125 (sk := []) rfl (fun H locs hw => ?_)
  have hci : cells + t81 + t83 = iT := ar_2 hci ei
  have hcj : slots + t82 + t84 = jT := ar_2 hcj ej
  clear ei ej
  generalize cells + t81 = t85 at hci ⊢
  generalize slots + t82 = t86 at hcj ⊢
  obtain ⟨rfl, rfl, rfl, rfl⟩ := st_r_some h
  exact rr_vret X hw hlk hret hci hcj dd_xP_resolveIn_128
set_option maxHeartbeats 4000000 in
set_option maxRecDepth 100000 in
theorem kb_xP_resolveIn_b79 {p : Program} {l : Launch} {e : Env} {s : State} {m : MethodId} {args : Array Value} {below : List Frame} {meth : Method} {c : Code} {D : va_G} {ac : Nat → ClassId} {a0 : Nat} {gl : gl_T} {rF : Unit} {stF : st_S} {iT jT : Nat}
    (X : cx_ p s m args c prog_1_method_33_code 5 "PromiseVats" tb_ D cl_ (ty_ ac)) (hKs : kn_ D ac a0 gl s) (hlk : meth.locks = false) (hret : meth.sig.returnType = (Option.none : Option FieldType)) (hnm : meth.name = "resolveIn") : wk_ p l e 11 286 s m args below meth c D cl_ ac a0 5 vb_u rF stF iT jT 79 (fun x : Option Nat × Int32 × Option Nat × Int32 => [(0, (va_rf x.1)), (1, (.int x.2.1)), (2, (va_rf x.2.2.1)), (4, (.int x.2.2.2))]) (fun x : Option Nat × Int32 × Option Nat × Int32 => []) (st_it (fun rec79 => (fun x : Option Nat × Int32 × Option Nat × Int32 => xP_resolveIn_b79 gl rec79 x.1 x.2.1 x.2.2.1 x.2.2.2)) fu_) := by
  refine wk_it ?_ _
  intro rec79 hr79 x st H locs cells slots i j ls hw hl h hci hcj
  obtain ⟨p0, p1, p2, p4⟩ := x
  have h : xP_resolveIn_b79 gl rec79 p0 p1 p2 p4 st = some (rF, stF, i, j) := h
  unfold xP_resolveIn_b79 at h
  have hl : lh_ ls 5 [(0, (va_rf p0)), (1, (.int p1)), (2, (va_rf p2)), (4, (.int p4))] := hl
  refine W.eq (g2 := F0 m 79 ls []) rfl ?_
  refine lv_iload X.1 X.2.1 dd_xP_resolveIn_79 (lv_at hl.1 3 rfl) ?_
  refine lv_bipush (v := (8 : Int32)) X.1 X.2.1 dd_xP_resolveIn_81 (by decide) ?_
  by_cases hc83 : (8 : Int32) ≤ p4
  · rw [if_pos hc83] at h
    refine lv_icmp_ge (tgt := 121) X.1 X.2.1 dd_xP_resolveIn_83 (by decide) (fun _ => ?_) (fun z => absurd hc83 z)
    exact (kb_xP_resolveIn_b121 X hKs hlk hret hnm) p2 _ _ _ _ _ _ _ _ hw (lh_pk hl [2] rfl) h hci hcj
  · rw [if_neg hc83] at h
    refine lv_icmp_ge (tgt := 121) X.1 X.2.1 dd_xP_resolveIn_83 (by decide) (fun z => absurd z hc83) (fun _ => ?_)
    refine lv_iload X.1 X.2.1 dd_xP_resolveIn_86 (lv_at hl.1 3 rfl) ?_
    refine rr_aldn X dd_xP_resolveIn_88 rfl (lv_at hl.1 2 rfl) ?_
    obtain ⟨t48, ht48, h⟩ := st_g_some h
    refine rr_getq X hw ff_4_2 ht48 tw_169 (Or.inl rfl) dd_xP_resolveIn_89 ?_
    obtain ⟨t77, ht77, h⟩ := st_g_some h
    obtain ⟨t49, t50, t51, t52, t53, t54, ht49, h, ei, ej⟩ := st_b_some h
    refine rr_callV (n := 0) (As := []) (rest := [(.int p4)]) X hw (kn_ok D ac a0 gl) hKs (kc_al_size l D ac a0 gl t48 _ _ _ _ _ ht49) tb_good tw_174 tw_33 tw_175 tw_176 se_6 ht77 (by decide +kernel) rfl (show 0 + 1 ≤ _ ∧ 8 + (1 + 11) + 0 ≤ _ from ⟨Nat.le_of_ble_eq_true rfl, Nat.le_of_ble_eq_true rfl⟩) (show cells + t51 ≤ iT ∧ slots + t52 ≤ jT from ⟨ar_1 hci ei, ar_1 hcj ej⟩) hl.1.1 (by simp [rf_cat, ic_cat]) rfl dd_xP_resolveIn_92 (sk := [(.int t49), (.int p4)]) rfl (fun H locs hw => ?_)
    have hci : cells + t51 + t53 = iT := ar_2 hci ei
    have hcj : slots + t52 + t54 = jT := ar_2 hcj ej
    clear ei ej
    generalize cells + t51 = t55 at hci ⊢
    generalize slots + t52 = t56 at hcj ⊢
    by_cases hc95 : t49 ≤ p4
    · rw [if_pos hc95] at h
      refine lv_icmp_ge (tgt := 121) X.1 X.2.1 dd_xP_resolveIn_95 (by decide) (fun _ => ?_) (fun z => absurd hc95 z)
      exact (kb_xP_resolveIn_b121 X hKs hlk hret hnm) p2 _ _ _ _ _ _ _ _ hw (lh_pk hl [2] rfl) h hci hcj
    · rw [if_neg hc95] at h
      refine lv_icmp_ge (tgt := 121) X.1 X.2.1 dd_xP_resolveIn_95 (by decide) (fun z => absurd z hc95) (fun _ => ?_)
      refine rr_aldn X dd_xP_resolveIn_98 rfl (lv_at hl.1 0 rfl) ?_
      refine rr_aldn X dd_xP_resolveIn_99 rfl (lv_at hl.1 2 rfl) ?_
      obtain ⟨t57, ht57, h⟩ := st_g_some h
      refine rr_getq X hw ff_4_2 ht57 tw_169 (Or.inl rfl) dd_xP_resolveIn_100 ?_
      refine lv_iload X.1 X.2.1 dd_xP_resolveIn_103 (lv_at hl.1 3 rfl) ?_
      obtain ⟨t76, ht76, h⟩ := st_g_some h
      obtain ⟨t58, t59, t60, t61, t62, t63, ht58, h, ei, ej⟩ := st_b_some h
      refine rr_callV (n := 1) (As := [(.int p4)]) (rest := [(va_rf p0)]) X hw (kn_ok D ac a0 gl) hKs (kc_al_get l D ac a0 gl t57 p4 _ _ _ _ _ ht58) tb_good tw_295 tw_33 tw_296 tw_297 se_17 ht76 (by decide +kernel) rfl (show 2 + 1 ≤ _ ∧ 8 + (2 + 11) + 43 ≤ _ from ⟨Nat.le_of_ble_eq_true rfl, Nat.le_of_ble_eq_true rfl⟩) (show t55 + t60 ≤ iT ∧ t56 + t61 ≤ jT from ⟨ar_1 hci ei, ar_1 hcj ej⟩) hl.1.1 (by simp [rf_cat, ic_cat]) rfl dd_xP_resolveIn_105 (sk := [(va_rf t58), (va_rf p0)]) rfl (fun H locs hw => ?_)
      have hci : t55 + t60 + t62 = iT := ar_2 hci ei
      have hcj : t56 + t61 + t63 = jT := ar_2 hcj ej
      clear ei ej
      generalize t55 + t60 = t64 at hci ⊢
      generalize t56 + t61 = t65 at hcj ⊢
      obtain ⟨t66, ht66, h⟩ := st_g_some h
      refine rr_cast X hw (ti_C_y hKs) ht66 tw_223 dd_xP_resolveIn_108 ?_
      refine lv_iload_n X.1 X.2.1 dd_xP_resolveIn_111 rfl (lv_at hl.1 1 rfl) ?_
      obtain ⟨t75, ht75, h⟩ := st_g_some h
      obtain ⟨t67, t68, t69, t70, t71, t72, ht67, h, ei, ej⟩ := st_b_some h
      refine rr_callV (n := 2) (As := [(va_rf t58), (.int p1)]) (rest := []) X hw (kn_ok D ac a0 gl) hKs (kc_xP_arrive l D ac a0 gl p0 t58 p1 _ _ _ _ _ ht67) tb_good tw_215 tw_91 tw_216 tw_217 se_11 ht75 (by decide +kernel) rfl (show 10 + 1 ≤ _ ∧ 8 + (6 + 11) + 261 ≤ _ from ⟨Nat.le_of_ble_eq_true rfl, Nat.le_of_ble_eq_true rfl⟩) (show t64 + t69 ≤ iT ∧ t65 + t70 ≤ jT from ⟨ar_1 hci ei, ar_1 hcj ej⟩) hl.1.1 (by simp [rf_cat, ic_cat]) rfl dd_xP_resolveIn_112 (sk := []) rfl (fun H locs hw => ?_)
      have hci : t64 + t69 + t71 = iT := ar_2 hci ei
      have hcj : t65 + t70 + t72 = jT := ar_2 hcj ej
      clear ei ej
      generalize t64 + t69 = t73 at hci ⊢
      generalize t65 + t70 = t74 at hcj ⊢
      refine rr_iinc (k := 3) (v := (p4 + (1 : Int32))) (lv' := [(4, (.int (p4 + (1 : Int32)))), (0, (va_rf p0)), (1, (.int p1)), (2, (va_rf p2))]) X dd_xP_resolveIn_115 hl rfl (by rw [show Int32.ofInt (1) = (1 : Int32) from by decide]) (by decide) rfl (fun ls hl => ?_)
      refine lv_goto (tgt := 79) X.1 X.2.1 dd_xP_resolveIn_118 (by decide) ?_
      exact hr79 (p0, p1, p2, (p4 + (1 : Int32))) _ _ _ _ _ _ _ _ hw (lh_pk hl [1, 2, 3, 0] rfl) h hci hcj
set_option maxHeartbeats 4000000 in
set_option maxRecDepth 100000 in
theorem kb_xP_resolveIn_b68 {p : Program} {l : Launch} {e : Env} {s : State} {m : MethodId} {args : Array Value} {below : List Frame} {meth : Method} {c : Code} {D : va_G} {ac : Nat → ClassId} {a0 : Nat} {gl : gl_T} {rF : Unit} {stF : st_S} {iT jT : Nat}
    (X : cx_ p s m args c prog_1_method_33_code 5 "PromiseVats" tb_ D cl_ (ty_ ac)) (hKs : kn_ D ac a0 gl s) (hlk : meth.locks = false) (hret : meth.sig.returnType = (Option.none : Option FieldType)) (hnm : meth.name = "resolveIn") : wk_ p l e 11 286 s m args below meth c D cl_ ac a0 5 vb_u rF stF iT jT 68 (fun x : Option Nat × Int32 × Option Nat × Option Nat × Option Nat => [(0, (va_rf x.1)), (1, (.int x.2.1)), (2, (va_rf x.2.2.1))]) (fun x : Option Nat × Int32 × Option Nat × Option Nat × Option Nat => [(va_rf x.2.2.2.1), (va_rf x.2.2.2.2)]) (fun x : Option Nat × Int32 × Option Nat × Option Nat × Option Nat => xP_resolveIn_b68 gl x.1 x.2.1 x.2.2.1 x.2.2.2.1 x.2.2.2.2) := by
  intro x st H locs cells slots i j ls hw hl h hci hcj
  obtain ⟨p0, p1, p2, q0, q1⟩ := x
  have h : xP_resolveIn_b68 gl p0 p1 p2 q0 q1 st = some (rF, stF, i, j) := h
  unfold xP_resolveIn_b68 at h
  have hl : lh_ ls 5 [(0, (va_rf p0)), (1, (.int p1)), (2, (va_rf p2))] := hl
  refine W.eq (g2 := F0 m 68 ls [(va_rf q0), (va_rf q1)]) rfl ?_
  obtain ⟨t46, hp68, h⟩ := st_w_some h
  refine rr_put (ty := .object "PromiseVats$Entity") X hw ff_4_1 hp68 tw_209 (Or.inl rfl) (by decide +kernel) (rf_nar _ _) (rf_fit _ _) dd_xP_resolveIn_68 (fun H locs hw => ?_)
  refine rr_aldn X dd_xP_resolveIn_71 rfl (lv_at hl.1 2 rfl) ?_
  refine lv_iconst (v := (0 : Int32)) X.1 X.2.1 dd_xP_resolveIn_72 (by decide) ?_
  obtain ⟨t47, hp73, h⟩ := st_w_some h
  refine rr_put (ty := .boolean) X hw ff_4_0 hp73 tw_214 (Or.inl rfl) (by decide +kernel) (by decide) (by decide) dd_xP_resolveIn_73 (fun H locs hw => ?_)
  refine lv_iconst (v := (0 : Int32)) X.1 X.2.1 dd_xP_resolveIn_76 (by decide) ?_
  refine rr_ist (lv' := [(4, (.int (0 : Int32))), (0, (va_rf p0)), (1, (.int p1)), (2, (va_rf p2))]) X dd_xP_resolveIn_77 hl (by decide) rfl (fun ls hl => ?_)
  exact (kb_xP_resolveIn_b79 X hKs hlk hret hnm) (p0, p1, p2, (0 : Int32)) _ _ _ _ _ _ _ _ hw (lh_pk hl [1, 2, 3, 0] rfl) h hci hcj
set_option maxHeartbeats 4000000 in
set_option maxRecDepth 100000 in
theorem kc_xP_resolveIn (l : Launch) (D : va_G) (ac : Nat → ClassId) (a0 : Nat) (gl : gl_T) (v0 : Option Nat) (v1 : Int32) (v2 : Option Nat) (v3 : Option Nat) (st : st_S) (rF : Unit) (stF : st_S) (iT jT : Nat) (h : xP_resolveIn gl v0 v1 v2 v3 st = some (rF, stF, iT, jT)) :
    ct_ l ⟨"PromiseVats", "resolveIn", "(ILPromiseVats$Promise;LPromiseVats$Entity;)V"⟩ (Cond.code ⟨"PromiseVats", "resolveIn", "(ILPromiseVats$Promise;LPromiseVats$Entity;)V"⟩ prog_1_method_33_code 5 (Option.none : Option FieldType) :: tb_) 11 286 D cl_ ac a0 (kn_ D ac a0 gl) [(va_rf v0), (.int v1), (va_rf v2), (va_rf v3)] st (vb_u rF) stF iT jT := by
  refine ct_of (kn_ok D ac a0 gl) (plainFor_of_name (by decide +kernel)) (by simp [rf_cat, ic_cat]) (by simp) ?_
  intro p e s m args below meth c ls X hw hKs hlk hret hnm hl
  unfold xP_resolveIn at h
  have hl : lh_ ls 5 [(0, (va_rf v0)), (1, (.int v1)), (2, (va_rf v2)), (3, (va_rf v3))] := hl
  obtain ⟨z0, hz0⟩ : ∃ z : Nat, 0 = z := ⟨0, rfl⟩
  obtain ⟨z1, hz1⟩ : ∃ z : Nat, 0 = z := ⟨0, rfl⟩
  refine W.cs hz0 hz1 ?_
  have hci : z0 + iT = iT := by omega
  have hcj : z1 + jT = jT := by omega
  refine rr_aldn X dd_xP_resolveIn_0 rfl (lv_at hl.1 2 rfl) ?_
  obtain ⟨t1, ht1, h⟩ := st_g_some h
  refine rr_geti X hw ff_4_4 ht1 tw_285 (Or.inr tw_284) dd_xP_resolveIn_1 ?_
  refine lv_iload_n X.1 X.2.1 dd_xP_resolveIn_4 rfl (lv_at hl.1 1 rfl) ?_
  by_cases hc5 : t1 = v1
  · rw [if_pos hc5] at h
    refine lv_icmp_eq (tgt := 39) X.1 X.2.1 dd_xP_resolveIn_5 (by decide) (fun _ => ?_) (fun z => absurd hc5 z)
    refine rr_aldn X dd_xP_resolveIn_39 rfl (lv_at hl.1 2 rfl) ?_
    obtain ⟨t2, ht2, h⟩ := st_g_some h
    refine rr_geti X hw ff_4_5 ht2 tw_294 (Or.inr tw_293) dd_xP_resolveIn_40 ?_
    by_cases hc43 : t2 = 0
    · rw [if_pos hc43] at h
      refine lv_if_ne (tgt := 53) X.1 X.2.1 dd_xP_resolveIn_43 (by decide) (fun z => absurd hc43 z) (fun _ => ?_)
      refine rr_aldn X dd_xP_resolveIn_46 rfl (lv_at hl.1 2 rfl) ?_
      obtain ⟨t3, ht3, h⟩ := st_g_some h
      refine rr_geti X hw ff_4_0 ht3 tw_214 (Or.inl rfl) dd_xP_resolveIn_47 ?_
      by_cases hc50 : t3 = 0
      · rw [if_pos hc50] at h
        refine lv_if_ne (tgt := 54) X.1 X.2.1 dd_xP_resolveIn_50 (by decide) (fun z => absurd hc50 z) (fun _ => ?_)
        obtain ⟨rfl, rfl, rfl, rfl⟩ := st_r_some h
        exact rr_vret X hw hlk hret hci hcj dd_xP_resolveIn_53
      · rw [if_neg hc50] at h
        refine lv_if_ne (tgt := 54) X.1 X.2.1 dd_xP_resolveIn_50 (by decide) (fun _ => ?_) (fun z => absurd z hc50)
        refine rr_aldn X dd_xP_resolveIn_54 rfl (lv_at hl.1 2 rfl) ?_
        refine rr_aldn X dd_xP_resolveIn_55 rfl (lv_at hl.1 3 rfl) ?_
        refine rr_aldn X dd_xP_resolveIn_56 rfl (lv_at hl.1 2 rfl) ?_
        obtain ⟨t4, t5, t6, t7, t8, t9, ht4, h, ei, ej⟩ := st_b_some h
        refine rr_callS (n := 2) (As := [(va_rf v3), (va_rf v2)]) (rest := [(va_rf v2)]) X hw (kn_ok D ac a0 gl) hKs (kc_xP_leadsTo l D ac a0 gl v3 v2 _ _ _ _ _ ht4) tb_good tw_290 tw_91 tw_291 tw_292 (by decide +kernel) rfl (show 0 + 1 ≤ _ ∧ 8 + (5 + 11) + 0 ≤ _ from ⟨Nat.le_of_ble_eq_true rfl, Nat.le_of_ble_eq_true rfl⟩) (show z0 + t6 ≤ iT ∧ z1 + t7 ≤ jT from ⟨ar_1 hci ei, ar_1 hcj ej⟩) hl.1.1 (by simp [rf_cat, ic_cat]) rfl dd_xP_resolveIn_57 (sk := [(.int t4), (va_rf v2)]) rfl (fun H locs hw => ?_)
        have hci : z0 + t6 + t8 = iT := ar_2 hci ei
        have hcj : z1 + t7 + t9 = jT := ar_2 hcj ej
        clear ei ej
        generalize z0 + t6 = t10 at hci ⊢
        generalize z1 + t7 = t11 at hcj ⊢
        by_cases hc60 : t4 = 0
        · rw [if_pos hc60] at h
          refine lv_if_eq (tgt := 67) X.1 X.2.1 dd_xP_resolveIn_60 (by decide) (fun _ => ?_) (fun z => absurd hc60 z)
          refine rr_aldn X dd_xP_resolveIn_67 rfl (lv_at hl.1 3 rfl) ?_
          exact (kb_xP_resolveIn_b68 X hKs hlk hret hnm) (v0, v1, v2, v3, v2) _ _ _ _ _ _ _ _ hw (lh_pk hl [0, 1, 2] rfl) h hci hcj
        · rw [if_neg hc60] at h
          refine lv_if_eq (tgt := 67) X.1 X.2.1 dd_xP_resolveIn_60 (by decide) (fun z => absurd z hc60) (fun _ => ?_)
          refine rr_null X dd_xP_resolveIn_63 ?_
          refine lv_goto (tgt := 68) X.1 X.2.1 dd_xP_resolveIn_64 (by decide) ?_
          exact (kb_xP_resolveIn_b68 X hKs hlk hret hnm) (v0, v1, v2, none, v2) _ _ _ _ _ _ _ _ hw (lh_pk hl [0, 1, 2] rfl) h hci hcj
    · rw [if_neg hc43] at h
      refine lv_if_ne (tgt := 53) X.1 X.2.1 dd_xP_resolveIn_43 (by decide) (fun _ => ?_) (fun z => absurd z hc43)
      obtain ⟨rfl, rfl, rfl, rfl⟩ := st_r_some h
      exact rr_vret X hw hlk hret hci hcj dd_xP_resolveIn_53
  · rw [if_neg hc5] at h
    refine lv_icmp_eq (tgt := 39) X.1 X.2.1 dd_xP_resolveIn_5 (by decide) (fun z => absurd z hc5) (fun _ => ?_)
    refine rr_aldn X dd_xP_resolveIn_8 rfl (lv_at hl.1 0 rfl) ?_
    refine rr_aldn X dd_xP_resolveIn_9 rfl (lv_at hl.1 3 rfl) ?_
    refine lv_iload_n X.1 X.2.1 dd_xP_resolveIn_10 rfl (lv_at hl.1 1 rfl) ?_
    refine rr_aldn X dd_xP_resolveIn_11 rfl (lv_at hl.1 2 rfl) ?_
    obtain ⟨t12, ht12, h⟩ := st_g_some h
    refine rr_geti X hw ff_4_4 ht12 tw_285 (Or.inr tw_284) dd_xP_resolveIn_12 ?_
    obtain ⟨t45, ht45, h⟩ := st_g_some h
    obtain ⟨t13, t14, t15, t16, t17, t18, ht13, h, ei, ej⟩ := st_b_some h
    refine rr_callV (n := 3) (As := [(va_rf v3), (.int v1), (.int t12)]) (rest := []) X hw (kn_ok D ac a0 gl) hKs (kc_xP_packArgument l D ac a0 gl v0 v3 v1 t12 _ _ _ _ _ ht13) tb_good tw_200 tw_91 tw_201 tw_202 se_8 ht45 (by decide +kernel) rfl (show 8 + 1 ≤ _ ∧ 8 + (4 + 11) + 214 ≤ _ from ⟨Nat.le_of_ble_eq_true rfl, Nat.le_of_ble_eq_true rfl⟩) (show z0 + t15 ≤ iT ∧ z1 + t16 ≤ jT from ⟨ar_1 hci ei, ar_1 hcj ej⟩) hl.1.1 (by simp [rf_cat, ic_cat]) rfl dd_xP_resolveIn_15 (sk := []) rfl (fun H locs hw => ?_)
    have hci : z0 + t15 + t17 = iT := ar_2 hci ei
    have hcj : z1 + t16 + t18 = jT := ar_2 hcj ej
    clear ei ej
    generalize z0 + t15 = t19 at hci ⊢
    generalize z1 + t16 = t20 at hcj ⊢
    refine rr_aldn X dd_xP_resolveIn_18 rfl (lv_at hl.1 0 rfl) ?_
    refine lv_iload_n X.1 X.2.1 dd_xP_resolveIn_19 rfl (lv_at hl.1 1 rfl) ?_
    refine rr_aldn X dd_xP_resolveIn_20 rfl (lv_at hl.1 2 rfl) ?_
    obtain ⟨t21, ht21, h⟩ := st_g_some h
    refine rr_geti X hw ff_4_4 ht21 tw_285 (Or.inr tw_284) dd_xP_resolveIn_21 ?_
    obtain ⟨t43, t44, h, ei, ej⟩ := st_n_some h
    refine rr_new (fs := cd_9) X hw cf_9 cb_9 tw_194 tw_195 tw_190 (show t19 + 1 ≤ iT ∧ t20 + 5 ≤ jT from ⟨ar_1 hci ei, ar_1 hcj ej⟩) dd_xP_resolveIn_24 (fun H hw => ?_)
    have hci : t19 + 1 + t43 = iT := ar_2 hci ei
    have hcj : t20 + 5 + t44 = jT := ar_2 hcj ej
    clear ei ej
    generalize t19 + 1 = t23 at hci ⊢
    generalize t20 + 5 = t24 at hcj ⊢
    generalize t14.2 = t22 at h ⊢
    have h := h
    generalize (st_ad t14 (.inr (.inr (9, cd_9)))) = t25 at h hw
    refine lv_dup X.1 X.2.1 dd_xP_resolveIn_27 (rf_cat _) ?_
    refine lv_iconst (v := (2 : Int32)) X.1 X.2.1 dd_xP_resolveIn_28 (by decide) ?_
    refine rr_aldn X dd_xP_resolveIn_29 rfl (lv_at hl.1 2 rfl) ?_
    refine rr_aldn X dd_xP_resolveIn_30 rfl (lv_at hl.1 3 rfl) ?_
    refine lv_iconst (v := (0 : Int32)) X.1 X.2.1 dd_xP_resolveIn_31 (by decide) ?_
    obtain ⟨t26, t27, t28, t29, t30, t31, ht26, h, ei, ej⟩ := st_b_some h
    refine rr_callI (n := 4) (b := t22) (As := [(.int (2 : Int32)), (va_rf v2), (va_rf v3), (.int (0 : Int32))]) (rest := [(va_rf (some t22)), (.int t21), (.int v1), (va_rf v0)]) X hw (kn_ok D ac a0 gl) hKs (kc_xM_init l D ac a0 gl (some t22) (2 : Int32) v2 v3 (0 : Int32) _ _ _ _ _ ht26) tb_good tw_191 tw_190 tw_192 tw_193 rfl (by decide +kernel) rfl (show 1 + 1 ≤ _ ∧ 8 + (5 + 11) + 12 ≤ _ from ⟨Nat.le_of_ble_eq_true rfl, Nat.le_of_ble_eq_true rfl⟩) (show t23 + t28 ≤ iT ∧ t24 + t29 ≤ jT from ⟨ar_1 hci ei, ar_1 hcj ej⟩) hl.1.1 (by simp [rf_cat, ic_cat]) rfl dd_xP_resolveIn_32 (sk := [(va_rf (some t22)), (.int t21), (.int v1), (va_rf v0)]) rfl (fun H locs hw => ?_)
    have hci : t23 + t28 + t30 = iT := ar_2 hci ei
    have hcj : t24 + t29 + t31 = jT := ar_2 hcj ej
    clear ei ej
    generalize t23 + t28 = t32 at hci ⊢
    generalize t24 + t29 = t33 at hcj ⊢
    obtain ⟨t42, ht42, h⟩ := st_g_some h
    obtain ⟨t34, t35, t36, t37, t38, t39, ht34, h, ei, ej⟩ := st_b_some h
    refine rr_callV (n := 3) (As := [(.int v1), (.int t21), (va_rf (some t22))]) (rest := []) X hw (kn_ok D ac a0 gl) hKs (kc_xP_post l D ac a0 gl v0 v1 t21 (some t22) _ _ _ _ _ ht34) tb_good tw_186 tw_91 tw_187 tw_188 se_7 ht42 (by decide +kernel) rfl (show 7 + 1 ≤ _ ∧ 8 + (4 + 11) + 191 ≤ _ from ⟨Nat.le_of_ble_eq_true rfl, Nat.le_of_ble_eq_true rfl⟩) (show t32 + t36 ≤ iT ∧ t33 + t37 ≤ jT from ⟨ar_1 hci ei, ar_1 hcj ej⟩) hl.1.1 (by simp [rf_cat, ic_cat]) rfl dd_xP_resolveIn_35 (sk := []) rfl (fun H locs hw => ?_)
    have hci : t32 + t36 + t38 = iT := ar_2 hci ei
    have hcj : t33 + t37 + t39 = jT := ar_2 hcj ej
    clear ei ej
    generalize t32 + t36 = t40 at hci ⊢
    generalize t33 + t37 = t41 at hcj ⊢
    obtain ⟨rfl, rfl, rfl, rfl⟩ := st_r_some h
    exact rr_vret X hw hlk hret hci hcj dd_xP_resolveIn_38
