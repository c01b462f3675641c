/-! java/util/ArrayList.fastRemove([Ljava/lang/Object;I)V -/
theorem dd_al_fastRemove_0 : decode prog_20_method_39_code 0 = .ok (.aload_n 0, 1) := by decide +kernel
theorem dd_al_fastRemove_1 : decode prog_20_method_39_code 1 = .ok (.dup, 1) := by decide +kernel
theorem dd_al_fastRemove_2 : decode prog_20_method_39_code 2 = .ok (.getfield 63, 3) := by decide +kernel
theorem dd_al_fastRemove_5 : decode prog_20_method_39_code 5 = .ok (.iconst 1, 1) := by decide +kernel
theorem dd_al_fastRemove_6 : decode prog_20_method_39_code 6 = .ok (.iadd, 1) := by decide +kernel
theorem dd_al_fastRemove_7 : decode prog_20_method_39_code 7 = .ok (.putfield 63, 3) := by decide +kernel
theorem dd_al_fastRemove_10 : decode prog_20_method_39_code 10 = .ok (.aload_n 0, 1) := by decide +kernel
theorem dd_al_fastRemove_11 : decode prog_20_method_39_code 11 = .ok (.getfield 48, 3) := by decide +kernel
theorem dd_al_fastRemove_14 : decode prog_20_method_39_code 14 = .ok (.iconst 1, 1) := by decide +kernel
theorem dd_al_fastRemove_15 : decode prog_20_method_39_code 15 = .ok (.isub, 1) := by decide +kernel
theorem dd_al_fastRemove_16 : decode prog_20_method_39_code 16 = .ok (.dup, 1) := by decide +kernel
theorem dd_al_fastRemove_17 : decode prog_20_method_39_code 17 = .ok (.istore_n 3, 1) := by decide +kernel
theorem dd_al_fastRemove_18 : decode prog_20_method_39_code 18 = .ok (.iload_n 2, 1) := by decide +kernel
theorem dd_al_fastRemove_19 : decode prog_20_method_39_code 19 = .ok (.if_icmp .le 15, 3) := by decide +kernel
theorem dd_al_fastRemove_22 : decode prog_20_method_39_code 22 = .ok (.aload_n 1, 1) := by decide +kernel
theorem dd_al_fastRemove_23 : decode prog_20_method_39_code 23 = .ok (.iload_n 2, 1) := by decide +kernel
theorem dd_al_fastRemove_24 : decode prog_20_method_39_code 24 = .ok (.iconst 1, 1) := by decide +kernel
theorem dd_al_fastRemove_25 : decode prog_20_method_39_code 25 = .ok (.iadd, 1) := by decide +kernel
theorem dd_al_fastRemove_26 : decode prog_20_method_39_code 26 = .ok (.aload_n 1, 1) := by decide +kernel
theorem dd_al_fastRemove_27 : decode prog_20_method_39_code 27 = .ok (.iload_n 2, 1) := by decide +kernel
theorem dd_al_fastRemove_28 : decode prog_20_method_39_code 28 = .ok (.iload_n 3, 1) := by decide +kernel
theorem dd_al_fastRemove_29 : decode prog_20_method_39_code 29 = .ok (.iload_n 2, 1) := by decide +kernel
theorem dd_al_fastRemove_30 : decode prog_20_method_39_code 30 = .ok (.isub, 1) := by decide +kernel
theorem dd_al_fastRemove_31 : decode prog_20_method_39_code 31 = .ok (.invokestatic 112, 3) := by decide +kernel
theorem dd_al_fastRemove_34 : decode prog_20_method_39_code 34 = .ok (.aload_n 1, 1) := by decide +kernel
theorem dd_al_fastRemove_35 : decode prog_20_method_39_code 35 = .ok (.aload_n 0, 1) := by decide +kernel
theorem dd_al_fastRemove_36 : decode prog_20_method_39_code 36 = .ok (.iload_n 3, 1) := by decide +kernel
theorem dd_al_fastRemove_37 : decode prog_20_method_39_code 37 = .ok (.dup_x1, 1) := by decide +kernel
theorem dd_al_fastRemove_38 : decode prog_20_method_39_code 38 = .ok (.putfield 48, 3) := by decide +kernel
theorem dd_al_fastRemove_41 : decode prog_20_method_39_code 41 = .ok (.aconst_null, 1) := by decide +kernel
theorem dd_al_fastRemove_42 : decode prog_20_method_39_code 42 = .ok (.aastore, 1) := by decide +kernel
theorem dd_al_fastRemove_43 : decode prog_20_method_39_code 43 = .ok (.return_, 1) := by decide +kernel
set_option maxHeartbeats 4000000 in
set_option maxRecDepth 100000 in
theorem kb_al_fastRemove_b34 {p : Program} {l : Launch} {e : Env} {s : State} {m : MethodId} {args : Array Value} {below : List Frame} {meth : Method} {c : Code} {D : va_G} {ac : Nat → ClassId} {a0 : Nat} {gl : gl_T} {rF : Unit} {stF : st_S} {iT jT : Nat}
    (X : cx_ p s m args c prog_20_method_39_code 4 "java/util/ArrayList" tb_ D cl_ (ty_ ac)) (hKs : kn_ D ac a0 gl s) (hlk : meth.locks = false) (hret : meth.sig.returnType = (Option.none : Option FieldType)) (hnm : meth.name = "fastRemove") : wk_ p l e 1 60 s m args below meth c D cl_ ac a0 4 vb_u rF stF iT jT 34 (fun x : Option Nat × Option Nat × Int32 => [(0, (va_rf x.1)), (1, (va_rf x.2.1)), (3, (.int x.2.2))]) (fun x : Option Nat × Option Nat × Int32 => []) (fun x : Option Nat × Option Nat × Int32 => al_fastRemove_b34 gl x.1 x.2.1 x.2.2) := by
  intro x st H locs cells slots i j ls hw hl h hci hcj
  obtain ⟨p0, p1, p3⟩ := x
  have h : al_fastRemove_b34 gl p0 p1 p3 st = some (rF, stF, i, j) := h
  unfold al_fastRemove_b34 at h
  have hl : lh_ ls 4 [(0, (va_rf p0)), (1, (va_rf p1)), (3, (.int p3))] := hl
  refine W.eq (g2 := F0 m 34 ls []) rfl ?_
  refine rr_aldn X dd_al_fastRemove_34 rfl (lv_at hl.1 1 rfl) ?_
  refine rr_aldn X dd_al_fastRemove_35 rfl (lv_at hl.1 0 rfl) ?_
  refine lv_iload_n X.1 X.2.1 dd_al_fastRemove_36 rfl (lv_at hl.1 2 rfl) ?_
  refine lv_dup_x1 X.1 X.2.1 dd_al_fastRemove_37 rfl (rf_cat _) ?_
  obtain ⟨t5, hp38, h⟩ := st_w_some h
  refine rr_put (ty := .int) X hw ff_6_1 hp38 tw_114 (Or.inl rfl) (by decide +kernel) rfl rfl dd_al_fastRemove_38 (fun H locs hw => ?_)
  refine rr_null X dd_al_fastRemove_41 ?_
  obtain ⟨t6, hp42, h⟩ := st_w_some h
  refine rr_aast X hw (ta_9 hKs) hp42 dd_al_fastRemove_42 (fun H locs hw => ?_)
  obtain ⟨rfl, rfl, rfl, rfl⟩ := st_r_some h
  exact rr_vret X hw hlk hret hci hcj dd_al_fastRemove_43
set_option maxHeartbeats 4000000 in
set_option maxRecDepth 100000 in
theorem kc_al_fastRemove (l : Launch) (D : va_G) (ac : Nat → ClassId) (a0 : Nat) (gl : gl_T) (v0 : Option Nat) (v1 : Option Nat) (v2 : Int32) (st : st_S) (rF : Unit) (stF : st_S) (iT jT : Nat) (h : al_fastRemove gl v0 v1 v2 st = some (rF, stF, iT, jT)) :
    ct_ l ⟨"java/util/ArrayList", "fastRemove", "([Ljava/lang/Object;I)V"⟩ (Cond.code ⟨"java/util/ArrayList", "fastRemove", "([Ljava/lang/Object;I)V"⟩ prog_20_method_39_code 4 (Option.none : Option FieldType) :: tb_) 1 60 D cl_ ac a0 (kn_ D ac a0 gl) [(va_rf v0), (va_rf v1), (.int v2)] st (vb_u rF) stF iT jT := by
  refine ct_of (kn_ok D ac a0 gl) (by decide +kernel) (by simp [rf_cat, ic_cat]) (by simp) ?_
  intro p e s m args below meth c ls X hw hKs hlk hret hnm hl
  unfold al_fastRemove at h
  have hl : lh_ ls 4 [(0, (va_rf v0)), (1, (va_rf v1)), (2, (.int v2))] := hl
  obtain ⟨z0, hz0⟩ : ∃ z : Nat, 0 = z := ⟨0, rfl⟩
  obtain ⟨z1, hz1⟩ : ∃ z : Nat, 0 = z := ⟨0, rfl⟩
  refine W.cs hz0 hz1 ?_
  have hci : z0 + iT = iT := by omega
  have hcj : z1 + jT = jT := by omega
  refine rr_aldn X dd_al_fastRemove_0 rfl (lv_at hl.1 0 rfl) ?_
  refine lv_dup X.1 X.2.1 dd_al_fastRemove_1 (rf_cat _) ?_
  obtain ⟨t1, ht1, h⟩ := st_g_some h
  refine rr_geti X hw ff_6_2 ht1 tw_164 (Or.inr tw_163) dd_al_fastRemove_2 ?_
  refine lv_iconst (v := (1 : Int32)) X.1 X.2.1 dd_al_fastRemove_5 (by decide) ?_
  refine lv_iadd X.1 X.2.1 dd_al_fastRemove_6 ?_
  obtain ⟨t2, hp7, h⟩ := st_w_some h
  refine rr_put (ty := .int) X hw ff_6_2 hp7 tw_164 (Or.inr tw_163) (by decide +kernel) rfl rfl dd_al_fastRemove_7 (fun H locs hw => ?_)
  refine rr_aldn X dd_al_fastRemove_10 rfl (lv_at hl.1 0 rfl) ?_
  obtain ⟨t3, ht3, h⟩ := st_g_some h
  refine rr_geti X hw ff_6_1 ht3 tw_114 (Or.inl rfl) dd_al_fastRemove_11 ?_
  refine lv_iconst (v := (1 : Int32)) X.1 X.2.1 dd_al_fastRemove_14 (by decide) ?_
  refine lv_isub X.1 X.2.1 dd_al_fastRemove_15 ?_
  refine lv_dup X.1 X.2.1 dd_al_fastRemove_16 rfl ?_
  refine rr_istn (lv' := [(3, (.int (t3 - (1 : Int32)))), (0, (va_rf v0)), (1, (va_rf v1)), (2, (.int v2))]) X dd_al_fastRemove_17 rfl hl (by decide) rfl (fun ls hl => ?_)
  refine lv_iload_n X.1 X.2.1 dd_al_fastRemove_18 rfl (lv_at hl.1 3 rfl) ?_
  by_cases hc19 : (t3 - (1 : Int32)) ≤ v2
  · rw [if_pos hc19] at h
    refine lv_icmp_le (tgt := 34) X.1 X.2.1 dd_al_fastRemove_19 (by decide) (fun _ => ?_) (fun z => absurd hc19 z)
    exact (kb_al_fastRemove_b34 X hKs hlk hret hnm) (v0, v1, (t3 - (1 : Int32))) _ _ _ _ _ _ _ _ hw (lh_pk hl [1, 2, 0] rfl) h hci hcj
  · rw [if_neg hc19] at h
    refine lv_icmp_le (tgt := 34) X.1 X.2.1 dd_al_fastRemove_19 (by decide) (fun z => absurd z hc19) (fun _ => ?_)
    refine rr_aldn X dd_al_fastRemove_22 rfl (lv_at hl.1 2 rfl) ?_
    refine lv_iload_n X.1 X.2.1 dd_al_fastRemove_23 rfl (lv_at hl.1 3 rfl) ?_
    refine lv_iconst (v := (1 : Int32)) X.1 X.2.1 dd_al_fastRemove_24 (by decide) ?_
    refine lv_iadd X.1 X.2.1 dd_al_fastRemove_25 ?_
    refine rr_aldn X dd_al_fastRemove_26 rfl (lv_at hl.1 2 rfl) ?_
    refine lv_iload_n X.1 X.2.1 dd_al_fastRemove_27 rfl (lv_at hl.1 3 rfl) ?_
    refine lv_iload_n X.1 X.2.1 dd_al_fastRemove_28 rfl (lv_at hl.1 0 rfl) ?_
    refine lv_iload_n X.1 X.2.1 dd_al_fastRemove_29 rfl (lv_at hl.1 3 rfl) ?_
    refine lv_isub X.1 X.2.1 dd_al_fastRemove_30 ?_
    obtain ⟨t4, hp31, h⟩ := st_w_some h
    refine rr_cpq X hKs hw (ta_9 hKs) hp31 hl.1.1 tw_229 tw_131 tw_132 tw_133 (Nat.le_of_ble_eq_true rfl) (by simp [rf_cat, ic_cat]; decide) dd_al_fastRemove_31 (fun H locs hw => ?_)
    exact (kb_al_fastRemove_b34 X hKs hlk hret hnm) (v0, v1, (t3 - (1 : Int32))) _ _ _ _ _ _ _ _ hw (lh_pk hl [1, 2, 0] rfl) h hci hcj
/-! java/util/ArrayList.remove(I)Ljava/lang/Object; -/
theorem dd_al_remove_0 : decode prog_20_method_29_code 0 = .ok (.iload_n 1, 1) := by decide +kernel
theorem dd_al_remove_1 : decode prog_20_method_29_code 1 = .ok (.aload_n 0, 1) := by decide +kernel
theorem dd_al_remove_2 : decode prog_20_method_29_code 2 = .ok (.getfield 48, 3) := by decide +kernel
theorem dd_al_remove_5 : decode prog_20_method_29_code 5 = .ok (.invokestatic 118, 3) := by decide +kernel
theorem dd_al_remove_8 : decode prog_20_method_29_code 8 = .ok (.pop, 1) := by decide +kernel
theorem dd_al_remove_9 : decode prog_20_method_29_code 9 = .ok (.aload_n 0, 1) := by decide +kernel
theorem dd_al_remove_10 : decode prog_20_method_29_code 10 = .ok (.getfield 9, 3) := by decide +kernel
theorem dd_al_remove_13 : decode prog_20_method_29_code 13 = .ok (.astore_n 2, 1) := by decide +kernel
theorem dd_al_remove_14 : decode prog_20_method_29_code 14 = .ok (.aload_n 2, 1) := by decide +kernel
theorem dd_al_remove_15 : decode prog_20_method_29_code 15 = .ok (.iload_n 1, 1) := by decide +kernel
theorem dd_al_remove_16 : decode prog_20_method_29_code 16 = .ok (.aaload, 1) := by decide +kernel
theorem dd_al_remove_17 : decode prog_20_method_29_code 17 = .ok (.astore_n 3, 1) := by decide +kernel
theorem dd_al_remove_18 : decode prog_20_method_29_code 18 = .ok (.aload_n 0, 1) := by decide +kernel
theorem dd_al_remove_19 : decode prog_20_method_29_code 19 = .ok (.aload_n 2, 1) := by decide +kernel
theorem dd_al_remove_20 : decode prog_20_method_29_code 20 = .ok (.iload_n 1, 1) := by decide +kernel
theorem dd_al_remove_21 : decode prog_20_method_29_code 21 = .ok (.invokevirtual 144, 3) := by decide +kernel
theorem dd_al_remove_24 : decode prog_20_method_29_code 24 = .ok (.aload_n 3, 1) := by decide +kernel
theorem dd_al_remove_25 : decode prog_20_method_29_code 25 = .ok (.areturn, 1) := by decide +kernel
set_option maxHeartbeats 4000000 in
set_option maxRecDepth 100000 in
theorem kc_al_remove (l : Launch) (D : va_G) (ac : Nat → ClassId) (a0 : Nat) (gl : gl_T) (v0 : Option Nat) (v1 : Int32) (st : st_S) (rF : Option Nat) (stF : st_S) (iT jT : Nat) (h : al_remove gl v0 v1 st = some (rF, stF, iT, jT)) :
    ct_ l ⟨"java/util/ArrayList", "remove", "(I)Ljava/lang/Object;"⟩ (Cond.code ⟨"java/util/ArrayList", "remove", "(I)Ljava/lang/Object;"⟩ prog_20_method_29_code 4 (Option.some (FieldType.object "java/lang/Object")) :: tb_) 2 83 D cl_ ac a0 (kn_ D ac a0 gl) [(va_rf v0), (.int v1)] st (vb_q rF) stF iT jT := by
  refine ct_of (kn_ok D ac a0 gl) (by decide +kernel) (by simp [rf_cat, ic_cat]) (by simp) ?_
  intro p e s m args below meth c ls X hw hKs hlk hret hnm hl
  unfold al_remove at h
  have hl : lh_ ls 4 [(0, (va_rf v0)), (1, (.int v1))] := hl
  obtain ⟨z0, hz0⟩ : ∃ z : Nat, 0 = z := ⟨0, rfl⟩
  obtain ⟨z1, hz1⟩ : ∃ z : Nat, 0 = z := ⟨0, rfl⟩
  refine W.cs hz0 hz1 ?_
  have hci : z0 + iT = iT := by omega
  have hcj : z1 + jT = jT := by omega
  refine lv_iload_n X.1 X.2.1 dd_al_remove_0 rfl (lv_at hl.1 1 rfl) ?_
  refine rr_aldn X dd_al_remove_1 rfl (lv_at hl.1 0 rfl) ?_
  obtain ⟨t1, ht1, h⟩ := st_g_some h
  refine rr_geti X hw ff_6_1 ht1 tw_114 (Or.inl rfl) dd_al_remove_2 ?_
  obtain ⟨t2, t3, t4, t5, t6, t7, ht2, h, ei, ej⟩ := st_b_some h
  refine rr_callS (n := 2) (As := [(.int v1), (.int t1)]) (rest := []) X hw (kn_ok D ac a0 gl) hKs (kc_ob_checkIndex l D ac a0 gl v1 t1 _ _ _ _ _ ht2) tb_good tw_235 tw_234 tw_236 tw_237 (by decide +kernel) rfl (show 1 + 1 ≤ _ ∧ 8 + (2 + 11) + 22 ≤ _ from ⟨Nat.le_of_ble_eq_true rfl, Nat.le_of_ble_eq_true rfl⟩) (show z0 + t4 ≤ iT ∧ z1 + t5 ≤ jT from ⟨ar_1 hci ei, ar_1 hcj ej⟩) hl.1.1 (by simp [rf_cat, ic_cat]) rfl dd_al_remove_5 (sk := [(.int t2)]) rfl (fun H locs hw => ?_)
  have hci : z0 + t4 + t6 = iT := ar_2 hci ei
  have hcj : z1 + t5 + t7 = jT := ar_2 hcj ej
  clear ei ej
  generalize z0 + t4 = t8 at hci ⊢
  generalize z1 + t5 = t9 at hcj ⊢
  refine lv_pop X.1 X.2.1 dd_al_remove_8 rfl ?_
  refine rr_aldn X dd_al_remove_9 rfl (lv_at hl.1 0 rfl) ?_
  obtain ⟨t10, ht10, h⟩ := st_g_some h
  refine rr_getq X hw ff_6_0 ht10 tw_26 (Or.inl rfl) dd_al_remove_10 ?_
  refine rr_astn (lv' := [(2, (va_rf t10)), (0, (va_rf v0)), (1, (.int v1))]) X dd_al_remove_13 rfl hl (by decide) rfl (fun ls hl => ?_)
  refine rr_aldn X dd_al_remove_14 rfl (lv_at hl.1 0 rfl) ?_
  refine lv_iload_n X.1 X.2.1 dd_al_remove_15 rfl (lv_at hl.1 2 rfl) ?_
  obtain ⟨t11, ht11, h⟩ := st_g_some h
  refine rr_aald X hw (tq_9 ac) ht11 dd_al_remove_16 ?_
  refine rr_astn (lv' := [(3, (va_rf t11)), (2, (va_rf t10)), (0, (va_rf v0)), (1, (.int v1))]) X dd_al_remove_17 rfl hl (by decide) rfl (fun ls hl => ?_)
  refine rr_aldn X dd_al_remove_18 rfl (lv_at hl.1 2 rfl) ?_
  refine rr_aldn X dd_al_remove_19 rfl (lv_at hl.1 1 rfl) ?_
  refine lv_iload_n X.1 X.2.1 dd_al_remove_20 rfl (lv_at hl.1 3 rfl) ?_
  obtain ⟨t20, ht20, h⟩ := st_g_some h
  obtain ⟨t12, t13, t14, t15, t16, t17, ht12, h, ei, ej⟩ := st_b_some h
  refine rr_callV (n := 2) (As := [(va_rf t10), (.int v1)]) (rest := []) X hw (kn_ok D ac a0 gl) hKs (kc_al_fastRemove l D ac a0 gl v0 t10 v1 _ _ _ _ _ ht12) tb_good tw_230 tw_33 tw_231 tw_232 se_12 ht20 (by decide +kernel) rfl (show 1 + 1 ≤ _ ∧ 8 + (4 + 11) + 60 ≤ _ from ⟨Nat.le_of_ble_eq_true rfl, Nat.le_of_ble_eq_true rfl⟩) (show t8 + t14 ≤ iT ∧ t9 + t15 ≤ jT from ⟨ar_1 hci ei, ar_1 hcj ej⟩) hl.1.1 (by simp [rf_cat, ic_cat]) rfl dd_al_remove_21 (sk := []) rfl (fun H locs hw => ?_)
  have hci : t8 + t14 + t16 = iT := ar_2 hci ei
  have hcj : t9 + t15 + t17 = jT := ar_2 hcj ej
  clear ei ej
  generalize t8 + t14 = t18 at hci ⊢
  generalize t9 + t15 = t19 at hcj ⊢
  refine rr_aldn X dd_al_remove_24 rfl (lv_at hl.1 0 rfl) ?_
  obtain ⟨rfl, rfl, rfl, rfl⟩ := st_r_some h
  exact rr_aret X hw hlk hret (Or.inl ⟨_, rfl⟩) hci hcj dd_al_remove_25
/-! PromiseVats$Turn.begin(LPromiseVats$VatObject;LPromiseVats$Call;)V -/
theorem dd_xT_begin_0 : decode prog_8_method_2_code 0 = .ok (.aload_n 0, 1) := by decide +kernel
theorem dd_xT_begin_1 : decode prog_8_method_2_code 1 = .ok (.aload_n 1, 1) := by decide +kernel
theorem dd_xT_begin_2 : decode prog_8_method_2_code 2 = .ok (.putfield 7, 3) := by decide +kernel
theorem dd_xT_begin_5 : decode prog_8_method_2_code 5 = .ok (.aload_n 0, 1) := by decide +kernel
theorem dd_xT_begin_6 : decode prog_8_method_2_code 6 = .ok (.aload_n 2, 1) := by decide +kernel
theorem dd_xT_begin_7 : decode prog_8_method_2_code 7 = .ok (.getfield 13, 3) := by decide +kernel
theorem dd_xT_begin_10 : decode prog_8_method_2_code 10 = .ok (.putfield 19, 3) := by decide +kernel
theorem dd_xT_begin_13 : decode prog_8_method_2_code 13 = .ok (.aload_n 0, 1) := by decide +kernel
theorem dd_xT_begin_14 : decode prog_8_method_2_code 14 = .ok (.aload_n 2, 1) := by decide +kernel
theorem dd_xT_begin_15 : decode prog_8_method_2_code 15 = .ok (.getfield 20, 3) := by decide +kernel
theorem dd_xT_begin_18 : decode prog_8_method_2_code 18 = .ok (.putfield 24, 3) := by decide +kernel
theorem dd_xT_begin_21 : decode prog_8_method_2_code 21 = .ok (.aload_n 0, 1) := by decide +kernel
theorem dd_xT_begin_22 : decode prog_8_method_2_code 22 = .ok (.iconst 0, 1) := by decide +kernel
theorem dd_xT_begin_23 : decode prog_8_method_2_code 23 = .ok (.putfield 27, 3) := by decide +kernel
theorem dd_xT_begin_26 : decode prog_8_method_2_code 26 = .ok (.return_, 1) := by decide +kernel
set_option maxHeartbeats 4000000 in
set_option maxRecDepth 100000 in
theorem kc_xT_begin (l : Launch) (D : va_G) (ac : Nat → ClassId) (a0 : Nat) (gl : gl_T) (v0 : Option Nat) (v1 : Option Nat) (v2 : Option Nat) (st : st_S) (rF : Unit) (stF : st_S) (iT jT : Nat) (h : xT_begin gl v0 v1 v2 st = some (rF, stF, iT, jT)) :
    ct_ l ⟨"PromiseVats$Turn", "begin", "(LPromiseVats$VatObject;LPromiseVats$Call;)V"⟩ (Cond.code ⟨"PromiseVats$Turn", "begin", "(LPromiseVats$VatObject;LPromiseVats$Call;)V"⟩ prog_8_method_2_code 3 (Option.none : Option FieldType) :: tb_) 0 0 D cl_ ac a0 (kn_ D ac a0 gl) [(va_rf v0), (va_rf v1), (va_rf v2)] st (vb_u rF) stF iT jT := by
  refine ct_of (kn_ok D ac a0 gl) (plainFor_of_name (by decide +kernel)) (by simp [rf_cat, ic_cat]) (by simp) ?_
  intro p e s m args below meth c ls X hw hKs hlk hret hnm hl
  unfold xT_begin at h
  have hl : lh_ ls 3 [(0, (va_rf v0)), (1, (va_rf v1)), (2, (va_rf v2))] := hl
  obtain ⟨z0, hz0⟩ : ∃ z : Nat, 0 = z := ⟨0, rfl⟩
  obtain ⟨z1, hz1⟩ : ∃ z : Nat, 0 = z := ⟨0, rfl⟩
  refine W.cs hz0 hz1 ?_
  have hci : z0 + iT = iT := by omega
  have hcj : z1 + jT = jT := by omega
  refine rr_aldn X dd_xT_begin_0 rfl (lv_at hl.1 0 rfl) ?_
  refine rr_aldn X dd_xT_begin_1 rfl (lv_at hl.1 1 rfl) ?_
  obtain ⟨t1, hp2, h⟩ := st_w_some h
  refine rr_put (ty := .object "PromiseVats$VatObject") X hw ff_1_0 hp2 tw_243 (Or.inl rfl) (by decide +kernel) (rf_nar _ _) (rf_fit _ _) dd_xT_begin_2 (fun H locs hw => ?_)
  refine rr_aldn X dd_xT_begin_5 rfl (lv_at hl.1 0 rfl) ?_
  refine rr_aldn X dd_xT_begin_6 rfl (lv_at hl.1 2 rfl) ?_
  obtain ⟨t2, ht2, h⟩ := st_g_some h
  refine rr_geti X hw ff_8_1 ht2 tw_242 (Or.inl rfl) dd_xT_begin_7 ?_
  obtain ⟨t3, hp10, h⟩ := st_w_some h
  refine rr_put (ty := .int) X hw ff_1_1 hp10 tw_241 (Or.inl rfl) (by decide +kernel) rfl rfl dd_xT_begin_10 (fun H locs hw => ?_)
  refine rr_aldn X dd_xT_begin_13 rfl (lv_at hl.1 0 rfl) ?_
  refine rr_aldn X dd_xT_begin_14 rfl (lv_at hl.1 2 rfl) ?_
  obtain ⟨t4, ht4, h⟩ := st_g_some h
  refine rr_getq X hw ff_8_2 ht4 tw_240 (Or.inl rfl) dd_xT_begin_15 ?_
  obtain ⟨t5, hp18, h⟩ := st_w_some h
  refine rr_put (ty := .object "PromiseVats$Entity") X hw ff_1_2 hp18 tw_239 (Or.inl rfl) (by decide +kernel) (rf_nar _ _) (rf_fit _ _) dd_xT_begin_18 (fun H locs hw => ?_)
  refine rr_aldn X dd_xT_begin_21 rfl (lv_at hl.1 0 rfl) ?_
  refine lv_iconst (v := (0 : Int32)) X.1 X.2.1 dd_xT_begin_22 (by decide) ?_
  obtain ⟨t6, hp23, h⟩ := st_w_some h
  refine rr_put (ty := .int) X hw ff_1_3 hp23 tw_238 (Or.inl rfl) (by decide +kernel) rfl rfl dd_xT_begin_23 (fun H locs hw => ?_)
  obtain ⟨rfl, rfl, rfl, rfl⟩ := st_r_some h
  exact rr_vret X hw hlk hret hci hcj dd_xT_begin_26
/-! PromiseVats.makeObject(LPromiseVats$Turn;I)LPromiseVats$VatObject; -/
theorem dd_xP_makeObject_0 : decode prog_1_method_27_code 0 = .ok (.aload_n 0, 1) := by decide +kernel
theorem dd_xP_makeObject_1 : decode prog_1_method_27_code 1 = .ok (.getfield 61, 3) := by decide +kernel
theorem dd_xP_makeObject_4 : decode prog_1_method_27_code 4 = .ok (.bipush 60, 2) := by decide +kernel
theorem dd_xP_makeObject_6 : decode prog_1_method_27_code 6 = .ok (.if_icmp .lt 5, 3) := by decide +kernel
theorem dd_xP_makeObject_9 : decode prog_1_method_27_code 9 = .ok (.aconst_null, 1) := by decide +kernel
theorem dd_xP_makeObject_10 : decode prog_1_method_27_code 10 = .ok (.areturn, 1) := by decide +kernel
theorem dd_xP_makeObject_11 : decode prog_1_method_27_code 11 = .ok (.aload_n 0, 1) := by decide +kernel
theorem dd_xP_makeObject_12 : decode prog_1_method_27_code 12 = .ok (.dup, 1) := by decide +kernel
theorem dd_xP_makeObject_13 : decode prog_1_method_27_code 13 = .ok (.getfield 61, 3) := by decide +kernel
theorem dd_xP_makeObject_16 : decode prog_1_method_27_code 16 = .ok (.iconst 1, 1) := by decide +kernel
theorem dd_xP_makeObject_17 : decode prog_1_method_27_code 17 = .ok (.iadd, 1) := by decide +kernel
theorem dd_xP_makeObject_18 : decode prog_1_method_27_code 18 = .ok (.putfield 61, 3) := by decide +kernel
theorem dd_xP_makeObject_21 : decode prog_1_method_27_code 21 = .ok (.new 53, 3) := by decide +kernel
theorem dd_xP_makeObject_24 : decode prog_1_method_27_code 24 = .ok (.dup, 1) := by decide +kernel
theorem dd_xP_makeObject_25 : decode prog_1_method_27_code 25 = .ok (.aload_n 0, 1) := by decide +kernel
theorem dd_xP_makeObject_26 : decode prog_1_method_27_code 26 = .ok (.getfield 61, 3) := by decide +kernel
theorem dd_xP_makeObject_29 : decode prog_1_method_27_code 29 = .ok (.aload_n 1, 1) := by decide +kernel
theorem dd_xP_makeObject_30 : decode prog_1_method_27_code 30 = .ok (.getfield 243, 3) := by decide +kernel
theorem dd_xP_makeObject_33 : decode prog_1_method_27_code 33 = .ok (.getfield 257, 3) := by decide +kernel
theorem dd_xP_makeObject_36 : decode prog_1_method_27_code 36 = .ok (.iload_n 2, 1) := by decide +kernel
theorem dd_xP_makeObject_37 : decode prog_1_method_27_code 37 = .ok (.invokespecial 55, 3) := by decide +kernel
theorem dd_xP_makeObject_40 : decode prog_1_method_27_code 40 = .ok (.astore_n 3, 1) := by decide +kernel
theorem dd_xP_makeObject_41 : decode prog_1_method_27_code 41 = .ok (.aload_n 3, 1) := by decide +kernel
theorem dd_xP_makeObject_42 : decode prog_1_method_27_code 42 = .ok (.aload_n 1, 1) := by decide +kernel
theorem dd_xP_makeObject_43 : decode prog_1_method_27_code 43 = .ok (.getfield 246, 3) := by decide +kernel
theorem dd_xP_makeObject_46 : decode prog_1_method_27_code 46 = .ok (.putfield 226, 3) := by decide +kernel
theorem dd_xP_makeObject_49 : decode prog_1_method_27_code 49 = .ok (.aload_n 3, 1) := by decide +kernel
theorem dd_xP_makeObject_50 : decode prog_1_method_27_code 50 = .ok (.getfield 93, 3) := by decide +kernel
theorem dd_xP_makeObject_53 : decode prog_1_method_27_code 53 = .ok (.iconst 0, 1) := by decide +kernel
theorem dd_xP_makeObject_54 : decode prog_1_method_27_code 54 = .ok (.aload_n 1, 1) := by decide +kernel
theorem dd_xP_makeObject_55 : decode prog_1_method_27_code 55 = .ok (.getfield 155, 3) := by decide +kernel
theorem dd_xP_makeObject_58 : decode prog_1_method_27_code 58 = .ok (.aastore, 1) := by decide +kernel
theorem dd_xP_makeObject_59 : decode prog_1_method_27_code 59 = .ok (.aload_n 0, 1) := by decide +kernel
theorem dd_xP_makeObject_60 : decode prog_1_method_27_code 60 = .ok (.getfield 32, 3) := by decide +kernel
theorem dd_xP_makeObject_63 : decode prog_1_method_27_code 63 = .ok (.aload_n 3, 1) := by decide +kernel
theorem dd_xP_makeObject_64 : decode prog_1_method_27_code 64 = .ok (.getfield 162, 3) := by decide +kernel
theorem dd_xP_makeObject_67 : decode prog_1_method_27_code 67 = .ok (.aload_n 3, 1) := by decide +kernel
theorem dd_xP_makeObject_68 : decode prog_1_method_27_code 68 = .ok (.aastore, 1) := by decide +kernel
theorem dd_xP_makeObject_69 : decode prog_1_method_27_code 69 = .ok (.aload_n 3, 1) := by decide +kernel
theorem dd_xP_makeObject_70 : decode prog_1_method_27_code 70 = .ok (.areturn, 1) := by decide +kernel
set_option maxHeartbeats 4000000 in
set_option maxRecDepth 100000 in
theorem kc_xP_makeObject (l : Launch) (D : va_G) (ac : Nat → ClassId) (a0 : Nat) (gl : gl_T) (v0 : Option Nat) (v1 : Option Nat) (v2 : Int32) (st : st_S) (rF : Option Nat) (stF : st_S) (iT jT : Nat) (h : xP_makeObject gl v0 v1 v2 st = some (rF, stF, iT, jT)) :
    ct_ l ⟨"PromiseVats", "makeObject", "(LPromiseVats$Turn;I)LPromiseVats$VatObject;"⟩ (Cond.code ⟨"PromiseVats", "makeObject", "(LPromiseVats$Turn;I)LPromiseVats$VatObject;"⟩ prog_1_method_27_code 4 (Option.some (FieldType.object "PromiseVats$VatObject")) :: tb_) 3 57 D cl_ ac a0 (kn_ D ac a0 gl) [(va_rf v0), (va_rf v1), (.int v2)] st (vb_q rF) stF iT jT := by
  refine ct_of (kn_ok D ac a0 gl) (plainFor_of_name (by decide +kernel)) (by simp [rf_cat, ic_cat]) (by simp) ?_
  intro p e s m args below meth c ls X hw hKs hlk hret hnm hl
  unfold xP_makeObject at h
  have hl : lh_ ls 4 [(0, (va_rf v0)), (1, (va_rf v1)), (2, (.int v2))] := hl
  obtain ⟨z0, hz0⟩ : ∃ z : Nat, 0 = z := ⟨0, rfl⟩
  obtain ⟨z1, hz1⟩ : ∃ z : Nat, 0 = z := ⟨0, rfl⟩
  refine W.cs hz0 hz1 ?_
  have hci : z0 + iT = iT := by omega
  have hcj : z1 + jT = jT := by omega
  refine rr_aldn X dd_xP_makeObject_0 rfl (lv_at hl.1 0 rfl) ?_
  obtain ⟨t1, ht1, h⟩ := st_g_some h
  refine rr_geti X hw ff_0_3 ht1 tw_79 (Or.inl rfl) dd_xP_makeObject_1 ?_
  refine lv_bipush (v := (60 : Int32)) X.1 X.2.1 dd_xP_makeObject_4 (by decide) ?_
  by_cases hc6 : t1 < (60 : Int32)
  · rw [if_pos hc6] at h
    refine lv_icmp_lt (tgt := 11) X.1 X.2.1 dd_xP_makeObject_6 (by decide) (fun _ => ?_) (fun z => absurd hc6 z)
    refine rr_aldn X dd_xP_makeObject_11 rfl (lv_at hl.1 0 rfl) ?_
    refine lv_dup X.1 X.2.1 dd_xP_makeObject_12 (rf_cat _) ?_
    obtain ⟨t2, ht2, h⟩ := st_g_some h
    refine rr_geti X hw ff_0_3 ht2 tw_79 (Or.inl rfl) dd_xP_makeObject_13 ?_
    refine lv_iconst (v := (1 : Int32)) X.1 X.2.1 dd_xP_makeObject_16 (by decide) ?_
    refine lv_iadd X.1 X.2.1 dd_xP_makeObject_17 ?_
    obtain ⟨t3, hp18, h⟩ := st_w_some h
    refine rr_put (ty := .int) X hw ff_0_3 hp18 tw_79 (Or.inl rfl) (by decide +kernel) rfl rfl dd_xP_makeObject_18 (fun H locs hw => ?_)
    obtain ⟨t27, t28, h, ei, ej⟩ := st_n_some h
    refine rr_new (fs := cd_3) X hw cf_3 cb_3 tw_89 tw_90 tw_85 (show z0 + 1 ≤ iT ∧ z1 + 10 ≤ jT from ⟨ar_1 hci ei, ar_1 hcj ej⟩) dd_xP_makeObject_21 (fun H hw => ?_)
    have hci : z0 + 1 + t27 = iT := ar_2 hci ei
    have hcj : z1 + 10 + t28 = jT := ar_2 hcj ej
    clear ei ej
    generalize z0 + 1 = t5 at hci ⊢
    generalize z1 + 10 = t6 at hcj ⊢
    generalize t3.2 = t4 at h ⊢
    have h := h
    generalize (st_ad t3 (.inr (.inr (3, cd_3)))) = t7 at h hw
    refine lv_dup X.1 X.2.1 dd_xP_makeObject_24 (rf_cat _) ?_
    refine rr_aldn X dd_xP_makeObject_25 rfl (lv_at hl.1 0 rfl) ?_
    obtain ⟨t8, ht8, h⟩ := st_g_some h
    refine rr_geti X hw ff_0_3 ht8 tw_79 (Or.inl rfl) dd_xP_makeObject_26 ?_
    refine rr_aldn X dd_xP_makeObject_29 rfl (lv_at hl.1 1 rfl) ?_
    obtain ⟨t9, ht9, h⟩ := st_g_some h
    refine rr_getq X hw ff_1_0 ht9 tw_251 (Or.inl rfl) dd_xP_makeObject_30 ?_
    obtain ⟨t10, ht10, h⟩ := st_g_some h
    refine rr_geti X hw ff_3_4 ht10 tw_250 (Or.inr tw_249) dd_xP_makeObject_33 ?_
    refine lv_iload_n X.1 X.2.1 dd_xP_makeObject_36 rfl (lv_at hl.1 2 rfl) ?_
    obtain ⟨t11, t12, t13, t14, t15, t16, ht11, h, ei, ej⟩ := st_b_some h
    refine rr_callI (n := 3) (b := t4) (As := [(.int t8), (.int t10), (.int v2)]) (rest := [(va_rf (some t4))]) X hw (kn_ok D ac a0 gl) hKs (kc_xO_init l D ac a0 gl (some t4) t8 t10 v2 _ _ _ _ _ ht11) tb_good tw_86 tw_85 tw_87 tw_88 rfl (by decide +kernel) rfl (show 2 + 1 ≤ _ ∧ 8 + (4 + 11) + 34 ≤ _ from ⟨Nat.le_of_ble_eq_true rfl, Nat.le_of_ble_eq_true rfl⟩) (show t5 + t13 ≤ iT ∧ t6 + t14 ≤ jT from ⟨ar_1 hci ei, ar_1 hcj ej⟩) hl.1.1 (by simp [rf_cat, ic_cat]) rfl dd_xP_makeObject_37 (sk := [(va_rf (some t4))]) rfl (fun H locs hw => ?_)
    have hci : t5 + t13 + t15 = iT := ar_2 hci ei
    have hcj : t6 + t14 + t16 = jT := ar_2 hcj ej
    clear ei ej
    generalize t5 + t13 = t17 at hci ⊢
    generalize t6 + t14 = t18 at hcj ⊢
    refine rr_astn (lv' := [(3, (va_rf (some t4))), (0, (va_rf v0)), (1, (va_rf v1)), (2, (.int v2))]) X dd_xP_makeObject_40 rfl hl (by decide) rfl (fun ls hl => ?_)
    refine rr_aldn X dd_xP_makeObject_41 rfl (lv_at hl.1 0 rfl) ?_
    refine rr_aldn X dd_xP_makeObject_42 rfl (lv_at hl.1 2 rfl) ?_
    obtain ⟨t19, ht19, h⟩ := st_g_some h
    refine rr_geti X hw ff_1_1 ht19 tw_248 (Or.inl rfl) dd_xP_makeObject_43 ?_
    obtain ⟨t20, hp46, h⟩ := st_w_some h
    refine rr_put (ty := .int) X hw ff_3_1 hp46 tw_247 (Or.inl rfl) (by decide +kernel) rfl rfl dd_xP_makeObject_46 (fun H locs hw => ?_)
    refine rr_aldn X dd_xP_makeObject_49 rfl (lv_at hl.1 0 rfl) ?_
    obtain ⟨t21, ht21, h⟩ := st_g_some h
    refine rr_getq X hw ff_3_2 ht21 tw_108 (Or.inl rfl) dd_xP_makeObject_50 ?_
    refine lv_iconst (v := (0 : Int32)) X.1 X.2.1 dd_xP_makeObject_53 (by decide) ?_
    refine rr_aldn X dd_xP_makeObject_54 rfl (lv_at hl.1 2 rfl) ?_
    obtain ⟨t22, ht22, h⟩ := st_g_some h
    refine rr_getq X hw ff_1_2 ht22 tw_246 (Or.inl rfl) dd_xP_makeObject_55 ?_
    obtain ⟨t23, hp58, h⟩ := st_w_some h
    refine rr_aast X hw (ta_6 hKs) hp58 dd_xP_makeObject_58 (fun H locs hw => ?_)
    refine rr_aldn X dd_xP_makeObject_59 rfl (lv_at hl.1 1 rfl) ?_
    obtain ⟨t24, ht24, h⟩ := st_g_some h
    refine rr_getq X hw ff_0_2 ht24 tw_64 (Or.inl rfl) dd_xP_makeObject_60 ?_
    refine rr_aldn X dd_xP_makeObject_63 rfl (lv_at hl.1 0 rfl) ?_
    obtain ⟨t25, ht25, h⟩ := st_g_some h
    refine rr_geti X hw ff_3_3 ht25 tw_245 (Or.inr tw_244) dd_xP_makeObject_64 ?_
    refine rr_aldn X dd_xP_makeObject_67 rfl (lv_at hl.1 0 rfl) ?_
    obtain ⟨t26, hp68, h⟩ := st_w_some h
    refine rr_aast X hw (ta_6 hKs) hp68 dd_xP_makeObject_68 (fun H locs hw => ?_)
    refine rr_aldn X dd_xP_makeObject_69 rfl (lv_at hl.1 0 rfl) ?_
    obtain ⟨rfl, rfl, rfl, rfl⟩ := st_r_some h
    exact rr_aret X hw hlk hret (Or.inl ⟨_, rfl⟩) hci hcj dd_xP_makeObject_70
  · rw [if_neg hc6] at h
    refine lv_icmp_lt (tgt := 11) X.1 X.2.1 dd_xP_makeObject_6 (by decide) (fun z => absurd z hc6) (fun _ => ?_)
    refine rr_null X dd_xP_makeObject_9 ?_
    obtain ⟨rfl, rfl, rfl, rfl⟩ := st_r_some h
    exact rr_aret X hw hlk hret (Or.inl ⟨_, rfl⟩) hci hcj dd_xP_makeObject_10
/-! PromiseVats$Promise.<init>(II)V -/
theorem dd_xQ_init_0 : decode prog_7_method_1_code 0 = .ok (.aload_n 0, 1) := by decide +kernel
theorem dd_xQ_init_1 : decode prog_7_method_1_code 1 = .ok (.iload_n 1, 1) := by decide +kernel
theorem dd_xQ_init_2 : decode prog_7_method_1_code 2 = .ok (.iload_n 2, 1) := by decide +kernel
theorem dd_xQ_init_3 : decode prog_7_method_1_code 3 = .ok (.invokespecial 1, 3) := by decide +kernel
theorem dd_xQ_init_6 : decode prog_7_method_1_code 6 = .ok (.aload_n 0, 1) := by decide +kernel
theorem dd_xQ_init_7 : decode prog_7_method_1_code 7 = .ok (.iconst 1, 1) := by decide +kernel
theorem dd_xQ_init_8 : decode prog_7_method_1_code 8 = .ok (.putfield 7, 3) := by decide +kernel
theorem dd_xQ_init_11 : decode prog_7_method_1_code 11 = .ok (.aload_n 0, 1) := by decide +kernel
theorem dd_xQ_init_12 : decode prog_7_method_1_code 12 = .ok (.new 13, 3) := by decide +kernel
theorem dd_xQ_init_15 : decode prog_7_method_1_code 15 = .ok (.dup, 1) := by decide +kernel
theorem dd_xQ_init_16 : decode prog_7_method_1_code 16 = .ok (.invokespecial 15, 3) := by decide +kernel
theorem dd_xQ_init_19 : decode prog_7_method_1_code 19 = .ok (.putfield 18, 3) := by decide +kernel
theorem dd_xQ_init_22 : decode prog_7_method_1_code 22 = .ok (.return_, 1) := by decide +kernel
set_option maxHeartbeats 4000000 in
set_option maxRecDepth 100000 in
theorem kc_xQ_init (l : Launch) (D : va_G) (ac : Nat → ClassId) (a0 : Nat) (gl : gl_T) (v0 : Option Nat) (v1 : Int32) (v2 : Int32) (st : st_S) (rF : Unit) (stF : st_S) (iT jT : Nat) (h : xQ_init gl v0 v1 v2 st = some (rF, stF, iT, jT)) :
    ct_ l ⟨"PromiseVats$Promise", "<init>", "(II)V"⟩ (Cond.code ⟨"PromiseVats$Promise", "<init>", "(II)V"⟩ prog_7_method_1_code 3 (Option.none : Option FieldType) :: tb_) 4 72 D cl_ ac a0 (kn_ D ac a0 gl) [(va_rf v0), (.int v1), (.int v2)] st (vb_u rF) stF iT jT := by
  refine ct_of (kn_ok D ac a0 gl) (plainFor_of_name (by decide +kernel)) (by simp [rf_cat, ic_cat]) (by simp) ?_
  intro p e s m args below meth c ls X hw hKs hlk hret hnm hl
  unfold xQ_init at h
  have hl : lh_ ls 3 [(0, (va_rf v0)), (1, (.int v1)), (2, (.int v2))] := hl
  obtain ⟨z0, hz0⟩ : ∃ z : Nat, 0 = z := ⟨0, rfl⟩
  obtain ⟨z1, hz1⟩ : ∃ z : Nat, 0 = z := ⟨0, rfl⟩
  refine W.cs hz0 hz1 ?_
  have hci : z0 + iT = iT := by omega
  have hcj : z1 + jT = jT := by omega
  refine rr_aldn X dd_xQ_init_0 rfl (lv_at hl.1 0 rfl) ?_
  refine lv_iload_n X.1 X.2.1 dd_xQ_init_1 rfl (lv_at hl.1 1 rfl) ?_
  refine lv_iload_n X.1 X.2.1 dd_xQ_init_2 rfl (lv_at hl.1 2 rfl) ?_
  obtain ⟨t25, ht25, h⟩ := st_g_some h
  obtain ⟨bt25, _, hbt25, _⟩ := so_c_some ht25
  obtain ⟨t1, t2, t3, t4, t5, t6, ht1, h, ei, ej⟩ := st_b_some h
  refine rr_callI (n := 2) (b := bt25) (As := [(.int v1), (.int v2)]) (rest := []) X hw (kn_ok D ac a0 gl) hKs (show ct_ _ _ _ _ _ _ _ _ _ _ (va_rf (some bt25) :: [(.int v1), (.int v2)]) _ _ _ _ _ from hbt25 ▸ (kc_xE_init l D ac a0 gl v0 v1 v2 _ _ _ _ _ ht1)) tb_good tw_17 tw_16 tw_256 tw_19 rfl (by decide +kernel) rfl (show 1 + 1 ≤ _ ∧ 8 + (3 + 11) + 12 ≤ _ from ⟨Nat.le_of_ble_eq_true rfl, Nat.le_of_ble_eq_true rfl⟩) (show z0 + t3 ≤ iT ∧ z1 + t4 ≤ jT from ⟨ar_1 hci ei, ar_1 hcj ej⟩) hl.1.1 (by simp [rf_cat, ic_cat]) (by rw [hbt25]; rfl) dd_xQ_init_3 (sk := []) rfl (fun H locs hw => ?_)
  have hci : z0 + t3 + t5 = iT := ar_2 hci ei
  have hcj : z1 + t4 + t6 = jT := ar_2 hcj ej
  clear ei ej
  generalize z0 + t3 = t7 at hci ⊢
  generalize z1 + t4 = t8 at hcj ⊢
  refine rr_aldn X dd_xQ_init_6 rfl (lv_at hl.1 0 rfl) ?_
  refine lv_iconst (v := (1 : Int32)) X.1 X.2.1 dd_xQ_init_7 (by decide) ?_
  obtain ⟨t9, hp8, h⟩ := st_w_some h
  refine rr_put (ty := .boolean) X hw ff_4_0 hp8 tw_255 (Or.inl rfl) (by decide +kernel) (by decide) (by decide) dd_xQ_init_8 (fun H locs hw => ?_)
  refine rr_aldn X dd_xQ_init_11 rfl (lv_at hl.1 0 rfl) ?_
  obtain ⟨t23, t24, h, ei, ej⟩ := st_n_some h
  refine rr_new (fs := cd_6) X hw cf_6 cb_6 tw_254 tw_38 tw_33 (show t7 + 1 ≤ iT ∧ t8 + 3 ≤ jT from ⟨ar_1 hci ei, ar_1 hcj ej⟩) dd_xQ_init_12 (fun H hw => ?_)
  have hci : t7 + 1 + t23 = iT := ar_2 hci ei
  have hcj : t8 + 3 + t24 = jT := ar_2 hcj ej
  clear ei ej
  generalize t7 + 1 = t11 at hci ⊢
  generalize t8 + 3 = t12 at hcj ⊢
  generalize t9.2 = t10 at h ⊢
  have h := h
  generalize (st_ad t9 (.inr (.inr (6, cd_6)))) = t13 at h hw
  refine lv_dup X.1 X.2.1 dd_xQ_init_15 (rf_cat _) ?_
  obtain ⟨t14, t15, t16, t17, t18, t19, ht14, h, ei, ej⟩ := st_b_some h
  refine rr_callI (n := 0) (b := t10) (As := []) (rest := [(va_rf (some t10)), (va_rf v0)]) X hw (kn_ok D ac a0 gl) hKs (kc_al_init l D ac a0 gl (some t10) _ _ _ _ _ ht14) tb_good tw_34 tw_33 tw_253 tw_36 rfl (by decide +kernel) rfl (show 3 + 1 ≤ _ ∧ 8 + (1 + 11) + 52 ≤ _ from ⟨Nat.le_of_ble_eq_true rfl, Nat.le_of_ble_eq_true rfl⟩) (show t11 + t16 ≤ iT ∧ t12 + t17 ≤ jT from ⟨ar_1 hci ei, ar_1 hcj ej⟩) hl.1.1 (by simp [rf_cat, ic_cat]) rfl dd_xQ_init_16 (sk := [(va_rf (some t10)), (va_rf v0)]) rfl (fun H locs hw => ?_)
  have hci : t11 + t16 + t18 = iT := ar_2 hci ei
  have hcj : t12 + t17 + t19 = jT := ar_2 hcj ej
  clear ei ej
  generalize t11 + t16 = t20 at hci ⊢
  generalize t12 + t17 = t21 at hcj ⊢
  obtain ⟨t22, hp19, h⟩ := st_w_some h
  refine rr_putF (ty := .object "java/util/ArrayList") X hw ff_4_2 hp19 tw_252 hnm (by decide +kernel) (rf_nar _ _) (rf_fit _ _) dd_xQ_init_19 (fun H locs hw => ?_)
  obtain ⟨rfl, rfl, rfl, rfl⟩ := st_r_some h
  exact rr_vret X hw hlk hret hci hcj dd_xQ_init_22
