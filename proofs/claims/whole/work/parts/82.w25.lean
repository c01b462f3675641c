/-! PromiseVatsModel.unpack(III)V -/
theorem dd_mm_unpack_0 : decode prog_12_method_9_code 0 = .ok (.iload_n 3, 1) := by decide +kernel
theorem dd_mm_unpack_1 : decode prog_12_method_9_code 1 = .ok (.ifCond .eq 13, 3) := by decide +kernel
theorem dd_mm_unpack_4 : decode prog_12_method_9_code 4 = .ok (.aload_n 0, 1) := by decide +kernel
theorem dd_mm_unpack_5 : decode prog_12_method_9_code 5 = .ok (.getfield 19, 3) := by decide +kernel
theorem dd_mm_unpack_8 : decode prog_12_method_9_code 8 = .ok (.iload_n 3, 1) := by decide +kernel
theorem dd_mm_unpack_9 : decode prog_12_method_9_code 9 = .ok (.baload, 1) := by decide +kernel
theorem dd_mm_unpack_10 : decode prog_12_method_9_code 10 = .ok (.iload_n 2, 1) := by decide +kernel
theorem dd_mm_unpack_11 : decode prog_12_method_9_code 11 = .ok (.if_icmp .ne 4, 3) := by decide +kernel
theorem dd_mm_unpack_14 : decode prog_12_method_9_code 14 = .ok (.return_, 1) := by decide +kernel
theorem dd_mm_unpack_15 : decode prog_12_method_9_code 15 = .ok (.aload_n 0, 1) := by decide +kernel
theorem dd_mm_unpack_16 : decode prog_12_method_9_code 16 = .ok (.getfield 48, 3) := by decide +kernel
theorem dd_mm_unpack_19 : decode prog_12_method_9_code 19 = .ok (.iconst 4, 1) := by decide +kernel
theorem dd_mm_unpack_20 : decode prog_12_method_9_code 20 = .ok (.iload_n 3, 1) := by decide +kernel
theorem dd_mm_unpack_21 : decode prog_12_method_9_code 21 = .ok (.imul, 1) := by decide +kernel
theorem dd_mm_unpack_22 : decode prog_12_method_9_code 22 = .ok (.iload_n 2, 1) := by decide +kernel
theorem dd_mm_unpack_23 : decode prog_12_method_9_code 23 = .ok (.iadd, 1) := by decide +kernel
theorem dd_mm_unpack_24 : decode prog_12_method_9_code 24 = .ok (.dup2, 1) := by decide +kernel
theorem dd_mm_unpack_25 : decode prog_12_method_9_code 25 = .ok (.iaload, 1) := by decide +kernel
theorem dd_mm_unpack_26 : decode prog_12_method_9_code 26 = .ok (.iconst 1, 1) := by decide +kernel
theorem dd_mm_unpack_27 : decode prog_12_method_9_code 27 = .ok (.iadd, 1) := by decide +kernel
theorem dd_mm_unpack_28 : decode prog_12_method_9_code 28 = .ok (.iastore, 1) := by decide +kernel
theorem dd_mm_unpack_29 : decode prog_12_method_9_code 29 = .ok (.aload_n 0, 1) := by decide +kernel
theorem dd_mm_unpack_30 : decode prog_12_method_9_code 30 = .ok (.getfield 19, 3) := by decide +kernel
theorem dd_mm_unpack_33 : decode prog_12_method_9_code 33 = .ok (.iload_n 3, 1) := by decide +kernel
theorem dd_mm_unpack_34 : decode prog_12_method_9_code 34 = .ok (.baload, 1) := by decide +kernel
theorem dd_mm_unpack_35 : decode prog_12_method_9_code 35 = .ok (.iload_n 1, 1) := by decide +kernel
theorem dd_mm_unpack_36 : decode prog_12_method_9_code 36 = .ok (.if_icmp .eq 22, 3) := by decide +kernel
theorem dd_mm_unpack_39 : decode prog_12_method_9_code 39 = .ok (.aload_n 0, 1) := by decide +kernel
theorem dd_mm_unpack_40 : decode prog_12_method_9_code 40 = .ok (.iconst 5, 1) := by decide +kernel
theorem dd_mm_unpack_41 : decode prog_12_method_9_code 41 = .ok (.iconst 4, 1) := by decide +kernel
theorem dd_mm_unpack_42 : decode prog_12_method_9_code 42 = .ok (.iload_n 2, 1) := by decide +kernel
theorem dd_mm_unpack_43 : decode prog_12_method_9_code 43 = .ok (.imul, 1) := by decide +kernel
theorem dd_mm_unpack_44 : decode prog_12_method_9_code 44 = .ok (.aload_n 0, 1) := by decide +kernel
theorem dd_mm_unpack_45 : decode prog_12_method_9_code 45 = .ok (.getfield 19, 3) := by decide +kernel
theorem dd_mm_unpack_48 : decode prog_12_method_9_code 48 = .ok (.iload_n 3, 1) := by decide +kernel
theorem dd_mm_unpack_49 : decode prog_12_method_9_code 49 = .ok (.baload, 1) := by decide +kernel
theorem dd_mm_unpack_50 : decode prog_12_method_9_code 50 = .ok (.iadd, 1) := by decide +kernel
theorem dd_mm_unpack_51 : decode prog_12_method_9_code 51 = .ok (.iload_n 3, 1) := by decide +kernel
theorem dd_mm_unpack_52 : decode prog_12_method_9_code 52 = .ok (.iload_n 1, 1) := by decide +kernel
theorem dd_mm_unpack_53 : decode prog_12_method_9_code 53 = .ok (.iconst 0, 1) := by decide +kernel
theorem dd_mm_unpack_54 : decode prog_12_method_9_code 54 = .ok (.iconst 0, 1) := by decide +kernel
theorem dd_mm_unpack_55 : decode prog_12_method_9_code 55 = .ok (.invokevirtual 111, 3) := by decide +kernel
theorem dd_mm_unpack_58 : decode prog_12_method_9_code 58 = .ok (.return_, 1) := by decide +kernel
set_option maxHeartbeats 4000000 in
set_option maxRecDepth 100000 in
theorem kc_mm_unpack (l : Launch) (D : va_G) (ac : Nat → ClassId) (a0 : Nat) (gl : gl_T) (v0 : Option Nat) (v1 : Int32) (v2 : Int32) (v3 : Int32) (st : st_S) (rF : Unit) (stF : st_S) (iT jT : Nat) (h : mm_unpack gl v0 v1 v2 v3 st = some (rF, stF, iT, jT)) :
    ct_ l ⟨"PromiseVatsModel", "unpack", "(III)V"⟩ (Cond.code ⟨"PromiseVatsModel", "unpack", "(III)V"⟩ prog_12_method_9_code 4 (Option.none : Option FieldType) :: tb_) 1 26 D cl_ ac a0 (kn_ D ac a0 gl) [(va_rf v0), (.int v1), (.int v2), (.int v3)] st (vb_u rF) stF iT jT := by
  refine ct_of (kn_ok D ac a0 gl) (plainFor_of_name (by decide +kernel)) (by simp [rf_cat, ic_cat]) (by simp) ?_
  intro p e s m args below meth c ls X hw hKs hlk hret hnm hl
  unfold mm_unpack at h
  have hl : lh_ ls 4 [(0, (va_rf v0)), (1, (.int v1)), (2, (.int v2)), (3, (.int v3))] := hl
  obtain ⟨z0, hz0⟩ : ∃ z : Nat, 0 = z := ⟨0, rfl⟩
  obtain ⟨z1, hz1⟩ : ∃ z : Nat, 0 = z := ⟨0, rfl⟩
  refine W.cs hz0 hz1 ?_
  have hci : z0 + iT = iT := by omega
  have hcj : z1 + jT = jT := by omega
  refine lv_iload_n X.1 X.2.1 dd_mm_unpack_0 rfl (lv_at hl.1 3 rfl) ?_
  by_cases hc1 : v3 = 0
  · rw [if_pos hc1] at h
    refine lv_if_eq (tgt := 14) X.1 X.2.1 dd_mm_unpack_1 (by decide) (fun _ => ?_) (fun z => absurd hc1 z)
    obtain ⟨rfl, rfl, rfl, rfl⟩ := st_r_some h
    exact rr_vret X hw hlk hret hci hcj dd_mm_unpack_14
  · rw [if_neg hc1] at h
    refine lv_if_eq (tgt := 14) X.1 X.2.1 dd_mm_unpack_1 (by decide) (fun z => absurd z hc1) (fun _ => ?_)
    refine rr_aldn X dd_mm_unpack_4 rfl (lv_at hl.1 0 rfl) ?_
    obtain ⟨t1, ht1, h⟩ := st_g_some h
    refine rr_getq X hw ff_10_6 ht1 tw_461 (Or.inl rfl) dd_mm_unpack_5 ?_
    refine lv_iload_n X.1 X.2.1 dd_mm_unpack_8 rfl (lv_at hl.1 3 rfl) ?_
    obtain ⟨t2, ht2, h⟩ := st_g_some h
    refine rr_bald (t := 1) X hw rfl ht2 dd_mm_unpack_9 ?_
    refine lv_iload_n X.1 X.2.1 dd_mm_unpack_10 rfl (lv_at hl.1 2 rfl) ?_
    by_cases hc11 : t2 = v2
    · rw [if_pos hc11] at h
      refine lv_icmp_ne (tgt := 15) X.1 X.2.1 dd_mm_unpack_11 (by decide) (fun z => absurd hc11 z) (fun _ => ?_)
      obtain ⟨rfl, rfl, rfl, rfl⟩ := st_r_some h
      exact rr_vret X hw hlk hret hci hcj dd_mm_unpack_14
    · rw [if_neg hc11] at h
      refine lv_icmp_ne (tgt := 15) X.1 X.2.1 dd_mm_unpack_11 (by decide) (fun _ => ?_) (fun z => absurd z hc11)
      refine rr_aldn X dd_mm_unpack_15 rfl (lv_at hl.1 0 rfl) ?_
      obtain ⟨t3, ht3, h⟩ := st_g_some h
      refine rr_getq X hw ff_10_16 ht3 tw_452 (Or.inl rfl) dd_mm_unpack_16 ?_
      refine lv_iconst (v := (4 : Int32)) X.1 X.2.1 dd_mm_unpack_19 (by decide) ?_
      refine lv_iload_n X.1 X.2.1 dd_mm_unpack_20 rfl (lv_at hl.1 3 rfl) ?_
      refine lv_imul X.1 X.2.1 dd_mm_unpack_21 ?_
      refine lv_iload_n X.1 X.2.1 dd_mm_unpack_22 rfl (lv_at hl.1 2 rfl) ?_
      refine lv_iadd X.1 X.2.1 dd_mm_unpack_23 ?_
      refine lv_dup2_11 X.1 X.2.1 dd_mm_unpack_24 rfl (rf_cat _) ?_
      obtain ⟨t4, ht4, h⟩ := st_g_some h
      refine rr_iald (t := 0) X hw rfl ht4 dd_mm_unpack_25 ?_
      refine lv_iconst (v := (1 : Int32)) X.1 X.2.1 dd_mm_unpack_26 (by decide) ?_
      refine lv_iadd X.1 X.2.1 dd_mm_unpack_27 ?_
      obtain ⟨t5, hp28, h⟩ := st_w_some h
      refine rr_iast (t := 0) X hw rfl hp28 dd_mm_unpack_28 (fun H locs hw => ?_)
      refine rr_aldn X dd_mm_unpack_29 rfl (lv_at hl.1 0 rfl) ?_
      obtain ⟨t6, ht6, h⟩ := st_g_some h
      refine rr_getq X hw ff_10_6 ht6 tw_461 (Or.inl rfl) dd_mm_unpack_30 ?_
      refine lv_iload_n X.1 X.2.1 dd_mm_unpack_33 rfl (lv_at hl.1 3 rfl) ?_
      obtain ⟨t7, ht7, h⟩ := st_g_some h
      refine rr_bald (t := 1) X hw rfl ht7 dd_mm_unpack_34 ?_
      refine lv_iload_n X.1 X.2.1 dd_mm_unpack_35 rfl (lv_at hl.1 1 rfl) ?_
      by_cases hc36 : t7 = v1
      · rw [if_pos hc36] at h
        refine lv_icmp_eq (tgt := 58) X.1 X.2.1 dd_mm_unpack_36 (by decide) (fun _ => ?_) (fun z => absurd hc36 z)
        obtain ⟨rfl, rfl, rfl, rfl⟩ := st_r_some h
        exact rr_vret X hw hlk hret hci hcj dd_mm_unpack_58
      · rw [if_neg hc36] at h
        refine lv_icmp_eq (tgt := 58) X.1 X.2.1 dd_mm_unpack_36 (by decide) (fun z => absurd z hc36) (fun _ => ?_)
        refine rr_aldn X dd_mm_unpack_39 rfl (lv_at hl.1 0 rfl) ?_
        refine lv_iconst (v := (5 : Int32)) X.1 X.2.1 dd_mm_unpack_40 (by decide) ?_
        refine lv_iconst (v := (4 : Int32)) X.1 X.2.1 dd_mm_unpack_41 (by decide) ?_
        refine lv_iload_n X.1 X.2.1 dd_mm_unpack_42 rfl (lv_at hl.1 2 rfl) ?_
        refine lv_imul X.1 X.2.1 dd_mm_unpack_43 ?_
        refine rr_aldn X dd_mm_unpack_44 rfl (lv_at hl.1 0 rfl) ?_
        obtain ⟨t8, ht8, h⟩ := st_g_some h
        refine rr_getq X hw ff_10_6 ht8 tw_461 (Or.inl rfl) dd_mm_unpack_45 ?_
        refine lv_iload_n X.1 X.2.1 dd_mm_unpack_48 rfl (lv_at hl.1 3 rfl) ?_
        obtain ⟨t9, ht9, h⟩ := st_g_some h
        refine rr_bald (t := 1) X hw rfl ht9 dd_mm_unpack_49 ?_
        refine lv_iadd X.1 X.2.1 dd_mm_unpack_50 ?_
        refine lv_iload_n X.1 X.2.1 dd_mm_unpack_51 rfl (lv_at hl.1 3 rfl) ?_
        refine lv_iload_n X.1 X.2.1 dd_mm_unpack_52 rfl (lv_at hl.1 1 rfl) ?_
        refine lv_iconst (v := (0 : Int32)) X.1 X.2.1 dd_mm_unpack_53 (by decide) ?_
        refine lv_iconst (v := (0 : Int32)) X.1 X.2.1 dd_mm_unpack_54 (by decide) ?_
        obtain ⟨t18, ht18, h⟩ := st_g_some h
        obtain ⟨t10, t11, t12, t13, t14, t15, ht10, h, ei, ej⟩ := st_b_some h
        refine rr_callV (n := 6) (As := [(.int (5 : Int32)), (.int (((4 : Int32) * v2) + t9)), (.int v3), (.int v1), (.int (0 : Int32)), (.int (0 : Int32))]) (rest := []) X hw (kn_ok D ac a0 gl) hKs (kc_mm_post l D ac a0 gl v0 (5 : Int32) (((4 : Int32) * v2) + t9) v3 v1 (0 : Int32) (0 : Int32) _ _ _ _ _ ht10) tb_good tw_470 tw_469 tw_471 tw_472 se_43 ht18 (by decide +kernel) rfl (show 0 + 1 ≤ _ ∧ 8 + (7 + 11) + 0 ≤ _ from ⟨Nat.le_of_ble_eq_true rfl, Nat.le_of_ble_eq_true rfl⟩) (show z0 + t12 ≤ iT ∧ z1 + t13 ≤ jT from ⟨ar_1 hci ei, ar_1 hcj ej⟩) hl.1.1 (by simp [rf_cat, ic_cat]) rfl dd_mm_unpack_55 (sk := []) rfl (fun H locs hw => ?_)
        have hci : z0 + t12 + t14 = iT := ar_2 hci ei
        have hcj : z1 + t13 + t15 = jT := ar_2 hcj ej
        clear ei ej
        generalize z0 + t12 = t16 at hci ⊢
        generalize z1 + t13 = t17 at hcj ⊢
        obtain ⟨rfl, rfl, rfl, rfl⟩ := st_r_some h
        exact rr_vret X hw hlk hret hci hcj dd_mm_unpack_58
/-! PromiseVatsModel.passes(II)Z -/
theorem dd_mm_passes_0 : decode prog_12_method_16_code 0 = .ok (.iload_n 2, 1) := by decide +kernel
theorem dd_mm_passes_1 : decode prog_12_method_16_code 1 = .ok (.bipush 100, 2) := by decide +kernel
theorem dd_mm_passes_3 : decode prog_12_method_16_code 3 = .ok (.if_icmp .le 26, 3) := by decide +kernel
theorem dd_mm_passes_6 : decode prog_12_method_16_code 6 = .ok (.aload_n 0, 1) := by decide +kernel
theorem dd_mm_passes_7 : decode prog_12_method_16_code 7 = .ok (.getfield 19, 3) := by decide +kernel
theorem dd_mm_passes_10 : decode prog_12_method_16_code 10 = .ok (.iload_n 2, 1) := by decide +kernel
theorem dd_mm_passes_11 : decode prog_12_method_16_code 11 = .ok (.baload, 1) := by decide +kernel
theorem dd_mm_passes_12 : decode prog_12_method_16_code 12 = .ok (.iload_n 1, 1) := by decide +kernel
theorem dd_mm_passes_13 : decode prog_12_method_16_code 13 = .ok (.if_icmp .ne 16, 3) := by decide +kernel
theorem dd_mm_passes_16 : decode prog_12_method_16_code 16 = .ok (.aload_n 0, 1) := by decide +kernel
theorem dd_mm_passes_17 : decode prog_12_method_16_code 17 = .ok (.getfield 27, 3) := by decide +kernel
theorem dd_mm_passes_20 : decode prog_12_method_16_code 20 = .ok (.iload_n 2, 1) := by decide +kernel
theorem dd_mm_passes_21 : decode prog_12_method_16_code 21 = .ok (.baload, 1) := by decide +kernel
theorem dd_mm_passes_22 : decode prog_12_method_16_code 22 = .ok (.ifCond .eq 7, 3) := by decide +kernel
theorem dd_mm_passes_25 : decode prog_12_method_16_code 25 = .ok (.iconst 1, 1) := by decide +kernel
theorem dd_mm_passes_26 : decode prog_12_method_16_code 26 = .ok (.goto 4, 3) := by decide +kernel
theorem dd_mm_passes_29 : decode prog_12_method_16_code 29 = .ok (.iconst 0, 1) := by decide +kernel
theorem dd_mm_passes_30 : decode prog_12_method_16_code 30 = .ok (.ireturn, 1) := by decide +kernel
set_option maxHeartbeats 4000000 in
set_option maxRecDepth 100000 in
theorem kb_mm_passes_b29 {p : Program} {l : Launch} {e : Env} {s : State} {m : MethodId} {args : Array Value} {below : List Frame} {meth : Method} {c : Code} {D : va_G} {ac : Nat → ClassId} {a0 : Nat} {gl : gl_T} {rF : Int32} {stF : st_S} {iT jT : Nat}
    (X : cx_ p s m args c prog_12_method_16_code 3 "PromiseVatsModel" tb_ D cl_ (ty_ ac)) (hKs : kn_ D ac a0 gl s) (hlk : meth.locks = false) (hret : meth.sig.returnType = (Option.some FieldType.boolean)) (hnm : meth.name = "passes") : wk_ p l e 0 0 s m args below meth c D cl_ ac a0 3 vb_i rF stF iT jT 29 (fun x : Unit => []) (fun x : Unit => []) (fun _ : Unit => mm_passes_b29 gl) := by
  intro x st H locs cells slots i j ls hw hl h hci hcj
  have h : mm_passes_b29 gl  st = some (rF, stF, i, j) := h
  unfold mm_passes_b29 at h
  have hl : lh_ ls 3 [] := hl
  refine W.eq (g2 := F0 m 29 ls []) rfl ?_
  refine lv_iconst (v := (0 : Int32)) X.1 X.2.1 dd_mm_passes_29 (by decide) ?_
  obtain ⟨rfl, rfl, rfl, rfl⟩ := st_r_some h
  exact rr_iret X hw hlk hret (by decide) hci hcj dd_mm_passes_30
set_option maxHeartbeats 4000000 in
set_option maxRecDepth 100000 in
theorem kc_mm_passes (l : Launch) (D : va_G) (ac : Nat → ClassId) (a0 : Nat) (gl : gl_T) (v0 : Option Nat) (v1 : Int32) (v2 : Int32) (st : st_S) (rF : Int32) (stF : st_S) (iT jT : Nat) (h : mm_passes gl v0 v1 v2 st = some (rF, stF, iT, jT)) :
    ct_ l ⟨"PromiseVatsModel", "passes", "(II)Z"⟩ (Cond.code ⟨"PromiseVatsModel", "passes", "(II)Z"⟩ prog_12_method_16_code 3 (Option.some FieldType.boolean) :: tb_) 0 0 D cl_ ac a0 (kn_ D ac a0 gl) [(va_rf v0), (.int v1), (.int v2)] st (vb_i rF) stF iT jT := by
  refine ct_of (kn_ok D ac a0 gl) (plainFor_of_name (by decide +kernel)) (by simp [rf_cat, ic_cat]) (by simp) ?_
  intro p e s m args below meth c ls X hw hKs hlk hret hnm hl
  unfold mm_passes at h
  have hl : lh_ ls 3 [(0, (va_rf v0)), (1, (.int v1)), (2, (.int v2))] := hl
  obtain ⟨z0, hz0⟩ : ∃ z : Nat, 0 = z := ⟨0, rfl⟩
  obtain ⟨z1, hz1⟩ : ∃ z : Nat, 0 = z := ⟨0, rfl⟩
  refine W.cs hz0 hz1 ?_
  have hci : z0 + iT = iT := by omega
  have hcj : z1 + jT = jT := by omega
  refine lv_iload_n X.1 X.2.1 dd_mm_passes_0 rfl (lv_at hl.1 2 rfl) ?_
  refine lv_bipush (v := (100 : Int32)) X.1 X.2.1 dd_mm_passes_1 (by decide) ?_
  by_cases hc3 : v2 ≤ (100 : Int32)
  · rw [if_pos hc3] at h
    refine lv_icmp_le (tgt := 29) X.1 X.2.1 dd_mm_passes_3 (by decide) (fun _ => ?_) (fun z => absurd hc3 z)
    exact (kb_mm_passes_b29 X hKs hlk hret hnm) () _ _ _ _ _ _ _ _ hw (lh_pk hl [] rfl) h hci hcj
  · rw [if_neg hc3] at h
    refine lv_icmp_le (tgt := 29) X.1 X.2.1 dd_mm_passes_3 (by decide) (fun z => absurd z hc3) (fun _ => ?_)
    refine rr_aldn X dd_mm_passes_6 rfl (lv_at hl.1 0 rfl) ?_
    obtain ⟨t1, ht1, h⟩ := st_g_some h
    refine rr_getq X hw ff_10_6 ht1 tw_461 (Or.inl rfl) dd_mm_passes_7 ?_
    refine lv_iload_n X.1 X.2.1 dd_mm_passes_10 rfl (lv_at hl.1 2 rfl) ?_
    obtain ⟨t2, ht2, h⟩ := st_g_some h
    refine rr_bald (t := 1) X hw rfl ht2 dd_mm_passes_11 ?_
    refine lv_iload_n X.1 X.2.1 dd_mm_passes_12 rfl (lv_at hl.1 1 rfl) ?_
    by_cases hc13 : t2 = v1
    · rw [if_pos hc13] at h
      refine lv_icmp_ne (tgt := 29) X.1 X.2.1 dd_mm_passes_13 (by decide) (fun z => absurd hc13 z) (fun _ => ?_)
      refine rr_aldn X dd_mm_passes_16 rfl (lv_at hl.1 0 rfl) ?_
      obtain ⟨t3, ht3, h⟩ := st_g_some h
      refine rr_getq X hw ff_10_8 ht3 tw_459 (Or.inl rfl) dd_mm_passes_17 ?_
      refine lv_iload_n X.1 X.2.1 dd_mm_passes_20 rfl (lv_at hl.1 2 rfl) ?_
      obtain ⟨t4, ht4, h⟩ := st_g_some h
      refine rr_zald (t := 2) X hw rfl ht4 dd_mm_passes_21 ?_
      by_cases hc22 : t4 = 0
      · rw [if_pos hc22] at h
        refine lv_if_eq (tgt := 29) X.1 X.2.1 dd_mm_passes_22 (by decide) (fun _ => ?_) (fun z => absurd hc22 z)
        exact (kb_mm_passes_b29 X hKs hlk hret hnm) () _ _ _ _ _ _ _ _ hw (lh_pk hl [] rfl) h hci hcj
      · rw [if_neg hc22] at h
        refine lv_if_eq (tgt := 29) X.1 X.2.1 dd_mm_passes_22 (by decide) (fun z => absurd z hc22) (fun _ => ?_)
        refine lv_iconst (v := (1 : Int32)) X.1 X.2.1 dd_mm_passes_25 (by decide) ?_
        refine lv_goto (tgt := 30) X.1 X.2.1 dd_mm_passes_26 (by decide) ?_
        obtain ⟨rfl, rfl, rfl, rfl⟩ := st_r_some h
        exact rr_iret X hw hlk hret (by decide) hci hcj dd_mm_passes_30
    · rw [if_neg hc13] at h
      refine lv_icmp_ne (tgt := 29) X.1 X.2.1 dd_mm_passes_13 (by decide) (fun _ => ?_) (fun z => absurd z hc13)
      exact (kb_mm_passes_b29 X hKs hlk hret hnm) () _ _ _ _ _ _ _ _ hw (lh_pk hl [] rfl) h hci hcj
/-! PromiseVatsModel.waits(I)I -/
theorem dd_mm_waits_0 : decode prog_12_method_17_code 0 = .ok (.iconst 0, 1) := by decide +kernel
theorem dd_mm_waits_1 : decode prog_12_method_17_code 1 = .ok (.istore_n 2, 1) := by decide +kernel
theorem dd_mm_waits_2 : decode prog_12_method_17_code 2 = .ok (.iconst 0, 1) := by decide +kernel
theorem dd_mm_waits_3 : decode prog_12_method_17_code 3 = .ok (.istore_n 3, 1) := by decide +kernel
theorem dd_mm_waits_4 : decode prog_12_method_17_code 4 = .ok (.iload_n 3, 1) := by decide +kernel
theorem dd_mm_waits_5 : decode prog_12_method_17_code 5 = .ok (.aload_n 0, 1) := by decide +kernel
theorem dd_mm_waits_6 : decode prog_12_method_17_code 6 = .ok (.getfield 144, 3) := by decide +kernel
theorem dd_mm_waits_9 : decode prog_12_method_17_code 9 = .ok (.if_icmp .ge 27, 3) := by decide +kernel
theorem dd_mm_waits_12 : decode prog_12_method_17_code 12 = .ok (.aload_n 0, 1) := by decide +kernel
theorem dd_mm_waits_13 : decode prog_12_method_17_code 13 = .ok (.getfield 54, 3) := by decide +kernel
theorem dd_mm_waits_16 : decode prog_12_method_17_code 16 = .ok (.iload_n 3, 1) := by decide +kernel
theorem dd_mm_waits_17 : decode prog_12_method_17_code 17 = .ok (.iaload, 1) := by decide +kernel
theorem dd_mm_waits_18 : decode prog_12_method_17_code 18 = .ok (.iload_n 1, 1) := by decide +kernel
theorem dd_mm_waits_19 : decode prog_12_method_17_code 19 = .ok (.if_icmp .ne 9, 3) := by decide +kernel
theorem dd_mm_waits_22 : decode prog_12_method_17_code 22 = .ok (.iload_n 2, 1) := by decide +kernel
theorem dd_mm_waits_23 : decode prog_12_method_17_code 23 = .ok (.iconst 1, 1) := by decide +kernel
theorem dd_mm_waits_24 : decode prog_12_method_17_code 24 = .ok (.iadd, 1) := by decide +kernel
theorem dd_mm_waits_25 : decode prog_12_method_17_code 25 = .ok (.goto 4, 3) := by decide +kernel
theorem dd_mm_waits_28 : decode prog_12_method_17_code 28 = .ok (.iload_n 2, 1) := by decide +kernel
theorem dd_mm_waits_29 : decode prog_12_method_17_code 29 = .ok (.istore_n 2, 1) := by decide +kernel
theorem dd_mm_waits_30 : decode prog_12_method_17_code 30 = .ok (.iinc 3 1, 3) := by decide +kernel
theorem dd_mm_waits_33 : decode prog_12_method_17_code 33 = .ok (.goto (-29), 3) := by decide +kernel
theorem dd_mm_waits_36 : decode prog_12_method_17_code 36 = .ok (.iload_n 2, 1) := by decide +kernel
theorem dd_mm_waits_37 : decode prog_12_method_17_code 37 = .ok (.ireturn, 1) := by decide +kernel
set_option maxHeartbeats 4000000 in
set_option maxRecDepth 100000 in
theorem kb_mm_waits_b29 {p : Program} {l : Launch} {e : Env} {s : State} {m : MethodId} {args : Array Value} {below : List Frame} {meth : Method} {c : Code} {D : va_G} {ac : Nat → ClassId} {a0 : Nat} {gl : gl_T} {rF : Int32} {stF : st_S} {iT jT : Nat} {rec4 : Option Nat × Int32 × Int32 × Int32 → st_M (Int32)}
    (X : cx_ p s m args c prog_12_method_17_code 4 "PromiseVatsModel" tb_ D cl_ (ty_ ac)) (hKs : kn_ D ac a0 gl s) (hlk : meth.locks = false) (hret : meth.sig.returnType = (Option.some FieldType.int)) (hnm : meth.name = "waits") (hr4 : wk_ p l e 0 0 s m args below meth c D cl_ ac a0 4 vb_i rF stF iT jT 4 (fun x : Option Nat × Int32 × Int32 × Int32 => [(0, (va_rf x.1)), (1, (.int x.2.1)), (2, (.int x.2.2.1)), (3, (.int x.2.2.2))]) (fun x : Option Nat × Int32 × Int32 × Int32 => []) rec4) : wk_ p l e 0 0 s m args below meth c D cl_ ac a0 4 vb_i rF stF iT jT 29 (fun x : Option Nat × Int32 × Int32 × Int32 => [(0, (va_rf x.1)), (1, (.int x.2.1)), (3, (.int x.2.2.1))]) (fun x : Option Nat × Int32 × Int32 × Int32 => [(.int x.2.2.2)]) (fun x : Option Nat × Int32 × Int32 × Int32 => mm_waits_b29 gl rec4 x.1 x.2.1 x.2.2.1 x.2.2.2) := by
  intro x st H locs cells slots i j ls hw hl h hci hcj
  obtain ⟨p0, p1, p3, q0⟩ := x
  have h : mm_waits_b29 gl rec4 p0 p1 p3 q0 st = some (rF, stF, i, j) := h
  unfold mm_waits_b29 at h
  have hl : lh_ ls 4 [(0, (va_rf p0)), (1, (.int p1)), (3, (.int p3))] := hl
  refine W.eq (g2 := F0 m 29 ls [(.int q0)]) rfl ?_
  refine rr_istn (lv' := [(2, (.int q0)), (0, (va_rf p0)), (1, (.int p1)), (3, (.int p3))]) X dd_mm_waits_29 rfl hl (by decide) rfl (fun ls hl => ?_)
  refine rr_iinc (k := 3) (v := (p3 + (1 : Int32))) (lv' := [(3, (.int (p3 + (1 : Int32)))), (2, (.int q0)), (0, (va_rf p0)), (1, (.int p1))]) X dd_mm_waits_30 hl rfl (by rw [show Int32.ofInt (1) = (1 : Int32) from by decide]) (by decide) rfl (fun ls hl => ?_)
  refine lv_goto (tgt := 4) X.1 X.2.1 dd_mm_waits_33 (by decide) ?_
  exact hr4 (p0, p1, q0, (p3 + (1 : Int32))) _ _ _ _ _ _ _ _ hw (lh_pk hl [2, 3, 1, 0] rfl) h hci hcj
set_option maxHeartbeats 4000000 in
set_option maxRecDepth 100000 in
theorem kb_mm_waits_b4 {p : Program} {l : Launch} {e : Env} {s : State} {m : MethodId} {args : Array Value} {below : List Frame} {meth : Method} {c : Code} {D : va_G} {ac : Nat → ClassId} {a0 : Nat} {gl : gl_T} {rF : Int32} {stF : st_S} {iT jT : Nat}
    (X : cx_ p s m args c prog_12_method_17_code 4 "PromiseVatsModel" tb_ D cl_ (ty_ ac)) (hKs : kn_ D ac a0 gl s) (hlk : meth.locks = false) (hret : meth.sig.returnType = (Option.some FieldType.int)) (hnm : meth.name = "waits") : wk_ p l e 0 0 s m args below meth c D cl_ ac a0 4 vb_i rF stF iT jT 4 (fun x : Option Nat × Int32 × Int32 × Int32 => [(0, (va_rf x.1)), (1, (.int x.2.1)), (2, (.int x.2.2.1)), (3, (.int x.2.2.2))]) (fun x : Option Nat × Int32 × Int32 × Int32 => []) (st_it (fun rec4 => (fun x : Option Nat × Int32 × Int32 × Int32 => mm_waits_b4 gl rec4 x.1 x.2.1 x.2.2.1 x.2.2.2)) fu_) := by
  refine wk_it ?_ _
  intro rec4 hr4 x st H locs cells slots i j ls hw hl h hci hcj
  obtain ⟨p0, p1, p2, p3⟩ := x
  have h : mm_waits_b4 gl rec4 p0 p1 p2 p3 st = some (rF, stF, i, j) := h
  unfold mm_waits_b4 at h
  have hl : lh_ ls 4 [(0, (va_rf p0)), (1, (.int p1)), (2, (.int p2)), (3, (.int p3))] := hl
  refine W.eq (g2 := F0 m 4 ls []) rfl ?_
  refine lv_iload_n X.1 X.2.1 dd_mm_waits_4 rfl (lv_at hl.1 3 rfl) ?_
  refine rr_aldn X dd_mm_waits_5 rfl (lv_at hl.1 0 rfl) ?_
  obtain ⟨t1, ht1, h⟩ := st_g_some h
  refine rr_geti X hw ff_10_18 ht1 tw_474 (Or.inl rfl) dd_mm_waits_6 ?_
  by_cases hc9 : t1 ≤ p3
  · rw [if_pos hc9] at h
    refine lv_icmp_ge (tgt := 36) X.1 X.2.1 dd_mm_waits_9 (by decide) (fun _ => ?_) (fun z => absurd hc9 z)
    refine lv_iload_n X.1 X.2.1 dd_mm_waits_36 rfl (lv_at hl.1 2 rfl) ?_
    obtain ⟨rfl, rfl, rfl, rfl⟩ := st_r_some h
    exact rr_iret X hw hlk hret rfl hci hcj dd_mm_waits_37
  · rw [if_neg hc9] at h
    refine lv_icmp_ge (tgt := 36) X.1 X.2.1 dd_mm_waits_9 (by decide) (fun z => absurd z hc9) (fun _ => ?_)
    refine rr_aldn X dd_mm_waits_12 rfl (lv_at hl.1 0 rfl) ?_
    obtain ⟨t2, ht2, h⟩ := st_g_some h
    refine rr_getq X hw ff_10_19 ht2 tw_450 (Or.inl rfl) dd_mm_waits_13 ?_
    refine lv_iload_n X.1 X.2.1 dd_mm_waits_16 rfl (lv_at hl.1 3 rfl) ?_
    obtain ⟨t3, ht3, h⟩ := st_g_some h
    refine rr_iald (t := 0) X hw rfl ht3 dd_mm_waits_17 ?_
    refine lv_iload_n X.1 X.2.1 dd_mm_waits_18 rfl (lv_at hl.1 1 rfl) ?_
    by_cases hc19 : t3 = p1
    · rw [if_pos hc19] at h
      refine lv_icmp_ne (tgt := 28) X.1 X.2.1 dd_mm_waits_19 (by decide) (fun z => absurd hc19 z) (fun _ => ?_)
      refine lv_iload_n X.1 X.2.1 dd_mm_waits_22 rfl (lv_at hl.1 2 rfl) ?_
      refine lv_iconst (v := (1 : Int32)) X.1 X.2.1 dd_mm_waits_23 (by decide) ?_
      refine lv_iadd X.1 X.2.1 dd_mm_waits_24 ?_
      refine lv_goto (tgt := 29) X.1 X.2.1 dd_mm_waits_25 (by decide) ?_
      exact (kb_mm_waits_b29 X hKs hlk hret hnm hr4) (p0, p1, p3, (p2 + (1 : Int32))) _ _ _ _ _ _ _ _ hw (lh_pk hl [0, 1, 3] rfl) h hci hcj
    · rw [if_neg hc19] at h
      refine lv_icmp_ne (tgt := 28) X.1 X.2.1 dd_mm_waits_19 (by decide) (fun _ => ?_) (fun z => absurd z hc19)
      refine lv_iload_n X.1 X.2.1 dd_mm_waits_28 rfl (lv_at hl.1 2 rfl) ?_
      exact (kb_mm_waits_b29 X hKs hlk hret hnm hr4) (p0, p1, p3, p2) _ _ _ _ _ _ _ _ hw (lh_pk hl [0, 1, 3] rfl) h hci hcj
set_option maxHeartbeats 4000000 in
set_option maxRecDepth 100000 in
theorem kc_mm_waits (l : Launch) (D : va_G) (ac : Nat → ClassId) (a0 : Nat) (gl : gl_T) (v0 : Option Nat) (v1 : Int32) (st : st_S) (rF : Int32) (stF : st_S) (iT jT : Nat) (h : mm_waits gl v0 v1 st = some (rF, stF, iT, jT)) :
    ct_ l ⟨"PromiseVatsModel", "waits", "(I)I"⟩ (Cond.code ⟨"PromiseVatsModel", "waits", "(I)I"⟩ prog_12_method_17_code 4 (Option.some FieldType.int) :: tb_) 0 0 D cl_ ac a0 (kn_ D ac a0 gl) [(va_rf v0), (.int v1)] st (vb_i rF) stF iT jT := by
  refine ct_of (kn_ok D ac a0 gl) (plainFor_of_name (by decide +kernel)) (by simp [rf_cat, ic_cat]) (by simp) ?_
  intro p e s m args below meth c ls X hw hKs hlk hret hnm hl
  unfold mm_waits at h
  have hl : lh_ ls 4 [(0, (va_rf v0)), (1, (.int v1))] := hl
  obtain ⟨z0, hz0⟩ : ∃ z : Nat, 0 = z := ⟨0, rfl⟩
  obtain ⟨z1, hz1⟩ : ∃ z : Nat, 0 = z := ⟨0, rfl⟩
  refine W.cs hz0 hz1 ?_
  have hci : z0 + iT = iT := by omega
  have hcj : z1 + jT = jT := by omega
  refine lv_iconst (v := (0 : Int32)) X.1 X.2.1 dd_mm_waits_0 (by decide) ?_
  refine rr_istn (lv' := [(2, (.int (0 : Int32))), (0, (va_rf v0)), (1, (.int v1))]) X dd_mm_waits_1 rfl hl (by decide) rfl (fun ls hl => ?_)
  refine lv_iconst (v := (0 : Int32)) X.1 X.2.1 dd_mm_waits_2 (by decide) ?_
  refine rr_istn (lv' := [(3, (.int (0 : Int32))), (2, (.int (0 : Int32))), (0, (va_rf v0)), (1, (.int v1))]) X dd_mm_waits_3 rfl hl (by decide) rfl (fun ls hl => ?_)
  exact (kb_mm_waits_b4 X hKs hlk hret hnm) (v0, v1, (0 : Int32), (0 : Int32)) _ _ _ _ _ _ _ _ hw (lh_pk hl [2, 3, 1, 0] rfl) h hci hcj
/-! PromiseVatsModel.pack(III)V -/
theorem dd_mm_pack_0 : decode prog_12_method_8_code 0 = .ok (.iload_n 3, 1) := by decide +kernel
theorem dd_mm_pack_1 : decode prog_12_method_8_code 1 = .ok (.ifCond .ne 4, 3) := by decide +kernel
theorem dd_mm_pack_4 : decode prog_12_method_8_code 4 = .ok (.return_, 1) := by decide +kernel
theorem dd_mm_pack_5 : decode prog_12_method_8_code 5 = .ok (.aload_n 0, 1) := by decide +kernel
theorem dd_mm_pack_6 : decode prog_12_method_8_code 6 = .ok (.getfield 19, 3) := by decide +kernel
theorem dd_mm_pack_9 : decode prog_12_method_8_code 9 = .ok (.iload_n 3, 1) := by decide +kernel
theorem dd_mm_pack_10 : decode prog_12_method_8_code 10 = .ok (.baload, 1) := by decide +kernel
theorem dd_mm_pack_11 : decode prog_12_method_8_code 11 = .ok (.istore 4, 2) := by decide +kernel
theorem dd_mm_pack_13 : decode prog_12_method_8_code 13 = .ok (.iload 4, 2) := by decide +kernel
theorem dd_mm_pack_15 : decode prog_12_method_8_code 15 = .ok (.iload_n 1, 1) := by decide +kernel
theorem dd_mm_pack_16 : decode prog_12_method_8_code 16 = .ok (.if_icmp .ne 20, 3) := by decide +kernel
theorem dd_mm_pack_19 : decode prog_12_method_8_code 19 = .ok (.aload_n 0, 1) := by decide +kernel
theorem dd_mm_pack_20 : decode prog_12_method_8_code 20 = .ok (.getfield 45, 3) := by decide +kernel
theorem dd_mm_pack_23 : decode prog_12_method_8_code 23 = .ok (.iconst 4, 1) := by decide +kernel
theorem dd_mm_pack_24 : decode prog_12_method_8_code 24 = .ok (.iload_n 3, 1) := by decide +kernel
theorem dd_mm_pack_25 : decode prog_12_method_8_code 25 = .ok (.imul, 1) := by decide +kernel
theorem dd_mm_pack_26 : decode prog_12_method_8_code 26 = .ok (.iload_n 2, 1) := by decide +kernel
theorem dd_mm_pack_27 : decode prog_12_method_8_code 27 = .ok (.iadd, 1) := by decide +kernel
theorem dd_mm_pack_28 : decode prog_12_method_8_code 28 = .ok (.dup2, 1) := by decide +kernel
theorem dd_mm_pack_29 : decode prog_12_method_8_code 29 = .ok (.iaload, 1) := by decide +kernel
theorem dd_mm_pack_30 : decode prog_12_method_8_code 30 = .ok (.iconst 1, 1) := by decide +kernel
theorem dd_mm_pack_31 : decode prog_12_method_8_code 31 = .ok (.iadd, 1) := by decide +kernel
theorem dd_mm_pack_32 : decode prog_12_method_8_code 32 = .ok (.iastore, 1) := by decide +kernel
theorem dd_mm_pack_33 : decode prog_12_method_8_code 33 = .ok (.goto 24, 3) := by decide +kernel
theorem dd_mm_pack_36 : decode prog_12_method_8_code 36 = .ok (.iload 4, 2) := by decide +kernel
theorem dd_mm_pack_38 : decode prog_12_method_8_code 38 = .ok (.iload_n 2, 1) := by decide +kernel
theorem dd_mm_pack_39 : decode prog_12_method_8_code 39 = .ok (.if_icmp .eq 18, 3) := by decide +kernel
theorem dd_mm_pack_42 : decode prog_12_method_8_code 42 = .ok (.aload_n 0, 1) := by decide +kernel
theorem dd_mm_pack_43 : decode prog_12_method_8_code 43 = .ok (.iconst 4, 1) := by decide +kernel
theorem dd_mm_pack_44 : decode prog_12_method_8_code 44 = .ok (.iconst 4, 1) := by decide +kernel
theorem dd_mm_pack_45 : decode prog_12_method_8_code 45 = .ok (.iload_n 1, 1) := by decide +kernel
theorem dd_mm_pack_46 : decode prog_12_method_8_code 46 = .ok (.imul, 1) := by decide +kernel
theorem dd_mm_pack_47 : decode prog_12_method_8_code 47 = .ok (.iload 4, 2) := by decide +kernel
theorem dd_mm_pack_49 : decode prog_12_method_8_code 49 = .ok (.iadd, 1) := by decide +kernel
theorem dd_mm_pack_50 : decode prog_12_method_8_code 50 = .ok (.iload_n 3, 1) := by decide +kernel
theorem dd_mm_pack_51 : decode prog_12_method_8_code 51 = .ok (.iload_n 2, 1) := by decide +kernel
theorem dd_mm_pack_52 : decode prog_12_method_8_code 52 = .ok (.iconst 0, 1) := by decide +kernel
theorem dd_mm_pack_53 : decode prog_12_method_8_code 53 = .ok (.iconst 0, 1) := by decide +kernel
theorem dd_mm_pack_54 : decode prog_12_method_8_code 54 = .ok (.invokevirtual 111, 3) := by decide +kernel
theorem dd_mm_pack_57 : decode prog_12_method_8_code 57 = .ok (.return_, 1) := by decide +kernel
set_option maxHeartbeats 4000000 in
set_option maxRecDepth 100000 in
theorem kc_mm_pack (l : Launch) (D : va_G) (ac : Nat → ClassId) (a0 : Nat) (gl : gl_T) (v0 : Option Nat) (v1 : Int32) (v2 : Int32) (v3 : Int32) (st : st_S) (rF : Unit) (stF : st_S) (iT jT : Nat) (h : mm_pack gl v0 v1 v2 v3 st = some (rF, stF, iT, jT)) :
    ct_ l ⟨"PromiseVatsModel", "pack", "(III)V"⟩ (Cond.code ⟨"PromiseVatsModel", "pack", "(III)V"⟩ prog_12_method_8_code 5 (Option.none : Option FieldType) :: tb_) 1 26 D cl_ ac a0 (kn_ D ac a0 gl) [(va_rf v0), (.int v1), (.int v2), (.int v3)] st (vb_u rF) stF iT jT := by
  refine ct_of (kn_ok D ac a0 gl) (plainFor_of_name (by decide +kernel)) (by simp [rf_cat, ic_cat]) (by simp) ?_
  intro p e s m args below meth c ls X hw hKs hlk hret hnm hl
  unfold mm_pack at h
  have hl : lh_ ls 5 [(0, (va_rf v0)), (1, (.int v1)), (2, (.int v2)), (3, (.int v3))] := hl
  obtain ⟨z0, hz0⟩ : ∃ z : Nat, 0 = z := ⟨0, rfl⟩
  obtain ⟨z1, hz1⟩ : ∃ z : Nat, 0 = z := ⟨0, rfl⟩
  refine W.cs hz0 hz1 ?_
  have hci : z0 + iT = iT := by omega
  have hcj : z1 + jT = jT := by omega
  refine lv_iload_n X.1 X.2.1 dd_mm_pack_0 rfl (lv_at hl.1 3 rfl) ?_
  by_cases hc1 : v3 = 0
  · rw [if_pos hc1] at h
    refine lv_if_ne (tgt := 5) X.1 X.2.1 dd_mm_pack_1 (by decide) (fun z => absurd hc1 z) (fun _ => ?_)
    obtain ⟨rfl, rfl, rfl, rfl⟩ := st_r_some h
    exact rr_vret X hw hlk hret hci hcj dd_mm_pack_4
  · rw [if_neg hc1] at h
    refine lv_if_ne (tgt := 5) X.1 X.2.1 dd_mm_pack_1 (by decide) (fun _ => ?_) (fun z => absurd z hc1)
    refine rr_aldn X dd_mm_pack_5 rfl (lv_at hl.1 0 rfl) ?_
    obtain ⟨t1, ht1, h⟩ := st_g_some h
    refine rr_getq X hw ff_10_6 ht1 tw_461 (Or.inl rfl) dd_mm_pack_6 ?_
    refine lv_iload_n X.1 X.2.1 dd_mm_pack_9 rfl (lv_at hl.1 3 rfl) ?_
    obtain ⟨t2, ht2, h⟩ := st_g_some h
    refine rr_bald (t := 1) X hw rfl ht2 dd_mm_pack_10 ?_
    refine rr_ist (lv' := [(4, (.int t2)), (0, (va_rf v0)), (1, (.int v1)), (2, (.int v2)), (3, (.int v3))]) X dd_mm_pack_11 hl (by decide) rfl (fun ls hl => ?_)
    refine lv_iload X.1 X.2.1 dd_mm_pack_13 (lv_at hl.1 0 rfl) ?_
    refine lv_iload_n X.1 X.2.1 dd_mm_pack_15 rfl (lv_at hl.1 2 rfl) ?_
    by_cases hc16 : t2 = v1
    · rw [if_pos hc16] at h
      refine lv_icmp_ne (tgt := 36) X.1 X.2.1 dd_mm_pack_16 (by decide) (fun z => absurd hc16 z) (fun _ => ?_)
      refine rr_aldn X dd_mm_pack_19 rfl (lv_at hl.1 1 rfl) ?_
      obtain ⟨t3, ht3, h⟩ := st_g_some h
      refine rr_getq X hw ff_10_15 ht3 tw_453 (Or.inl rfl) dd_mm_pack_20 ?_
      refine lv_iconst (v := (4 : Int32)) X.1 X.2.1 dd_mm_pack_23 (by decide) ?_
      refine lv_iload_n X.1 X.2.1 dd_mm_pack_24 rfl (lv_at hl.1 4 rfl) ?_
      refine lv_imul X.1 X.2.1 dd_mm_pack_25 ?_
      refine lv_iload_n X.1 X.2.1 dd_mm_pack_26 rfl (lv_at hl.1 3 rfl) ?_
      refine lv_iadd X.1 X.2.1 dd_mm_pack_27 ?_
      refine lv_dup2_11 X.1 X.2.1 dd_mm_pack_28 rfl (rf_cat _) ?_
      obtain ⟨t4, ht4, h⟩ := st_g_some h
      refine rr_iald (t := 0) X hw rfl ht4 dd_mm_pack_29 ?_
      refine lv_iconst (v := (1 : Int32)) X.1 X.2.1 dd_mm_pack_30 (by decide) ?_
      refine lv_iadd X.1 X.2.1 dd_mm_pack_31 ?_
      obtain ⟨t5, hp32, h⟩ := st_w_some h
      refine rr_iast (t := 0) X hw rfl hp32 dd_mm_pack_32 (fun H locs hw => ?_)
      refine lv_goto (tgt := 57) X.1 X.2.1 dd_mm_pack_33 (by decide) ?_
      obtain ⟨rfl, rfl, rfl, rfl⟩ := st_r_some h
      exact rr_vret X hw hlk hret hci hcj dd_mm_pack_57
    · rw [if_neg hc16] at h
      refine lv_icmp_ne (tgt := 36) X.1 X.2.1 dd_mm_pack_16 (by decide) (fun _ => ?_) (fun z => absurd z hc16)
      refine lv_iload X.1 X.2.1 dd_mm_pack_36 (lv_at hl.1 0 rfl) ?_
      refine lv_iload_n X.1 X.2.1 dd_mm_pack_38 rfl (lv_at hl.1 3 rfl) ?_
      by_cases hc39 : t2 = v2
      · rw [if_pos hc39] at h
        refine lv_icmp_eq (tgt := 57) X.1 X.2.1 dd_mm_pack_39 (by decide) (fun _ => ?_) (fun z => absurd hc39 z)
        obtain ⟨rfl, rfl, rfl, rfl⟩ := st_r_some h
        exact rr_vret X hw hlk hret hci hcj dd_mm_pack_57
      · rw [if_neg hc39] at h
        refine lv_icmp_eq (tgt := 57) X.1 X.2.1 dd_mm_pack_39 (by decide) (fun z => absurd z hc39) (fun _ => ?_)
        refine rr_aldn X dd_mm_pack_42 rfl (lv_at hl.1 1 rfl) ?_
        refine lv_iconst (v := (4 : Int32)) X.1 X.2.1 dd_mm_pack_43 (by decide) ?_
        refine lv_iconst (v := (4 : Int32)) X.1 X.2.1 dd_mm_pack_44 (by decide) ?_
        refine lv_iload_n X.1 X.2.1 dd_mm_pack_45 rfl (lv_at hl.1 2 rfl) ?_
        refine lv_imul X.1 X.2.1 dd_mm_pack_46 ?_
        refine lv_iload X.1 X.2.1 dd_mm_pack_47 (lv_at hl.1 0 rfl) ?_
        refine lv_iadd X.1 X.2.1 dd_mm_pack_49 ?_
        refine lv_iload_n X.1 X.2.1 dd_mm_pack_50 rfl (lv_at hl.1 4 rfl) ?_
        refine lv_iload_n X.1 X.2.1 dd_mm_pack_51 rfl (lv_at hl.1 3 rfl) ?_
        refine lv_iconst (v := (0 : Int32)) X.1 X.2.1 dd_mm_pack_52 (by decide) ?_
        refine lv_iconst (v := (0 : Int32)) X.1 X.2.1 dd_mm_pack_53 (by decide) ?_
        obtain ⟨t14, ht14, h⟩ := st_g_some h
        obtain ⟨t6, t7, t8, t9, t10, t11, ht6, h, ei, ej⟩ := st_b_some h
        refine rr_callV (n := 6) (As := [(.int (4 : Int32)), (.int (((4 : Int32) * v1) + t2)), (.int v3), (.int v2), (.int (0 : Int32)), (.int (0 : Int32))]) (rest := []) X hw (kn_ok D ac a0 gl) hKs (kc_mm_post l D ac a0 gl v0 (4 : Int32) (((4 : Int32) * v1) + t2) v3 v2 (0 : Int32) (0 : Int32) _ _ _ _ _ ht6) tb_good tw_470 tw_469 tw_471 tw_472 se_43 ht14 (by decide +kernel) rfl (show 0 + 1 ≤ _ ∧ 8 + (7 + 11) + 0 ≤ _ from ⟨Nat.le_of_ble_eq_true rfl, Nat.le_of_ble_eq_true rfl⟩) (show z0 + t8 ≤ iT ∧ z1 + t9 ≤ jT from ⟨ar_1 hci ei, ar_1 hcj ej⟩) hl.1.1 (by simp [rf_cat, ic_cat]) rfl dd_mm_pack_54 (sk := []) rfl (fun H locs hw => ?_)
        have hci : z0 + t8 + t10 = iT := ar_2 hci ei
        have hcj : z1 + t9 + t11 = jT := ar_2 hcj ej
        clear ei ej
        generalize z0 + t8 = t12 at hci ⊢
        generalize z1 + t9 = t13 at hcj ⊢
        obtain ⟨rfl, rfl, rfl, rfl⟩ := st_r_some h
        exact rr_vret X hw hlk hret hci hcj dd_mm_pack_57
