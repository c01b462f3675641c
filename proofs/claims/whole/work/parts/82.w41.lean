/-! PromiseVatsModel.output(II)I -/
theorem dd_mm_output_0 : decode prog_12_method_42_code 0 = .ok (.aload_n 0, 1) := by decide +kernel
theorem dd_mm_output_1 : decode prog_12_method_42_code 1 = .ok (.iload_n 1, 1) := by decide +kernel
theorem dd_mm_output_2 : decode prog_12_method_42_code 2 = .ok (.invokevirtual 115, 3) := by decide +kernel
theorem dd_mm_output_5 : decode prog_12_method_42_code 5 = .ok (.ifCond .eq 23, 3) := by decide +kernel
theorem dd_mm_output_8 : decode prog_12_method_42_code 8 = .ok (.iload_n 2, 1) := by decide +kernel
theorem dd_mm_output_9 : decode prog_12_method_42_code 9 = .ok (.ifCond .lt 19, 3) := by decide +kernel
theorem dd_mm_output_12 : decode prog_12_method_42_code 12 = .ok (.iload_n 2, 1) := by decide +kernel
theorem dd_mm_output_13 : decode prog_12_method_42_code 13 = .ok (.bipush 9, 2) := by decide +kernel
theorem dd_mm_output_15 : decode prog_12_method_42_code 15 = .ok (.if_icmp .gt 13, 3) := by decide +kernel
theorem dd_mm_output_18 : decode prog_12_method_42_code 18 = .ok (.iload_n 2, 1) := by decide +kernel
theorem dd_mm_output_19 : decode prog_12_method_42_code 19 = .ok (.aload_n 0, 1) := by decide +kernel
theorem dd_mm_output_20 : decode prog_12_method_42_code 20 = .ok (.getfield 88, 3) := by decide +kernel
theorem dd_mm_output_23 : decode prog_12_method_42_code 23 = .ok (.iload_n 1, 1) := by decide +kernel
theorem dd_mm_output_24 : decode prog_12_method_42_code 24 = .ok (.iaload, 1) := by decide +kernel
theorem dd_mm_output_25 : decode prog_12_method_42_code 25 = .ok (.if_icmp .lt 5, 3) := by decide +kernel
theorem dd_mm_output_28 : decode prog_12_method_42_code 28 = .ok (.iconst 0, 1) := by decide +kernel
theorem dd_mm_output_29 : decode prog_12_method_42_code 29 = .ok (.ireturn, 1) := by decide +kernel
theorem dd_mm_output_30 : decode prog_12_method_42_code 30 = .ok (.aload_n 0, 1) := by decide +kernel
theorem dd_mm_output_31 : decode prog_12_method_42_code 31 = .ok (.getfield 91, 3) := by decide +kernel
theorem dd_mm_output_34 : decode prog_12_method_42_code 34 = .ok (.bipush 10, 2) := by decide +kernel
theorem dd_mm_output_36 : decode prog_12_method_42_code 36 = .ok (.iload_n 1, 1) := by decide +kernel
theorem dd_mm_output_37 : decode prog_12_method_42_code 37 = .ok (.imul, 1) := by decide +kernel
theorem dd_mm_output_38 : decode prog_12_method_42_code 38 = .ok (.aload_n 0, 1) := by decide +kernel
theorem dd_mm_output_39 : decode prog_12_method_42_code 39 = .ok (.getfield 88, 3) := by decide +kernel
theorem dd_mm_output_42 : decode prog_12_method_42_code 42 = .ok (.iload_n 1, 1) := by decide +kernel
theorem dd_mm_output_43 : decode prog_12_method_42_code 43 = .ok (.iaload, 1) := by decide +kernel
theorem dd_mm_output_44 : decode prog_12_method_42_code 44 = .ok (.iconst 1, 1) := by decide +kernel
theorem dd_mm_output_45 : decode prog_12_method_42_code 45 = .ok (.isub, 1) := by decide +kernel
theorem dd_mm_output_46 : decode prog_12_method_42_code 46 = .ok (.iload_n 2, 1) := by decide +kernel
theorem dd_mm_output_47 : decode prog_12_method_42_code 47 = .ok (.isub, 1) := by decide +kernel
theorem dd_mm_output_48 : decode prog_12_method_42_code 48 = .ok (.bipush 10, 2) := by decide +kernel
theorem dd_mm_output_50 : decode prog_12_method_42_code 50 = .ok (.irem, 1) := by decide +kernel
theorem dd_mm_output_51 : decode prog_12_method_42_code 51 = .ok (.iadd, 1) := by decide +kernel
theorem dd_mm_output_52 : decode prog_12_method_42_code 52 = .ok (.iaload, 1) := by decide +kernel
theorem dd_mm_output_53 : decode prog_12_method_42_code 53 = .ok (.ireturn, 1) := by decide +kernel
set_option maxHeartbeats 4000000 in
set_option maxRecDepth 100000 in
theorem kb_mm_output_b28 {p : Program} {l : Launch} {e : Env} {s : State} {m : MethodId} {args : Array Value} {below : List Frame} {meth : Method} {c : Code} {D : va_G} {ac : Nat → ClassId} {a0 : Nat} {gl : gl_T} {rF : Int32} {stF : st_S} {iT jT : Nat}
    (X : cx_ p s m args c prog_12_method_42_code 3 "PromiseVatsModel" tb_ D cl_ (ty_ ac)) (hKs : kn_ D ac a0 gl s) (hlk : meth.locks = false) (hret : meth.sig.returnType = (Option.some FieldType.int)) (hnm : meth.name = "output") : wk_ p l e 1 21 s m args below meth c D cl_ ac a0 3 vb_i rF stF iT jT 28 (fun x : Unit => []) (fun x : Unit => []) (fun _ : Unit => mm_output_b28 gl) := by
  intro x st H locs cells slots i j ls hw hl h hci hcj
  have h : mm_output_b28 gl  st = some (rF, stF, i, j) := h
  unfold mm_output_b28 at h
  have hl : lh_ ls 3 [] := hl
  refine W.eq (g2 := F0 m 28 ls []) rfl ?_
  refine lv_iconst (v := (0 : Int32)) X.1 X.2.1 dd_mm_output_28 (by decide) ?_
  obtain ⟨rfl, rfl, rfl, rfl⟩ := st_r_some h
  exact rr_iret X hw hlk hret rfl hci hcj dd_mm_output_29
set_option maxHeartbeats 4000000 in
set_option maxRecDepth 100000 in
theorem kc_mm_output (l : Launch) (D : va_G) (ac : Nat → ClassId) (a0 : Nat) (gl : gl_T) (v0 : Option Nat) (v1 : Int32) (v2 : Int32) (st : st_S) (rF : Int32) (stF : st_S) (iT jT : Nat) (h : mm_output gl v0 v1 v2 st = some (rF, stF, iT, jT)) :
    ct_ l ⟨"PromiseVatsModel", "output", "(II)I"⟩ (Cond.code ⟨"PromiseVatsModel", "output", "(II)I"⟩ prog_12_method_42_code 3 (Option.some FieldType.int) :: tb_) 1 21 D cl_ ac a0 (kn_ D ac a0 gl) [(va_rf v0), (.int v1), (.int v2)] st (vb_i rF) stF iT jT := by
  refine ct_of (kn_ok D ac a0 gl) (plainFor_of_name (by decide +kernel)) (by simp [rf_cat, ic_cat]) (by simp) ?_
  intro p e s m args below meth c ls X hw hKs hlk hret hnm hl
  unfold mm_output at h
  have hl : lh_ ls 3 [(0, (va_rf v0)), (1, (.int v1)), (2, (.int v2))] := hl
  obtain ⟨z0, hz0⟩ : ∃ z : Nat, 0 = z := ⟨0, rfl⟩
  obtain ⟨z1, hz1⟩ : ∃ z : Nat, 0 = z := ⟨0, rfl⟩
  refine W.cs hz0 hz1 ?_
  have hci : z0 + iT = iT := by omega
  have hcj : z1 + jT = jT := by omega
  refine rr_aldn X dd_mm_output_0 rfl (lv_at hl.1 0 rfl) ?_
  refine lv_iload_n X.1 X.2.1 dd_mm_output_1 rfl (lv_at hl.1 1 rfl) ?_
  obtain ⟨t15, ht15, h⟩ := st_g_some h
  obtain ⟨t1, t2, t3, t4, t5, t6, ht1, h, ei, ej⟩ := st_b_some h
  refine rr_callV (n := 1) (As := [(.int v1)]) (rest := []) X hw (kn_ok D ac a0 gl) hKs (kc_mm_vat l D ac a0 gl v0 v1 _ _ _ _ _ ht1) tb_good tw_516 tw_469 tw_517 tw_518 se_54 ht15 (by decide +kernel) rfl (show 0 + 1 ≤ _ ∧ 8 + (2 + 11) + 0 ≤ _ from ⟨Nat.le_of_ble_eq_true rfl, Nat.le_of_ble_eq_true rfl⟩) (show z0 + t3 ≤ iT ∧ z1 + t4 ≤ jT from ⟨ar_1 hci ei, ar_1 hcj ej⟩) hl.1.1 (by simp [rf_cat, ic_cat]) rfl dd_mm_output_2 (sk := [(.int t1)]) rfl (fun H locs hw => ?_)
  have hci : z0 + t3 + t5 = iT := ar_2 hci ei
  have hcj : z1 + t4 + t6 = jT := ar_2 hcj ej
  clear ei ej
  generalize z0 + t3 = t7 at hci ⊢
  generalize z1 + t4 = t8 at hcj ⊢
  by_cases hc5 : t1 = 0
  · rw [if_pos hc5] at h
    refine lv_if_eq (tgt := 28) X.1 X.2.1 dd_mm_output_5 (by decide) (fun _ => ?_) (fun z => absurd hc5 z)
    exact (kb_mm_output_b28 X hKs hlk hret hnm) () _ _ _ _ _ _ _ _ hw (lh_pk hl [] rfl) h hci hcj
  · rw [if_neg hc5] at h
    refine lv_if_eq (tgt := 28) X.1 X.2.1 dd_mm_output_5 (by decide) (fun z => absurd z hc5) (fun _ => ?_)
    refine lv_iload_n X.1 X.2.1 dd_mm_output_8 rfl (lv_at hl.1 2 rfl) ?_
    by_cases hc9 : v2 < 0
    · rw [if_pos hc9] at h
      refine lv_if_lt (tgt := 28) X.1 X.2.1 dd_mm_output_9 (by decide) (fun _ => ?_) (fun z => absurd hc9 z)
      exact (kb_mm_output_b28 X hKs hlk hret hnm) () _ _ _ _ _ _ _ _ hw (lh_pk hl [] rfl) h hci hcj
    · rw [if_neg hc9] at h
      refine lv_if_lt (tgt := 28) X.1 X.2.1 dd_mm_output_9 (by decide) (fun z => absurd z hc9) (fun _ => ?_)
      refine lv_iload_n X.1 X.2.1 dd_mm_output_12 rfl (lv_at hl.1 2 rfl) ?_
      refine lv_bipush (v := (9 : Int32)) X.1 X.2.1 dd_mm_output_13 (by decide) ?_
      by_cases hc15 : (9 : Int32) < v2
      · rw [if_pos hc15] at h
        refine lv_icmp_gt (tgt := 28) X.1 X.2.1 dd_mm_output_15 (by decide) (fun _ => ?_) (fun z => absurd hc15 z)
        exact (kb_mm_output_b28 X hKs hlk hret hnm) () _ _ _ _ _ _ _ _ hw (lh_pk hl [] rfl) h hci hcj
      · rw [if_neg hc15] at h
        refine lv_icmp_gt (tgt := 28) X.1 X.2.1 dd_mm_output_15 (by decide) (fun z => absurd z hc15) (fun _ => ?_)
        refine lv_iload_n X.1 X.2.1 dd_mm_output_18 rfl (lv_at hl.1 2 rfl) ?_
        refine rr_aldn X dd_mm_output_19 rfl (lv_at hl.1 0 rfl) ?_
        obtain ⟨t9, ht9, h⟩ := st_g_some h
        refine rr_getq X hw ff_10_32 ht9 tw_439 (Or.inl rfl) dd_mm_output_20 ?_
        refine lv_iload_n X.1 X.2.1 dd_mm_output_23 rfl (lv_at hl.1 1 rfl) ?_
        obtain ⟨t10, ht10, h⟩ := st_g_some h
        refine rr_iald (t := 0) X hw rfl ht10 dd_mm_output_24 ?_
        by_cases hc25 : v2 < t10
        · rw [if_pos hc25] at h
          refine lv_icmp_lt (tgt := 30) X.1 X.2.1 dd_mm_output_25 (by decide) (fun _ => ?_) (fun z => absurd hc25 z)
          refine rr_aldn X dd_mm_output_30 rfl (lv_at hl.1 0 rfl) ?_
          obtain ⟨t11, ht11, h⟩ := st_g_some h
          refine rr_getq X hw ff_10_33 ht11 tw_438 (Or.inl rfl) dd_mm_output_31 ?_
          refine lv_bipush (v := (10 : Int32)) X.1 X.2.1 dd_mm_output_34 (by decide) ?_
          refine lv_iload_n X.1 X.2.1 dd_mm_output_36 rfl (lv_at hl.1 1 rfl) ?_
          refine lv_imul X.1 X.2.1 dd_mm_output_37 ?_
          refine rr_aldn X dd_mm_output_38 rfl (lv_at hl.1 0 rfl) ?_
          obtain ⟨t12, ht12, h⟩ := st_g_some h
          refine rr_getq X hw ff_10_32 ht12 tw_439 (Or.inl rfl) dd_mm_output_39 ?_
          refine lv_iload_n X.1 X.2.1 dd_mm_output_42 rfl (lv_at hl.1 1 rfl) ?_
          obtain ⟨t13, ht13, h⟩ := st_g_some h
          refine rr_iald (t := 0) X hw rfl ht13 dd_mm_output_43 ?_
          refine lv_iconst (v := (1 : Int32)) X.1 X.2.1 dd_mm_output_44 (by decide) ?_
          refine lv_isub X.1 X.2.1 dd_mm_output_45 ?_
          refine lv_iload_n X.1 X.2.1 dd_mm_output_46 rfl (lv_at hl.1 2 rfl) ?_
          refine lv_isub X.1 X.2.1 dd_mm_output_47 ?_
          refine lv_bipush (v := (10 : Int32)) X.1 X.2.1 dd_mm_output_48 (by decide) ?_
          refine lv_irem X.1 X.2.1 dd_mm_output_50 (by decide) ?_
          refine lv_iadd X.1 X.2.1 dd_mm_output_51 ?_
          obtain ⟨t14, ht14, h⟩ := st_g_some h
          refine rr_iald (t := 0) X hw rfl ht14 dd_mm_output_52 ?_
          obtain ⟨rfl, rfl, rfl, rfl⟩ := st_r_some h
          exact rr_iret X hw hlk hret rfl hci hcj dd_mm_output_53
        · rw [if_neg hc25] at h
          refine lv_icmp_lt (tgt := 30) X.1 X.2.1 dd_mm_output_25 (by decide) (fun z => absurd z hc25) (fun _ => ?_)
          exact (kb_mm_output_b28 X hKs hlk hret hnm) () _ _ _ _ _ _ _ _ hw (lh_pk hl [] rfl) h hci hcj
