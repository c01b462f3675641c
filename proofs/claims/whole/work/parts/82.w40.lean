/-! PromiseVatsModel.imported(II)I -/
theorem dd_mm_imported_0 : decode prog_12_method_36_code 0 = .ok (.aload_n 0, 1) := by decide +kernel
theorem dd_mm_imported_1 : decode prog_12_method_36_code 1 = .ok (.iload_n 1, 1) := by decide +kernel
theorem dd_mm_imported_2 : decode prog_12_method_36_code 2 = .ok (.invokevirtual 115, 3) := by decide +kernel
theorem dd_mm_imported_5 : decode prog_12_method_36_code 5 = .ok (.ifCond .eq 24, 3) := by decide +kernel
theorem dd_mm_imported_8 : decode prog_12_method_36_code 8 = .ok (.aload_n 0, 1) := by decide +kernel
theorem dd_mm_imported_9 : decode prog_12_method_36_code 9 = .ok (.iload_n 2, 1) := by decide +kernel
theorem dd_mm_imported_10 : decode prog_12_method_36_code 10 = .ok (.invokevirtual 104, 3) := by decide +kernel
theorem dd_mm_imported_13 : decode prog_12_method_36_code 13 = .ok (.ifCond .eq 16, 3) := by decide +kernel
theorem dd_mm_imported_16 : decode prog_12_method_36_code 16 = .ok (.aload_n 0, 1) := by decide +kernel
theorem dd_mm_imported_17 : decode prog_12_method_36_code 17 = .ok (.getfield 48, 3) := by decide +kernel
theorem dd_mm_imported_20 : decode prog_12_method_36_code 20 = .ok (.iconst 4, 1) := by decide +kernel
theorem dd_mm_imported_21 : decode prog_12_method_36_code 21 = .ok (.iload_n 2, 1) := by decide +kernel
theorem dd_mm_imported_22 : decode prog_12_method_36_code 22 = .ok (.imul, 1) := by decide +kernel
theorem dd_mm_imported_23 : decode prog_12_method_36_code 23 = .ok (.iload_n 1, 1) := by decide +kernel
theorem dd_mm_imported_24 : decode prog_12_method_36_code 24 = .ok (.iadd, 1) := by decide +kernel
theorem dd_mm_imported_25 : decode prog_12_method_36_code 25 = .ok (.iaload, 1) := by decide +kernel
theorem dd_mm_imported_26 : decode prog_12_method_36_code 26 = .ok (.goto 4, 3) := by decide +kernel
theorem dd_mm_imported_29 : decode prog_12_method_36_code 29 = .ok (.iconst 0, 1) := by decide +kernel
theorem dd_mm_imported_30 : decode prog_12_method_36_code 30 = .ok (.ireturn, 1) := by decide +kernel
set_option maxHeartbeats 4000000 in
set_option maxRecDepth 100000 in
theorem kb_mm_imported_b29 {p : Program} {l : Launch} {e : Env} {s : State} {m : MethodId} {args : Array Value} {below : List Frame} {meth : Method} {c : Code} {D : va_G} {ac : Nat → ClassId} {a0 : Nat} {gl : gl_T} {rF : Int32} {stF : st_S} {iT jT : Nat}
    (X : cx_ p s m args c prog_12_method_36_code 3 "PromiseVatsModel" tb_ D cl_ (ty_ ac)) (hKs : kn_ D ac a0 gl s) (hlk : meth.locks = false) (hret : meth.sig.returnType = (Option.some FieldType.int)) (hnm : meth.name = "imported") : wk_ p l e 1 21 s m args below meth c D cl_ ac a0 3 vb_i rF stF iT jT 29 (fun x : Unit => []) (fun x : Unit => []) (fun _ : Unit => mm_imported_b29 gl) := by
  intro x st H locs cells slots i j ls hw hl h hci hcj
  have h : mm_imported_b29 gl  st = some (rF, stF, i, j) := h
  unfold mm_imported_b29 at h
  have hl : lh_ ls 3 [] := hl
  refine W.eq (g2 := F0 m 29 ls []) rfl ?_
  refine lv_iconst (v := (0 : Int32)) X.1 X.2.1 dd_mm_imported_29 (by decide) ?_
  obtain ⟨rfl, rfl, rfl, rfl⟩ := st_r_some h
  exact rr_iret X hw hlk hret rfl hci hcj dd_mm_imported_30
set_option maxHeartbeats 4000000 in
set_option maxRecDepth 100000 in
theorem kc_mm_imported (l : Launch) (D : va_G) (ac : Nat → ClassId) (a0 : Nat) (gl : gl_T) (v0 : Option Nat) (v1 : Int32) (v2 : Int32) (st : st_S) (rF : Int32) (stF : st_S) (iT jT : Nat) (h : mm_imported gl v0 v1 v2 st = some (rF, stF, iT, jT)) :
    ct_ l ⟨"PromiseVatsModel", "imported", "(II)I"⟩ (Cond.code ⟨"PromiseVatsModel", "imported", "(II)I"⟩ prog_12_method_36_code 3 (Option.some FieldType.int) :: tb_) 1 21 D cl_ ac a0 (kn_ D ac a0 gl) [(va_rf v0), (.int v1), (.int v2)] st (vb_i rF) stF iT jT := by
  refine ct_of (kn_ok D ac a0 gl) (plainFor_of_name (by decide +kernel)) (by simp [rf_cat, ic_cat]) (by simp) ?_
  intro p e s m args below meth c ls X hw hKs hlk hret hnm hl
  unfold mm_imported at h
  have hl : lh_ ls 3 [(0, (va_rf v0)), (1, (.int v1)), (2, (.int v2))] := hl
  obtain ⟨z0, hz0⟩ : ∃ z : Nat, 0 = z := ⟨0, rfl⟩
  obtain ⟨z1, hz1⟩ : ∃ z : Nat, 0 = z := ⟨0, rfl⟩
  refine W.cs hz0 hz1 ?_
  have hci : z0 + iT = iT := by omega
  have hcj : z1 + jT = jT := by omega
  refine rr_aldn X dd_mm_imported_0 rfl (lv_at hl.1 0 rfl) ?_
  refine lv_iload_n X.1 X.2.1 dd_mm_imported_1 rfl (lv_at hl.1 1 rfl) ?_
  obtain ⟨t20, ht20, h⟩ := st_g_some h
  obtain ⟨t1, t2, t3, t4, t5, t6, ht1, h, ei, ej⟩ := st_b_some h
  refine rr_callV (n := 1) (As := [(.int v1)]) (rest := []) X hw (kn_ok D ac a0 gl) hKs (kc_mm_vat l D ac a0 gl v0 v1 _ _ _ _ _ ht1) tb_good tw_516 tw_469 tw_517 tw_518 se_54 ht20 (by decide +kernel) rfl (show 0 + 1 ≤ _ ∧ 8 + (2 + 11) + 0 ≤ _ from ⟨Nat.le_of_ble_eq_true rfl, Nat.le_of_ble_eq_true rfl⟩) (show z0 + t3 ≤ iT ∧ z1 + t4 ≤ jT from ⟨ar_1 hci ei, ar_1 hcj ej⟩) hl.1.1 (by simp [rf_cat, ic_cat]) rfl dd_mm_imported_2 (sk := [(.int t1)]) rfl (fun H locs hw => ?_)
  have hci : z0 + t3 + t5 = iT := ar_2 hci ei
  have hcj : z1 + t4 + t6 = jT := ar_2 hcj ej
  clear ei ej
  generalize z0 + t3 = t7 at hci ⊢
  generalize z1 + t4 = t8 at hcj ⊢
  by_cases hc5 : t1 = 0
  · rw [if_pos hc5] at h
    refine lv_if_eq (tgt := 29) X.1 X.2.1 dd_mm_imported_5 (by decide) (fun _ => ?_) (fun z => absurd hc5 z)
    exact (kb_mm_imported_b29 X hKs hlk hret hnm) () _ _ _ _ _ _ _ _ hw (lh_pk hl [] rfl) h hci hcj
  · rw [if_neg hc5] at h
    refine lv_if_eq (tgt := 29) X.1 X.2.1 dd_mm_imported_5 (by decide) (fun z => absurd z hc5) (fun _ => ?_)
    refine rr_aldn X dd_mm_imported_8 rfl (lv_at hl.1 0 rfl) ?_
    refine lv_iload_n X.1 X.2.1 dd_mm_imported_9 rfl (lv_at hl.1 2 rfl) ?_
    obtain ⟨t19, ht19, h⟩ := st_g_some h
    obtain ⟨t9, t10, t11, t12, t13, t14, ht9, h, ei, ej⟩ := st_b_some h
    refine rr_callV (n := 1) (As := [(.int v2)]) (rest := []) X hw (kn_ok D ac a0 gl) hKs (kc_mm_made l D ac a0 gl v0 v2 _ _ _ _ _ ht9) tb_good tw_551 tw_469 tw_552 tw_553 se_62 ht19 (by decide +kernel) rfl (show 0 + 1 ≤ _ ∧ 8 + (2 + 11) + 0 ≤ _ from ⟨Nat.le_of_ble_eq_true rfl, Nat.le_of_ble_eq_true rfl⟩) (show t7 + t11 ≤ iT ∧ t8 + t12 ≤ jT from ⟨ar_1 hci ei, ar_1 hcj ej⟩) hl.1.1 (by simp [rf_cat, ic_cat]) rfl dd_mm_imported_10 (sk := [(.int t9)]) rfl (fun H locs hw => ?_)
    have hci : t7 + t11 + t13 = iT := ar_2 hci ei
    have hcj : t8 + t12 + t14 = jT := ar_2 hcj ej
    clear ei ej
    generalize t7 + t11 = t15 at hci ⊢
    generalize t8 + t12 = t16 at hcj ⊢
    by_cases hc13 : t9 = 0
    · rw [if_pos hc13] at h
      refine lv_if_eq (tgt := 29) X.1 X.2.1 dd_mm_imported_13 (by decide) (fun _ => ?_) (fun z => absurd hc13 z)
      exact (kb_mm_imported_b29 X hKs hlk hret hnm) () _ _ _ _ _ _ _ _ hw (lh_pk hl [] rfl) h hci hcj
    · rw [if_neg hc13] at h
      refine lv_if_eq (tgt := 29) X.1 X.2.1 dd_mm_imported_13 (by decide) (fun z => absurd z hc13) (fun _ => ?_)
      refine rr_aldn X dd_mm_imported_16 rfl (lv_at hl.1 0 rfl) ?_
      obtain ⟨t17, ht17, h⟩ := st_g_some h
      refine rr_getq X hw ff_10_16 ht17 tw_452 (Or.inl rfl) dd_mm_imported_17 ?_
      refine lv_iconst (v := (4 : Int32)) X.1 X.2.1 dd_mm_imported_20 (by decide) ?_
      refine lv_iload_n X.1 X.2.1 dd_mm_imported_21 rfl (lv_at hl.1 2 rfl) ?_
      refine lv_imul X.1 X.2.1 dd_mm_imported_22 ?_
      refine lv_iload_n X.1 X.2.1 dd_mm_imported_23 rfl (lv_at hl.1 1 rfl) ?_
      refine lv_iadd X.1 X.2.1 dd_mm_imported_24 ?_
      obtain ⟨t18, ht18, h⟩ := st_g_some h
      refine rr_iald (t := 0) X hw rfl ht18 dd_mm_imported_25 ?_
      refine lv_goto (tgt := 30) X.1 X.2.1 dd_mm_imported_26 (by decide) ?_
      obtain ⟨rfl, rfl, rfl, rfl⟩ := st_r_some h
      exact rr_iret X hw hlk hret rfl hci hcj dd_mm_imported_30
/-! PromiseVatsModel.exported(II)I -/
theorem dd_mm_exported_0 : decode prog_12_method_37_code 0 = .ok (.aload_n 0, 1) := by decide +kernel
theorem dd_mm_exported_1 : decode prog_12_method_37_code 1 = .ok (.iload_n 1, 1) := by decide +kernel
theorem dd_mm_exported_2 : decode prog_12_method_37_code 2 = .ok (.invokevirtual 193, 3) := by decide +kernel
theorem dd_mm_exported_5 : decode prog_12_method_37_code 5 = .ok (.ifCond .eq 34, 3) := by decide +kernel
theorem dd_mm_exported_8 : decode prog_12_method_37_code 8 = .ok (.aload_n 0, 1) := by decide +kernel
theorem dd_mm_exported_9 : decode prog_12_method_37_code 9 = .ok (.iload_n 2, 1) := by decide +kernel
theorem dd_mm_exported_10 : decode prog_12_method_37_code 10 = .ok (.invokevirtual 115, 3) := by decide +kernel
theorem dd_mm_exported_13 : decode prog_12_method_37_code 13 = .ok (.ifCond .eq 26, 3) := by decide +kernel
theorem dd_mm_exported_16 : decode prog_12_method_37_code 16 = .ok (.aload_n 0, 1) := by decide +kernel
theorem dd_mm_exported_17 : decode prog_12_method_37_code 17 = .ok (.getfield 19, 3) := by decide +kernel
theorem dd_mm_exported_20 : decode prog_12_method_37_code 20 = .ok (.iload_n 1, 1) := by decide +kernel
theorem dd_mm_exported_21 : decode prog_12_method_37_code 21 = .ok (.baload, 1) := by decide +kernel
theorem dd_mm_exported_22 : decode prog_12_method_37_code 22 = .ok (.iload_n 2, 1) := by decide +kernel
theorem dd_mm_exported_23 : decode prog_12_method_37_code 23 = .ok (.if_icmp .eq 16, 3) := by decide +kernel
theorem dd_mm_exported_26 : decode prog_12_method_37_code 26 = .ok (.aload_n 0, 1) := by decide +kernel
theorem dd_mm_exported_27 : decode prog_12_method_37_code 27 = .ok (.getfield 45, 3) := by decide +kernel
theorem dd_mm_exported_30 : decode prog_12_method_37_code 30 = .ok (.iconst 4, 1) := by decide +kernel
theorem dd_mm_exported_31 : decode prog_12_method_37_code 31 = .ok (.iload_n 1, 1) := by decide +kernel
theorem dd_mm_exported_32 : decode prog_12_method_37_code 32 = .ok (.imul, 1) := by decide +kernel
theorem dd_mm_exported_33 : decode prog_12_method_37_code 33 = .ok (.iload_n 2, 1) := by decide +kernel
theorem dd_mm_exported_34 : decode prog_12_method_37_code 34 = .ok (.iadd, 1) := by decide +kernel
theorem dd_mm_exported_35 : decode prog_12_method_37_code 35 = .ok (.iaload, 1) := by decide +kernel
theorem dd_mm_exported_36 : decode prog_12_method_37_code 36 = .ok (.goto 4, 3) := by decide +kernel
theorem dd_mm_exported_39 : decode prog_12_method_37_code 39 = .ok (.iconst 0, 1) := by decide +kernel
theorem dd_mm_exported_40 : decode prog_12_method_37_code 40 = .ok (.ireturn, 1) := by decide +kernel
set_option maxHeartbeats 4000000 in
set_option maxRecDepth 100000 in
theorem kb_mm_exported_b39 {p : Program} {l : Launch} {e : Env} {s : State} {m : MethodId} {args : Array Value} {below : List Frame} {meth : Method} {c : Code} {D : va_G} {ac : Nat → ClassId} {a0 : Nat} {gl : gl_T} {rF : Int32} {stF : st_S} {iT jT : Nat}
    (X : cx_ p s m args c prog_12_method_37_code 3 "PromiseVatsModel" tb_ D cl_ (ty_ ac)) (hKs : kn_ D ac a0 gl s) (hlk : meth.locks = false) (hret : meth.sig.returnType = (Option.some FieldType.int)) (hnm : meth.name = "exported") : wk_ p l e 2 42 s m args below meth c D cl_ ac a0 3 vb_i rF stF iT jT 39 (fun x : Unit => []) (fun x : Unit => []) (fun _ : Unit => mm_exported_b39 gl) := by
  intro x st H locs cells slots i j ls hw hl h hci hcj
  have h : mm_exported_b39 gl  st = some (rF, stF, i, j) := h
  unfold mm_exported_b39 at h
  have hl : lh_ ls 3 [] := hl
  refine W.eq (g2 := F0 m 39 ls []) rfl ?_
  refine lv_iconst (v := (0 : Int32)) X.1 X.2.1 dd_mm_exported_39 (by decide) ?_
  obtain ⟨rfl, rfl, rfl, rfl⟩ := st_r_some h
  exact rr_iret X hw hlk hret rfl hci hcj dd_mm_exported_40
set_option maxHeartbeats 4000000 in
set_option maxRecDepth 100000 in
theorem kc_mm_exported (l : Launch) (D : va_G) (ac : Nat → ClassId) (a0 : Nat) (gl : gl_T) (v0 : Option Nat) (v1 : Int32) (v2 : Int32) (st : st_S) (rF : Int32) (stF : st_S) (iT jT : Nat) (h : mm_exported gl v0 v1 v2 st = some (rF, stF, iT, jT)) :
    ct_ l ⟨"PromiseVatsModel", "exported", "(II)I"⟩ (Cond.code ⟨"PromiseVatsModel", "exported", "(II)I"⟩ prog_12_method_37_code 3 (Option.some FieldType.int) :: tb_) 2 42 D cl_ ac a0 (kn_ D ac a0 gl) [(va_rf v0), (.int v1), (.int v2)] st (vb_i rF) stF iT jT := by
  refine ct_of (kn_ok D ac a0 gl) (plainFor_of_name (by decide +kernel)) (by simp [rf_cat, ic_cat]) (by simp) ?_
  intro p e s m args below meth c ls X hw hKs hlk hret hnm hl
  unfold mm_exported at h
  have hl : lh_ ls 3 [(0, (va_rf v0)), (1, (.int v1)), (2, (.int v2))] := hl
  obtain ⟨z0, hz0⟩ : ∃ z : Nat, 0 = z := ⟨0, rfl⟩
  obtain ⟨z1, hz1⟩ : ∃ z : Nat, 0 = z := ⟨0, rfl⟩
  refine W.cs hz0 hz1 ?_
  have hci : z0 + iT = iT := by omega
  have hcj : z1 + jT = jT := by omega
  refine rr_aldn X dd_mm_exported_0 rfl (lv_at hl.1 0 rfl) ?_
  refine lv_iload_n X.1 X.2.1 dd_mm_exported_1 rfl (lv_at hl.1 1 rfl) ?_
  obtain ⟨t22, ht22, h⟩ := st_g_some h
  obtain ⟨t1, t2, t3, t4, t5, t6, ht1, h, ei, ej⟩ := st_b_some h
  refine rr_callV (n := 1) (As := [(.int v1)]) (rest := []) X hw (kn_ok D ac a0 gl) hKs (kc_mm_lives l D ac a0 gl v0 v1 _ _ _ _ _ ht1) tb_good tw_556 tw_469 tw_557 tw_558 se_63 ht22 (by decide +kernel) rfl (show 1 + 1 ≤ _ ∧ 8 + (2 + 11) + 21 ≤ _ from ⟨Nat.le_of_ble_eq_true rfl, Nat.le_of_ble_eq_true rfl⟩) (show z0 + t3 ≤ iT ∧ z1 + t4 ≤ jT from ⟨ar_1 hci ei, ar_1 hcj ej⟩) hl.1.1 (by simp [rf_cat, ic_cat]) rfl dd_mm_exported_2 (sk := [(.int t1)]) rfl (fun H locs hw => ?_)
  have hci : z0 + t3 + t5 = iT := ar_2 hci ei
  have hcj : z1 + t4 + t6 = jT := ar_2 hcj ej
  clear ei ej
  generalize z0 + t3 = t7 at hci ⊢
  generalize z1 + t4 = t8 at hcj ⊢
  by_cases hc5 : t1 = 0
  · rw [if_pos hc5] at h
    refine lv_if_eq (tgt := 39) X.1 X.2.1 dd_mm_exported_5 (by decide) (fun _ => ?_) (fun z => absurd hc5 z)
    exact (kb_mm_exported_b39 X hKs hlk hret hnm) () _ _ _ _ _ _ _ _ hw (lh_pk hl [] rfl) h hci hcj
  · rw [if_neg hc5] at h
    refine lv_if_eq (tgt := 39) X.1 X.2.1 dd_mm_exported_5 (by decide) (fun z => absurd z hc5) (fun _ => ?_)
    refine rr_aldn X dd_mm_exported_8 rfl (lv_at hl.1 0 rfl) ?_
    refine lv_iload_n X.1 X.2.1 dd_mm_exported_9 rfl (lv_at hl.1 2 rfl) ?_
    obtain ⟨t21, ht21, h⟩ := st_g_some h
    obtain ⟨t9, t10, t11, t12, t13, t14, ht9, h, ei, ej⟩ := st_b_some h
    refine rr_callV (n := 1) (As := [(.int v2)]) (rest := []) X hw (kn_ok D ac a0 gl) hKs (kc_mm_vat l D ac a0 gl v0 v2 _ _ _ _ _ ht9) tb_good tw_516 tw_469 tw_517 tw_518 se_54 ht21 (by decide +kernel) rfl (show 0 + 1 ≤ _ ∧ 8 + (2 + 11) + 0 ≤ _ from ⟨Nat.le_of_ble_eq_true rfl, Nat.le_of_ble_eq_true rfl⟩) (show t7 + t11 ≤ iT ∧ t8 + t12 ≤ jT from ⟨ar_1 hci ei, ar_1 hcj ej⟩) hl.1.1 (by simp [rf_cat, ic_cat]) rfl dd_mm_exported_10 (sk := [(.int t9)]) rfl (fun H locs hw => ?_)
    have hci : t7 + t11 + t13 = iT := ar_2 hci ei
    have hcj : t8 + t12 + t14 = jT := ar_2 hcj ej
    clear ei ej
    generalize t7 + t11 = t15 at hci ⊢
    generalize t8 + t12 = t16 at hcj ⊢
    by_cases hc13 : t9 = 0
    · rw [if_pos hc13] at h
      refine lv_if_eq (tgt := 39) X.1 X.2.1 dd_mm_exported_13 (by decide) (fun _ => ?_) (fun z => absurd hc13 z)
      exact (kb_mm_exported_b39 X hKs hlk hret hnm) () _ _ _ _ _ _ _ _ hw (lh_pk hl [] rfl) h hci hcj
    · rw [if_neg hc13] at h
      refine lv_if_eq (tgt := 39) X.1 X.2.1 dd_mm_exported_13 (by decide) (fun z => absurd z hc13) (fun _ => ?_)
      refine rr_aldn X dd_mm_exported_16 rfl (lv_at hl.1 0 rfl) ?_
      obtain ⟨t17, ht17, h⟩ := st_g_some h
      refine rr_getq X hw ff_10_6 ht17 tw_461 (Or.inl rfl) dd_mm_exported_17 ?_
      refine lv_iload_n X.1 X.2.1 dd_mm_exported_20 rfl (lv_at hl.1 1 rfl) ?_
      obtain ⟨t18, ht18, h⟩ := st_g_some h
      refine rr_bald (t := 1) X hw rfl ht18 dd_mm_exported_21 ?_
      refine lv_iload_n X.1 X.2.1 dd_mm_exported_22 rfl (lv_at hl.1 2 rfl) ?_
      by_cases hc23 : t18 = v2
      · rw [if_pos hc23] at h
        refine lv_icmp_eq (tgt := 39) X.1 X.2.1 dd_mm_exported_23 (by decide) (fun _ => ?_) (fun z => absurd hc23 z)
        exact (kb_mm_exported_b39 X hKs hlk hret hnm) () _ _ _ _ _ _ _ _ hw (lh_pk hl [] rfl) h hci hcj
      · rw [if_neg hc23] at h
        refine lv_icmp_eq (tgt := 39) X.1 X.2.1 dd_mm_exported_23 (by decide) (fun z => absurd z hc23) (fun _ => ?_)
        refine rr_aldn X dd_mm_exported_26 rfl (lv_at hl.1 0 rfl) ?_
        obtain ⟨t19, ht19, h⟩ := st_g_some h
        refine rr_getq X hw ff_10_15 ht19 tw_453 (Or.inl rfl) dd_mm_exported_27 ?_
        refine lv_iconst (v := (4 : Int32)) X.1 X.2.1 dd_mm_exported_30 (by decide) ?_
        refine lv_iload_n X.1 X.2.1 dd_mm_exported_31 rfl (lv_at hl.1 1 rfl) ?_
        refine lv_imul X.1 X.2.1 dd_mm_exported_32 ?_
        refine lv_iload_n X.1 X.2.1 dd_mm_exported_33 rfl (lv_at hl.1 2 rfl) ?_
        refine lv_iadd X.1 X.2.1 dd_mm_exported_34 ?_
        obtain ⟨t20, ht20, h⟩ := st_g_some h
        refine rr_iald (t := 0) X hw rfl ht20 dd_mm_exported_35 ?_
        refine lv_goto (tgt := 40) X.1 X.2.1 dd_mm_exported_36 (by decide) ?_
        obtain ⟨rfl, rfl, rfl, rfl⟩ := st_r_some h
        exact rr_iret X hw hlk hret rfl hci hcj dd_mm_exported_40
/-! PromiseVatsModel.home(I)I -/
theorem dd_mm_home_0 : decode prog_12_method_38_code 0 = .ok (.aload_n 0, 1) := by decide +kernel
theorem dd_mm_home_1 : decode prog_12_method_38_code 1 = .ok (.iload_n 1, 1) := by decide +kernel
theorem dd_mm_home_2 : decode prog_12_method_38_code 2 = .ok (.invokevirtual 193, 3) := by decide +kernel
theorem dd_mm_home_5 : decode prog_12_method_38_code 5 = .ok (.ifCond .eq 12, 3) := by decide +kernel
theorem dd_mm_home_8 : decode prog_12_method_38_code 8 = .ok (.aload_n 0, 1) := by decide +kernel
theorem dd_mm_home_9 : decode prog_12_method_38_code 9 = .ok (.getfield 19, 3) := by decide +kernel
theorem dd_mm_home_12 : decode prog_12_method_38_code 12 = .ok (.iload_n 1, 1) := by decide +kernel
theorem dd_mm_home_13 : decode prog_12_method_38_code 13 = .ok (.baload, 1) := by decide +kernel
theorem dd_mm_home_14 : decode prog_12_method_38_code 14 = .ok (.goto 4, 3) := by decide +kernel
theorem dd_mm_home_17 : decode prog_12_method_38_code 17 = .ok (.iconst (-1), 1) := by decide +kernel
theorem dd_mm_home_18 : decode prog_12_method_38_code 18 = .ok (.ireturn, 1) := by decide +kernel
set_option maxHeartbeats 4000000 in
set_option maxRecDepth 100000 in
theorem kc_mm_home (l : Launch) (D : va_G) (ac : Nat → ClassId) (a0 : Nat) (gl : gl_T) (v0 : Option Nat) (v1 : Int32) (st : st_S) (rF : Int32) (stF : st_S) (iT jT : Nat) (h : mm_home gl v0 v1 st = some (rF, stF, iT, jT)) :
    ct_ l ⟨"PromiseVatsModel", "home", "(I)I"⟩ (Cond.code ⟨"PromiseVatsModel", "home", "(I)I"⟩ prog_12_method_38_code 2 (Option.some FieldType.int) :: tb_) 2 42 D cl_ ac a0 (kn_ D ac a0 gl) [(va_rf v0), (.int v1)] st (vb_i rF) stF iT jT := by
  refine ct_of (kn_ok D ac a0 gl) (plainFor_of_name (by decide +kernel)) (by simp [rf_cat, ic_cat]) (by simp) ?_
  intro p e s m args below meth c ls X hw hKs hlk hret hnm hl
  unfold mm_home at h
  have hl : lh_ ls 2 [(0, (va_rf v0)), (1, (.int v1))] := hl
  obtain ⟨z0, hz0⟩ : ∃ z : Nat, 0 = z := ⟨0, rfl⟩
  obtain ⟨z1, hz1⟩ : ∃ z : Nat, 0 = z := ⟨0, rfl⟩
  refine W.cs hz0 hz1 ?_
  have hci : z0 + iT = iT := by omega
  have hcj : z1 + jT = jT := by omega
  refine rr_aldn X dd_mm_home_0 rfl (lv_at hl.1 0 rfl) ?_
  refine lv_iload_n X.1 X.2.1 dd_mm_home_1 rfl (lv_at hl.1 1 rfl) ?_
  obtain ⟨t11, ht11, h⟩ := st_g_some h
  obtain ⟨t1, t2, t3, t4, t5, t6, ht1, h, ei, ej⟩ := st_b_some h
  refine rr_callV (n := 1) (As := [(.int v1)]) (rest := []) X hw (kn_ok D ac a0 gl) hKs (kc_mm_lives l D ac a0 gl v0 v1 _ _ _ _ _ ht1) tb_good tw_556 tw_469 tw_557 tw_558 se_63 ht11 (by decide +kernel) rfl (show 1 + 1 ≤ _ ∧ 8 + (2 + 11) + 21 ≤ _ from ⟨Nat.le_of_ble_eq_true rfl, Nat.le_of_ble_eq_true rfl⟩) (show z0 + t3 ≤ iT ∧ z1 + t4 ≤ jT from ⟨ar_1 hci ei, ar_1 hcj ej⟩) hl.1.1 (by simp [rf_cat, ic_cat]) rfl dd_mm_home_2 (sk := [(.int t1)]) rfl (fun H locs hw => ?_)
  have hci : z0 + t3 + t5 = iT := ar_2 hci ei
  have hcj : z1 + t4 + t6 = jT := ar_2 hcj ej
  clear ei ej
  generalize z0 + t3 = t7 at hci ⊢
  generalize z1 + t4 = t8 at hcj ⊢
  by_cases hc5 : t1 = 0
  · rw [if_pos hc5] at h
    refine lv_if_eq (tgt := 17) X.1 X.2.1 dd_mm_home_5 (by decide) (fun _ => ?_) (fun z => absurd hc5 z)
    refine lv_iconst (v := (-1 : Int32)) X.1 X.2.1 dd_mm_home_17 (by decide) ?_
    obtain ⟨rfl, rfl, rfl, rfl⟩ := st_r_some h
    exact rr_iret X hw hlk hret rfl hci hcj dd_mm_home_18
  · rw [if_neg hc5] at h
    refine lv_if_eq (tgt := 17) X.1 X.2.1 dd_mm_home_5 (by decide) (fun z => absurd z hc5) (fun _ => ?_)
    refine rr_aldn X dd_mm_home_8 rfl (lv_at hl.1 0 rfl) ?_
    obtain ⟨t9, ht9, h⟩ := st_g_some h
    refine rr_getq X hw ff_10_6 ht9 tw_461 (Or.inl rfl) dd_mm_home_9 ?_
    refine lv_iload_n X.1 X.2.1 dd_mm_home_12 rfl (lv_at hl.1 1 rfl) ?_
    obtain ⟨t10, ht10, h⟩ := st_g_some h
    refine rr_bald (t := 1) X hw rfl ht10 dd_mm_home_13 ?_
    refine lv_goto (tgt := 18) X.1 X.2.1 dd_mm_home_14 (by decide) ?_
    obtain ⟨rfl, rfl, rfl, rfl⟩ := st_r_some h
    exact rr_iret X hw hlk hret rfl hci hcj dd_mm_home_18
/-! PromiseVatsModel.slot(II)I -/
theorem dd_mm_slot_0 : decode prog_12_method_39_code 0 = .ok (.aload_n 0, 1) := by decide +kernel
theorem dd_mm_slot_1 : decode prog_12_method_39_code 1 = .ok (.iload_n 1, 1) := by decide +kernel
theorem dd_mm_slot_2 : decode prog_12_method_39_code 2 = .ok (.invokevirtual 193, 3) := by decide +kernel
theorem dd_mm_slot_5 : decode prog_12_method_39_code 5 = .ok (.ifCond .eq 31, 3) := by decide +kernel
theorem dd_mm_slot_8 : decode prog_12_method_39_code 8 = .ok (.iload_n 1, 1) := by decide +kernel
theorem dd_mm_slot_9 : decode prog_12_method_39_code 9 = .ok (.bipush 60, 2) := by decide +kernel
theorem dd_mm_slot_11 : decode prog_12_method_39_code 11 = .ok (.if_icmp .gt 25, 3) := by decide +kernel
theorem dd_mm_slot_14 : decode prog_12_method_39_code 14 = .ok (.iload_n 2, 1) := by decide +kernel
theorem dd_mm_slot_15 : decode prog_12_method_39_code 15 = .ok (.ifCond .lt 21, 3) := by decide +kernel
theorem dd_mm_slot_18 : decode prog_12_method_39_code 18 = .ok (.iload_n 2, 1) := by decide +kernel
theorem dd_mm_slot_19 : decode prog_12_method_39_code 19 = .ok (.iconst 3, 1) := by decide +kernel
theorem dd_mm_slot_20 : decode prog_12_method_39_code 20 = .ok (.if_icmp .gt 16, 3) := by decide +kernel
theorem dd_mm_slot_23 : decode prog_12_method_39_code 23 = .ok (.aload_n 0, 1) := by decide +kernel
theorem dd_mm_slot_24 : decode prog_12_method_39_code 24 = .ok (.getfield 42, 3) := by decide +kernel
theorem dd_mm_slot_27 : decode prog_12_method_39_code 27 = .ok (.iconst 4, 1) := by decide +kernel
theorem dd_mm_slot_28 : decode prog_12_method_39_code 28 = .ok (.iload_n 1, 1) := by decide +kernel
theorem dd_mm_slot_29 : decode prog_12_method_39_code 29 = .ok (.imul, 1) := by decide +kernel
theorem dd_mm_slot_30 : decode prog_12_method_39_code 30 = .ok (.iload_n 2, 1) := by decide +kernel
theorem dd_mm_slot_31 : decode prog_12_method_39_code 31 = .ok (.iadd, 1) := by decide +kernel
theorem dd_mm_slot_32 : decode prog_12_method_39_code 32 = .ok (.iaload, 1) := by decide +kernel
theorem dd_mm_slot_33 : decode prog_12_method_39_code 33 = .ok (.goto 4, 3) := by decide +kernel
theorem dd_mm_slot_36 : decode prog_12_method_39_code 36 = .ok (.iconst 0, 1) := by decide +kernel
theorem dd_mm_slot_37 : decode prog_12_method_39_code 37 = .ok (.ireturn, 1) := by decide +kernel
set_option maxHeartbeats 4000000 in
set_option maxRecDepth 100000 in
theorem kb_mm_slot_b36 {p : Program} {l : Launch} {e : Env} {s : State} {m : MethodId} {args : Array Value} {below : List Frame} {meth : Method} {c : Code} {D : va_G} {ac : Nat → ClassId} {a0 : Nat} {gl : gl_T} {rF : Int32} {stF : st_S} {iT jT : Nat}
    (X : cx_ p s m args c prog_12_method_39_code 3 "PromiseVatsModel" tb_ D cl_ (ty_ ac)) (hKs : kn_ D ac a0 gl s) (hlk : meth.locks = false) (hret : meth.sig.returnType = (Option.some FieldType.int)) (hnm : meth.name = "slot") : wk_ p l e 2 42 s m args below meth c D cl_ ac a0 3 vb_i rF stF iT jT 36 (fun x : Unit => []) (fun x : Unit => []) (fun _ : Unit => mm_slot_b36 gl) := by
  intro x st H locs cells slots i j ls hw hl h hci hcj
  have h : mm_slot_b36 gl  st = some (rF, stF, i, j) := h
  unfold mm_slot_b36 at h
  have hl : lh_ ls 3 [] := hl
  refine W.eq (g2 := F0 m 36 ls []) rfl ?_
  refine lv_iconst (v := (0 : Int32)) X.1 X.2.1 dd_mm_slot_36 (by decide) ?_
  obtain ⟨rfl, rfl, rfl, rfl⟩ := st_r_some h
  exact rr_iret X hw hlk hret rfl hci hcj dd_mm_slot_37
set_option maxHeartbeats 4000000 in
set_option maxRecDepth 100000 in
theorem kc_mm_slot (l : Launch) (D : va_G) (ac : Nat → ClassId) (a0 : Nat) (gl : gl_T) (v0 : Option Nat) (v1 : Int32) (v2 : Int32) (st : st_S) (rF : Int32) (stF : st_S) (iT jT : Nat) (h : mm_slot gl v0 v1 v2 st = some (rF, stF, iT, jT)) :
    ct_ l ⟨"PromiseVatsModel", "slot", "(II)I"⟩ (Cond.code ⟨"PromiseVatsModel", "slot", "(II)I"⟩ prog_12_method_39_code 3 (Option.some FieldType.int) :: tb_) 2 42 D cl_ ac a0 (kn_ D ac a0 gl) [(va_rf v0), (.int v1), (.int v2)] st (vb_i rF) stF iT jT := by
  refine ct_of (kn_ok D ac a0 gl) (plainFor_of_name (by decide +kernel)) (by simp [rf_cat, ic_cat]) (by simp) ?_
  intro p e s m args below meth c ls X hw hKs hlk hret hnm hl
  unfold mm_slot at h
  have hl : lh_ ls 3 [(0, (va_rf v0)), (1, (.int v1)), (2, (.int v2))] := hl
  obtain ⟨z0, hz0⟩ : ∃ z : Nat, 0 = z := ⟨0, rfl⟩
  obtain ⟨z1, hz1⟩ : ∃ z : Nat, 0 = z := ⟨0, rfl⟩
  refine W.cs hz0 hz1 ?_
  have hci : z0 + iT = iT := by omega
  have hcj : z1 + jT = jT := by omega
  refine rr_aldn X dd_mm_slot_0 rfl (lv_at hl.1 0 rfl) ?_
  refine lv_iload_n X.1 X.2.1 dd_mm_slot_1 rfl (lv_at hl.1 1 rfl) ?_
  obtain ⟨t11, ht11, h⟩ := st_g_some h
  obtain ⟨t1, t2, t3, t4, t5, t6, ht1, h, ei, ej⟩ := st_b_some h
  refine rr_callV (n := 1) (As := [(.int v1)]) (rest := []) X hw (kn_ok D ac a0 gl) hKs (kc_mm_lives l D ac a0 gl v0 v1 _ _ _ _ _ ht1) tb_good tw_556 tw_469 tw_557 tw_558 se_63 ht11 (by decide +kernel) rfl (show 1 + 1 ≤ _ ∧ 8 + (2 + 11) + 21 ≤ _ from ⟨Nat.le_of_ble_eq_true rfl, Nat.le_of_ble_eq_true rfl⟩) (show z0 + t3 ≤ iT ∧ z1 + t4 ≤ jT from ⟨ar_1 hci ei, ar_1 hcj ej⟩) hl.1.1 (by simp [rf_cat, ic_cat]) rfl dd_mm_slot_2 (sk := [(.int t1)]) rfl (fun H locs hw => ?_)
  have hci : z0 + t3 + t5 = iT := ar_2 hci ei
  have hcj : z1 + t4 + t6 = jT := ar_2 hcj ej
  clear ei ej
  generalize z0 + t3 = t7 at hci ⊢
  generalize z1 + t4 = t8 at hcj ⊢
  by_cases hc5 : t1 = 0
  · rw [if_pos hc5] at h
    refine lv_if_eq (tgt := 36) X.1 X.2.1 dd_mm_slot_5 (by decide) (fun _ => ?_) (fun z => absurd hc5 z)
    exact (kb_mm_slot_b36 X hKs hlk hret hnm) () _ _ _ _ _ _ _ _ hw (lh_pk hl [] rfl) h hci hcj
  · rw [if_neg hc5] at h
    refine lv_if_eq (tgt := 36) X.1 X.2.1 dd_mm_slot_5 (by decide) (fun z => absurd z hc5) (fun _ => ?_)
    refine lv_iload_n X.1 X.2.1 dd_mm_slot_8 rfl (lv_at hl.1 1 rfl) ?_
    refine lv_bipush (v := (60 : Int32)) X.1 X.2.1 dd_mm_slot_9 (by decide) ?_
    by_cases hc11 : (60 : Int32) < v1
    · rw [if_pos hc11] at h
      refine lv_icmp_gt (tgt := 36) X.1 X.2.1 dd_mm_slot_11 (by decide) (fun _ => ?_) (fun z => absurd hc11 z)
      exact (kb_mm_slot_b36 X hKs hlk hret hnm) () _ _ _ _ _ _ _ _ hw (lh_pk hl [] rfl) h hci hcj
    · rw [if_neg hc11] at h
      refine lv_icmp_gt (tgt := 36) X.1 X.2.1 dd_mm_slot_11 (by decide) (fun z => absurd z hc11) (fun _ => ?_)
      refine lv_iload_n X.1 X.2.1 dd_mm_slot_14 rfl (lv_at hl.1 2 rfl) ?_
      by_cases hc15 : v2 < 0
      · rw [if_pos hc15] at h
        refine lv_if_lt (tgt := 36) X.1 X.2.1 dd_mm_slot_15 (by decide) (fun _ => ?_) (fun z => absurd hc15 z)
        exact (kb_mm_slot_b36 X hKs hlk hret hnm) () _ _ _ _ _ _ _ _ hw (lh_pk hl [] rfl) h hci hcj
      · rw [if_neg hc15] at h
        refine lv_if_lt (tgt := 36) X.1 X.2.1 dd_mm_slot_15 (by decide) (fun z => absurd z hc15) (fun _ => ?_)
        refine lv_iload_n X.1 X.2.1 dd_mm_slot_18 rfl (lv_at hl.1 2 rfl) ?_
        refine lv_iconst (v := (3 : Int32)) X.1 X.2.1 dd_mm_slot_19 (by decide) ?_
        by_cases hc20 : (3 : Int32) < v2
        · rw [if_pos hc20] at h
          refine lv_icmp_gt (tgt := 36) X.1 X.2.1 dd_mm_slot_20 (by decide) (fun _ => ?_) (fun z => absurd hc20 z)
          exact (kb_mm_slot_b36 X hKs hlk hret hnm) () _ _ _ _ _ _ _ _ hw (lh_pk hl [] rfl) h hci hcj
        · rw [if_neg hc20] at h
          refine lv_icmp_gt (tgt := 36) X.1 X.2.1 dd_mm_slot_20 (by decide) (fun z => absurd z hc20) (fun _ => ?_)
          refine rr_aldn X dd_mm_slot_23 rfl (lv_at hl.1 0 rfl) ?_
          obtain ⟨t9, ht9, h⟩ := st_g_some h
          refine rr_getq X hw ff_10_13 ht9 tw_454 (Or.inl rfl) dd_mm_slot_24 ?_
          refine lv_iconst (v := (4 : Int32)) X.1 X.2.1 dd_mm_slot_27 (by decide) ?_
          refine lv_iload_n X.1 X.2.1 dd_mm_slot_28 rfl (lv_at hl.1 1 rfl) ?_
          refine lv_imul X.1 X.2.1 dd_mm_slot_29 ?_
          refine lv_iload_n X.1 X.2.1 dd_mm_slot_30 rfl (lv_at hl.1 2 rfl) ?_
          refine lv_iadd X.1 X.2.1 dd_mm_slot_31 ?_
          obtain ⟨t10, ht10, h⟩ := st_g_some h
          refine rr_iald (t := 0) X hw rfl ht10 dd_mm_slot_32 ?_
          refine lv_goto (tgt := 37) X.1 X.2.1 dd_mm_slot_33 (by decide) ?_
          obtain ⟨rfl, rfl, rfl, rfl⟩ := st_r_some h
          exact rr_iret X hw hlk hret rfl hci hcj dd_mm_slot_37
/-! PromiseVatsModel.number(I)I -/
theorem dd_mm_number_0 : decode prog_12_method_40_code 0 = .ok (.aload_n 0, 1) := by decide +kernel
theorem dd_mm_number_1 : decode prog_12_method_40_code 1 = .ok (.iload_n 1, 1) := by decide +kernel
theorem dd_mm_number_2 : decode prog_12_method_40_code 2 = .ok (.invokevirtual 193, 3) := by decide +kernel
theorem dd_mm_number_5 : decode prog_12_method_40_code 5 = .ok (.ifCond .eq 18, 3) := by decide +kernel
theorem dd_mm_number_8 : decode prog_12_method_40_code 8 = .ok (.iload_n 1, 1) := by decide +kernel
theorem dd_mm_number_9 : decode prog_12_method_40_code 9 = .ok (.bipush 60, 2) := by decide +kernel
theorem dd_mm_number_11 : decode prog_12_method_40_code 11 = .ok (.if_icmp .gt 12, 3) := by decide +kernel
theorem dd_mm_number_14 : decode prog_12_method_40_code 14 = .ok (.aload_n 0, 1) := by decide +kernel
theorem dd_mm_number_15 : decode prog_12_method_40_code 15 = .ok (.getfield 39, 3) := by decide +kernel
theorem dd_mm_number_18 : decode prog_12_method_40_code 18 = .ok (.iload_n 1, 1) := by decide +kernel
theorem dd_mm_number_19 : decode prog_12_method_40_code 19 = .ok (.iaload, 1) := by decide +kernel
theorem dd_mm_number_20 : decode prog_12_method_40_code 20 = .ok (.goto 4, 3) := by decide +kernel
theorem dd_mm_number_23 : decode prog_12_method_40_code 23 = .ok (.iconst 0, 1) := by decide +kernel
theorem dd_mm_number_24 : decode prog_12_method_40_code 24 = .ok (.ireturn, 1) := by decide +kernel
set_option maxHeartbeats 4000000 in
set_option maxRecDepth 100000 in
theorem kb_mm_number_b23 {p : Program} {l : Launch} {e : Env} {s : State} {m : MethodId} {args : Array Value} {below : List Frame} {meth : Method} {c : Code} {D : va_G} {ac : Nat → ClassId} {a0 : Nat} {gl : gl_T} {rF : Int32} {stF : st_S} {iT jT : Nat}
    (X : cx_ p s m args c prog_12_method_40_code 2 "PromiseVatsModel" tb_ D cl_ (ty_ ac)) (hKs : kn_ D ac a0 gl s) (hlk : meth.locks = false) (hret : meth.sig.returnType = (Option.some FieldType.int)) (hnm : meth.name = "numbe\x72") : wk_ p l e 2 42 s m args below meth c D cl_ ac a0 2 vb_i rF stF iT jT 23 (fun x : Unit => []) (fun x : Unit => []) (fun _ : Unit => mm_number_b23 gl) := by
  intro x st H locs cells slots i j ls hw hl h hci hcj
  have h : mm_number_b23 gl  st = some (rF, stF, i, j) := h
  unfold mm_number_b23 at h
  have hl : lh_ ls 2 [] := hl
  refine W.eq (g2 := F0 m 23 ls []) rfl ?_
  refine lv_iconst (v := (0 : Int32)) X.1 X.2.1 dd_mm_number_23 (by decide) ?_
  obtain ⟨rfl, rfl, rfl, rfl⟩ := st_r_some h
  exact rr_iret X hw hlk hret rfl hci hcj dd_mm_number_24
set_option maxHeartbeats 4000000 in
set_option maxRecDepth 100000 in
theorem kc_mm_number (l : Launch) (D : va_G) (ac : Nat → ClassId) (a0 : Nat) (gl : gl_T) (v0 : Option Nat) (v1 : Int32) (st : st_S) (rF : Int32) (stF : st_S) (iT jT : Nat) (h : mm_number gl v0 v1 st = some (rF, stF, iT, jT)) :
    ct_ l ⟨"PromiseVatsModel", "numbe\x72", "(I)I"⟩ (Cond.code ⟨"PromiseVatsModel", "numbe\x72", "(I)I"⟩ prog_12_method_40_code 2 (Option.some FieldType.int) :: tb_) 2 42 D cl_ ac a0 (kn_ D ac a0 gl) [(va_rf v0), (.int v1)] st (vb_i rF) stF iT jT := by
  refine ct_of (kn_ok D ac a0 gl) (plainFor_of_name (by decide +kernel)) (by simp [rf_cat, ic_cat]) (by simp) ?_
  intro p e s m args below meth c ls X hw hKs hlk hret hnm hl
  unfold mm_number at h
  have hl : lh_ ls 2 [(0, (va_rf v0)), (1, (.int v1))] := hl
  obtain ⟨z0, hz0⟩ : ∃ z : Nat, 0 = z := ⟨0, rfl⟩
  obtain ⟨z1, hz1⟩ : ∃ z : Nat, 0 = z := ⟨0, rfl⟩
  refine W.cs hz0 hz1 ?_
  have hci : z0 + iT = iT := by omega
  have hcj : z1 + jT = jT := by omega
  refine rr_aldn X dd_mm_number_0 rfl (lv_at hl.1 0 rfl) ?_
  refine lv_iload_n X.1 X.2.1 dd_mm_number_1 rfl (lv_at hl.1 1 rfl) ?_
  obtain ⟨t11, ht11, h⟩ := st_g_some h
  obtain ⟨t1, t2, t3, t4, t5, t6, ht1, h, ei, ej⟩ := st_b_some h
  refine rr_callV (n := 1) (As := [(.int v1)]) (rest := []) X hw (kn_ok D ac a0 gl) hKs (kc_mm_lives l D ac a0 gl v0 v1 _ _ _ _ _ ht1) tb_good tw_556 tw_469 tw_557 tw_558 se_63 ht11 (by decide +kernel) rfl (show 1 + 1 ≤ _ ∧ 8 + (2 + 11) + 21 ≤ _ from ⟨Nat.le_of_ble_eq_true rfl, Nat.le_of_ble_eq_true rfl⟩) (show z0 + t3 ≤ iT ∧ z1 + t4 ≤ jT from ⟨ar_1 hci ei, ar_1 hcj ej⟩) hl.1.1 (by simp [rf_cat, ic_cat]) rfl dd_mm_number_2 (sk := [(.int t1)]) rfl (fun H locs hw => ?_)
  have hci : z0 + t3 + t5 = iT := ar_2 hci ei
  have hcj : z1 + t4 + t6 = jT := ar_2 hcj ej
  clear ei ej
  generalize z0 + t3 = t7 at hci ⊢
  generalize z1 + t4 = t8 at hcj ⊢
  by_cases hc5 : t1 = 0
  · rw [if_pos hc5] at h
    refine lv_if_eq (tgt := 23) X.1 X.2.1 dd_mm_number_5 (by decide) (fun _ => ?_) (fun z => absurd hc5 z)
    exact (kb_mm_number_b23 X hKs hlk hret hnm) () _ _ _ _ _ _ _ _ hw (lh_pk hl [] rfl) h hci hcj
  · rw [if_neg hc5] at h
    refine lv_if_eq (tgt := 23) X.1 X.2.1 dd_mm_number_5 (by decide) (fun z => absurd z hc5) (fun _ => ?_)
    refine lv_iload_n X.1 X.2.1 dd_mm_number_8 rfl (lv_at hl.1 1 rfl) ?_
    refine lv_bipush (v := (60 : Int32)) X.1 X.2.1 dd_mm_number_9 (by decide) ?_
    by_cases hc11 : (60 : Int32) < v1
    · rw [if_pos hc11] at h
      refine lv_icmp_gt (tgt := 23) X.1 X.2.1 dd_mm_number_11 (by decide) (fun _ => ?_) (fun z => absurd hc11 z)
      exact (kb_mm_number_b23 X hKs hlk hret hnm) () _ _ _ _ _ _ _ _ hw (lh_pk hl [] rfl) h hci hcj
    · rw [if_neg hc11] at h
      refine lv_icmp_gt (tgt := 23) X.1 X.2.1 dd_mm_number_11 (by decide) (fun z => absurd z hc11) (fun _ => ?_)
      refine rr_aldn X dd_mm_number_14 rfl (lv_at hl.1 0 rfl) ?_
      obtain ⟨t9, ht9, h⟩ := st_g_some h
      refine rr_getq X hw ff_10_12 ht9 tw_455 (Or.inl rfl) dd_mm_number_15 ?_
      refine lv_iload_n X.1 X.2.1 dd_mm_number_18 rfl (lv_at hl.1 1 rfl) ?_
      obtain ⟨t10, ht10, h⟩ := st_g_some h
      refine rr_iald (t := 0) X hw rfl ht10 dd_mm_number_19 ?_
      refine lv_goto (tgt := 24) X.1 X.2.1 dd_mm_number_20 (by decide) ?_
      obtain ⟨rfl, rfl, rfl, rfl⟩ := st_r_some h
      exact rr_iret X hw hlk hret rfl hci hcj dd_mm_number_24
/-! PromiseVatsModel.resolved(I)I -/
theorem dd_mm_resolved_0 : decode prog_12_method_41_code 0 = .ok (.aload_n 0, 1) := by decide +kernel
theorem dd_mm_resolved_1 : decode prog_12_method_41_code 1 = .ok (.iload_n 1, 1) := by decide +kernel
theorem dd_mm_resolved_2 : decode prog_12_method_41_code 2 = .ok (.invokevirtual 193, 3) := by decide +kernel
theorem dd_mm_resolved_5 : decode prog_12_method_41_code 5 = .ok (.ifCond .eq 27, 3) := by decide +kernel
theorem dd_mm_resolved_8 : decode prog_12_method_41_code 8 = .ok (.iload_n 1, 1) := by decide +kernel
theorem dd_mm_resolved_9 : decode prog_12_method_41_code 9 = .ok (.bipush 100, 2) := by decide +kernel
theorem dd_mm_resolved_11 : decode prog_12_method_41_code 11 = .ok (.if_icmp .le 21, 3) := by decide +kernel
theorem dd_mm_resolved_14 : decode prog_12_method_41_code 14 = .ok (.aload_n 0, 1) := by decide +kernel
theorem dd_mm_resolved_15 : decode prog_12_method_41_code 15 = .ok (.getfield 27, 3) := by decide +kernel
theorem dd_mm_resolved_18 : decode prog_12_method_41_code 18 = .ok (.iload_n 1, 1) := by decide +kernel
theorem dd_mm_resolved_19 : decode prog_12_method_41_code 19 = .ok (.baload, 1) := by decide +kernel
theorem dd_mm_resolved_20 : decode prog_12_method_41_code 20 = .ok (.ifCond .eq 12, 3) := by decide +kernel
theorem dd_mm_resolved_23 : decode prog_12_method_41_code 23 = .ok (.aload_n 0, 1) := by decide +kernel
theorem dd_mm_resolved_24 : decode prog_12_method_41_code 24 = .ok (.getfield 30, 3) := by decide +kernel
theorem dd_mm_resolved_27 : decode prog_12_method_41_code 27 = .ok (.iload_n 1, 1) := by decide +kernel
theorem dd_mm_resolved_28 : decode prog_12_method_41_code 28 = .ok (.iaload, 1) := by decide +kernel
theorem dd_mm_resolved_29 : decode prog_12_method_41_code 29 = .ok (.goto 4, 3) := by decide +kernel
theorem dd_mm_resolved_32 : decode prog_12_method_41_code 32 = .ok (.iconst (-1), 1) := by decide +kernel
theorem dd_mm_resolved_33 : decode prog_12_method_41_code 33 = .ok (.ireturn, 1) := by decide +kernel
set_option maxHeartbeats 4000000 in
set_option maxRecDepth 100000 in
theorem kb_mm_resolved_b32 {p : Program} {l : Launch} {e : Env} {s : State} {m : MethodId} {args : Array Value} {below : List Frame} {meth : Method} {c : Code} {D : va_G} {ac : Nat → ClassId} {a0 : Nat} {gl : gl_T} {rF : Int32} {stF : st_S} {iT jT : Nat}
    (X : cx_ p s m args c prog_12_method_41_code 2 "PromiseVatsModel" tb_ D cl_ (ty_ ac)) (hKs : kn_ D ac a0 gl s) (hlk : meth.locks = false) (hret : meth.sig.returnType = (Option.some FieldType.int)) (hnm : meth.name = "resolved") : wk_ p l e 2 42 s m args below meth c D cl_ ac a0 2 vb_i rF stF iT jT 32 (fun x : Unit => []) (fun x : Unit => []) (fun _ : Unit => mm_resolved_b32 gl) := by
  intro x st H locs cells slots i j ls hw hl h hci hcj
  have h : mm_resolved_b32 gl  st = some (rF, stF, i, j) := h
  unfold mm_resolved_b32 at h
  have hl : lh_ ls 2 [] := hl
  refine W.eq (g2 := F0 m 32 ls []) rfl ?_
  refine lv_iconst (v := (-1 : Int32)) X.1 X.2.1 dd_mm_resolved_32 (by decide) ?_
  obtain ⟨rfl, rfl, rfl, rfl⟩ := st_r_some h
  exact rr_iret X hw hlk hret rfl hci hcj dd_mm_resolved_33
set_option maxHeartbeats 4000000 in
set_option maxRecDepth 100000 in
theorem kc_mm_resolved (l : Launch) (D : va_G) (ac : Nat → ClassId) (a0 : Nat) (gl : gl_T) (v0 : Option Nat) (v1 : Int32) (st : st_S) (rF : Int32) (stF : st_S) (iT jT : Nat) (h : mm_resolved gl v0 v1 st = some (rF, stF, iT, jT)) :
    ct_ l ⟨"PromiseVatsModel", "resolved", "(I)I"⟩ (Cond.code ⟨"PromiseVatsModel", "resolved", "(I)I"⟩ prog_12_method_41_code 2 (Option.some FieldType.int) :: tb_) 2 42 D cl_ ac a0 (kn_ D ac a0 gl) [(va_rf v0), (.int v1)] st (vb_i rF) stF iT jT := by
  refine ct_of (kn_ok D ac a0 gl) (plainFor_of_name (by decide +kernel)) (by simp [rf_cat, ic_cat]) (by simp) ?_
  intro p e s m args below meth c ls X hw hKs hlk hret hnm hl
  unfold mm_resolved at h
  have hl : lh_ ls 2 [(0, (va_rf v0)), (1, (.int v1))] := hl
  obtain ⟨z0, hz0⟩ : ∃ z : Nat, 0 = z := ⟨0, rfl⟩
  obtain ⟨z1, hz1⟩ : ∃ z : Nat, 0 = z := ⟨0, rfl⟩
  refine W.cs hz0 hz1 ?_
  have hci : z0 + iT = iT := by omega
  have hcj : z1 + jT = jT := by omega
  refine rr_aldn X dd_mm_resolved_0 rfl (lv_at hl.1 0 rfl) ?_
  refine lv_iload_n X.1 X.2.1 dd_mm_resolved_1 rfl (lv_at hl.1 1 rfl) ?_
  obtain ⟨t13, ht13, h⟩ := st_g_some h
  obtain ⟨t1, t2, t3, t4, t5, t6, ht1, h, ei, ej⟩ := st_b_some h
  refine rr_callV (n := 1) (As := [(.int v1)]) (rest := []) X hw (kn_ok D ac a0 gl) hKs (kc_mm_lives l D ac a0 gl v0 v1 _ _ _ _ _ ht1) tb_good tw_556 tw_469 tw_557 tw_558 se_63 ht13 (by decide +kernel) rfl (show 1 + 1 ≤ _ ∧ 8 + (2 + 11) + 21 ≤ _ from ⟨Nat.le_of_ble_eq_true rfl, Nat.le_of_ble_eq_true rfl⟩) (show z0 + t3 ≤ iT ∧ z1 + t4 ≤ jT from ⟨ar_1 hci ei, ar_1 hcj ej⟩) hl.1.1 (by simp [rf_cat, ic_cat]) rfl dd_mm_resolved_2 (sk := [(.int t1)]) rfl (fun H locs hw => ?_)
  have hci : z0 + t3 + t5 = iT := ar_2 hci ei
  have hcj : z1 + t4 + t6 = jT := ar_2 hcj ej
  clear ei ej
  generalize z0 + t3 = t7 at hci ⊢
  generalize z1 + t4 = t8 at hcj ⊢
  by_cases hc5 : t1 = 0
  · rw [if_pos hc5] at h
    refine lv_if_eq (tgt := 32) X.1 X.2.1 dd_mm_resolved_5 (by decide) (fun _ => ?_) (fun z => absurd hc5 z)
    exact (kb_mm_resolved_b32 X hKs hlk hret hnm) () _ _ _ _ _ _ _ _ hw (lh_pk hl [] rfl) h hci hcj
  · rw [if_neg hc5] at h
    refine lv_if_eq (tgt := 32) X.1 X.2.1 dd_mm_resolved_5 (by decide) (fun z => absurd z hc5) (fun _ => ?_)
    refine lv_iload_n X.1 X.2.1 dd_mm_resolved_8 rfl (lv_at hl.1 1 rfl) ?_
    refine lv_bipush (v := (100 : Int32)) X.1 X.2.1 dd_mm_resolved_9 (by decide) ?_
    by_cases hc11 : v1 ≤ (100 : Int32)
    · rw [if_pos hc11] at h
      refine lv_icmp_le (tgt := 32) X.1 X.2.1 dd_mm_resolved_11 (by decide) (fun _ => ?_) (fun z => absurd hc11 z)
      exact (kb_mm_resolved_b32 X hKs hlk hret hnm) () _ _ _ _ _ _ _ _ hw (lh_pk hl [] rfl) h hci hcj
    · rw [if_neg hc11] at h
      refine lv_icmp_le (tgt := 32) X.1 X.2.1 dd_mm_resolved_11 (by decide) (fun z => absurd z hc11) (fun _ => ?_)
      refine rr_aldn X dd_mm_resolved_14 rfl (lv_at hl.1 0 rfl) ?_
      obtain ⟨t9, ht9, h⟩ := st_g_some h
      refine rr_getq X hw ff_10_8 ht9 tw_459 (Or.inl rfl) dd_mm_resolved_15 ?_
      refine lv_iload_n X.1 X.2.1 dd_mm_resolved_18 rfl (lv_at hl.1 1 rfl) ?_
      obtain ⟨t10, ht10, h⟩ := st_g_some h
      refine rr_zald (t := 2) X hw rfl ht10 dd_mm_resolved_19 ?_
      by_cases hc20 : t10 = 0
      · rw [if_pos hc20] at h
        refine lv_if_eq (tgt := 32) X.1 X.2.1 dd_mm_resolved_20 (by decide) (fun _ => ?_) (fun z => absurd hc20 z)
        exact (kb_mm_resolved_b32 X hKs hlk hret hnm) () _ _ _ _ _ _ _ _ hw (lh_pk hl [] rfl) h hci hcj
      · rw [if_neg hc20] at h
        refine lv_if_eq (tgt := 32) X.1 X.2.1 dd_mm_resolved_20 (by decide) (fun z => absurd z hc20) (fun _ => ?_)
        refine rr_aldn X dd_mm_resolved_23 rfl (lv_at hl.1 0 rfl) ?_
        obtain ⟨t11, ht11, h⟩ := st_g_some h
        refine rr_getq X hw ff_10_9 ht11 tw_458 (Or.inl rfl) dd_mm_resolved_24 ?_
        refine lv_iload_n X.1 X.2.1 dd_mm_resolved_27 rfl (lv_at hl.1 1 rfl) ?_
        obtain ⟨t12, ht12, h⟩ := st_g_some h
        refine rr_iald (t := 0) X hw rfl ht12 dd_mm_resolved_28 ?_
        refine lv_goto (tgt := 33) X.1 X.2.1 dd_mm_resolved_29 (by decide) ?_
        obtain ⟨rfl, rfl, rfl, rfl⟩ := st_r_some h
        exact rr_iret X hw hlk hret rfl hci hcj dd_mm_resolved_33
