/-! PromiseVats.imported(II)I -/
theorem dd_xP_imported_0 : decode prog_1_method_12_code 0 = .ok (.aload_n 0, 1) := by decide +kernel
theorem dd_xP_imported_1 : decode prog_1_method_12_code 1 = .ok (.iload_n 2, 1) := by decide +kernel
theorem dd_xP_imported_2 : decode prog_1_method_12_code 2 = .ok (.invokevirtual 210, 3) := by decide +kernel
theorem dd_xP_imported_5 : decode prog_1_method_12_code 5 = .ok (.astore_n 3, 1) := by decide +kernel
theorem dd_xP_imported_6 : decode prog_1_method_12_code 6 = .ok (.aload_n 0, 1) := by decide +kernel
theorem dd_xP_imported_7 : decode prog_1_method_12_code 7 = .ok (.iload_n 1, 1) := by decide +kernel
theorem dd_xP_imported_8 : decode prog_1_method_12_code 8 = .ok (.invokevirtual 83, 3) := by decide +kernel
theorem dd_xP_imported_11 : decode prog_1_method_12_code 11 = .ok (.ifCond .eq 16, 3) := by decide +kernel
theorem dd_xP_imported_14 : decode prog_1_method_12_code 14 = .ok (.aload_n 3, 1) := by decide +kernel
theorem dd_xP_imported_15 : decode prog_1_method_12_code 15 = .ok (.ifnull 12, 3) := by decide +kernel
theorem dd_xP_imported_18 : decode prog_1_method_12_code 18 = .ok (.aload_n 3, 1) := by decide +kernel
theorem dd_xP_imported_19 : decode prog_1_method_12_code 19 = .ok (.getfield 214, 3) := by decide +kernel
theorem dd_xP_imported_22 : decode prog_1_method_12_code 22 = .ok (.iload_n 1, 1) := by decide +kernel
theorem dd_xP_imported_23 : decode prog_1_method_12_code 23 = .ok (.iaload, 1) := by decide +kernel
theorem dd_xP_imported_24 : decode prog_1_method_12_code 24 = .ok (.goto 4, 3) := by decide +kernel
theorem dd_xP_imported_27 : decode prog_1_method_12_code 27 = .ok (.iconst 0, 1) := by decide +kernel
theorem dd_xP_imported_28 : decode prog_1_method_12_code 28 = .ok (.ireturn, 1) := by decide +kernel
set_option maxHeartbeats 4000000 in
set_option maxRecDepth 100000 in
theorem kb_xP_imported_b27 {p : Program} {l : Launch} {e : Env} {s : State} {m : MethodId} {args : Array Value} {below : List Frame} {meth : Method} {c : Code} {D : va_G} {ac : Nat → ClassId} {a0 : Nat} {gl : gl_T} {rF : Int32} {stF : st_S} {iT jT : Nat}
    (X : cx_ p s m args c prog_1_method_12_code 4 "PromiseVats" tb_ D cl_ (ty_ ac)) (hKs : kn_ D ac a0 gl s) (hlk : meth.locks = false) (hret : meth.sig.returnType = (Option.some FieldType.int)) (hnm : meth.name = "imported") : wk_ p l e 1 21 s m args below meth c D cl_ ac a0 4 vb_i rF stF iT jT 27 (fun x : Unit => []) (fun x : Unit => []) (fun _ : Unit => xP_imported_b27 gl) := by
  intro x st H locs cells slots i j ls hw hl h hci hcj
  have h : xP_imported_b27 gl  st = some (rF, stF, i, j) := h
  unfold xP_imported_b27 at h
  have hl : lh_ ls 4 [] := hl
  refine W.eq (g2 := F0 m 27 ls []) rfl ?_
  refine lv_iconst (v := (0 : Int32)) X.1 X.2.1 dd_xP_imported_27 (by decide) ?_
  obtain ⟨rfl, rfl, rfl, rfl⟩ := st_r_some h
  exact rr_iret X hw hlk hret rfl hci hcj dd_xP_imported_28
set_option maxHeartbeats 4000000 in
set_option maxRecDepth 100000 in
theorem kc_xP_imported (l : Launch) (D : va_G) (ac : Nat → ClassId) (a0 : Nat) (gl : gl_T) (v0 : Option Nat) (v1 : Int32) (v2 : Int32) (st : st_S) (rF : Int32) (stF : st_S) (iT jT : Nat) (h : xP_imported gl v0 v1 v2 st = some (rF, stF, iT, jT)) :
    ct_ l ⟨"PromiseVats", "imported", "(II)I"⟩ (Cond.code ⟨"PromiseVats", "imported", "(II)I"⟩ prog_1_method_12_code 4 (Option.some FieldType.int) :: tb_) 1 21 D cl_ ac a0 (kn_ D ac a0 gl) [(va_rf v0), (.int v1), (.int v2)] st (vb_i rF) stF iT jT := by
  refine ct_of (kn_ok D ac a0 gl) (plainFor_of_name (by decide +kernel)) (by simp [rf_cat, ic_cat]) (by simp) ?_
  intro p e s m args below meth c ls X hw hKs hlk hret hnm hl
  unfold xP_imported at h
  have hl : lh_ ls 4 [(0, (va_rf v0)), (1, (.int v1)), (2, (.int v2))] := hl
  obtain ⟨z0, hz0⟩ : ∃ z : Nat, 0 = z := ⟨0, rfl⟩
  obtain ⟨z1, hz1⟩ : ∃ z : Nat, 0 = z := ⟨0, rfl⟩
  refine W.cs hz0 hz1 ?_
  have hci : z0 + iT = iT := by omega
  have hcj : z1 + jT = jT := by omega
  refine rr_aldn X dd_xP_imported_0 rfl (lv_at hl.1 0 rfl) ?_
  refine lv_iload_n X.1 X.2.1 dd_xP_imported_1 rfl (lv_at hl.1 2 rfl) ?_
  obtain ⟨t20, ht20, h⟩ := st_g_some h
  obtain ⟨t1, t2, t3, t4, t5, t6, ht1, h, ei, ej⟩ := st_b_some h
  refine rr_callV (n := 1) (As := [(.int v2)]) (rest := []) X hw (kn_ok D ac a0 gl) hKs (kc_xP_madeEntity l D ac a0 gl v0 v2 _ _ _ _ _ ht1) tb_good tw_422 tw_91 tw_423 tw_424 se_41 ht20 (by decide +kernel) rfl (show 0 + 1 ≤ _ ∧ 8 + (2 + 11) + 0 ≤ _ from ⟨Nat.le_of_ble_eq_true rfl, Nat.le_of_ble_eq_true rfl⟩) (show z0 + t3 ≤ iT ∧ z1 + t4 ≤ jT from ⟨ar_1 hci ei, ar_1 hcj ej⟩) hl.1.1 (by simp [rf_cat, ic_cat]) rfl dd_xP_imported_2 (sk := [(va_rf t1)]) rfl (fun H locs hw => ?_)
  have hci : z0 + t3 + t5 = iT := ar_2 hci ei
  have hcj : z1 + t4 + t6 = jT := ar_2 hcj ej
  clear ei ej
  generalize z0 + t3 = t7 at hci ⊢
  generalize z1 + t4 = t8 at hcj ⊢
  refine rr_astn (lv' := [(3, (va_rf t1)), (0, (va_rf v0)), (1, (.int v1)), (2, (.int v2))]) X dd_xP_imported_5 rfl hl (by decide) rfl (fun ls hl => ?_)
  refine rr_aldn X dd_xP_imported_6 rfl (lv_at hl.1 1 rfl) ?_
  refine lv_iload_n X.1 X.2.1 dd_xP_imported_7 rfl (lv_at hl.1 2 rfl) ?_
  obtain ⟨t19, ht19, h⟩ := st_g_some h
  obtain ⟨t9, t10, t11, t12, t13, t14, ht9, h, ei, ej⟩ := st_b_some h
  refine rr_callV (n := 1) (As := [(.int v1)]) (rest := []) X hw (kn_ok D ac a0 gl) hKs (kc_xP_isVat l D ac a0 gl v0 v1 _ _ _ _ _ ht9) tb_good tw_110 tw_91 tw_111 tw_112 se_0 ht19 (by decide +kernel) rfl (show 0 + 1 ≤ _ ∧ 8 + (2 + 11) + 0 ≤ _ from ⟨Nat.le_of_ble_eq_true rfl, Nat.le_of_ble_eq_true rfl⟩) (show t7 + t11 ≤ iT ∧ t8 + t12 ≤ jT from ⟨ar_1 hci ei, ar_1 hcj ej⟩) hl.1.1 (by simp [rf_cat, ic_cat]) rfl dd_xP_imported_8 (sk := [(.int t9)]) rfl (fun H locs hw => ?_)
  have hci : t7 + t11 + t13 = iT := ar_2 hci ei
  have hcj : t8 + t12 + t14 = jT := ar_2 hcj ej
  clear ei ej
  generalize t7 + t11 = t15 at hci ⊢
  generalize t8 + t12 = t16 at hcj ⊢
  by_cases hc11 : t9 = 0
  · rw [if_pos hc11] at h
    refine lv_if_eq (tgt := 27) X.1 X.2.1 dd_xP_imported_11 (by decide) (fun _ => ?_) (fun z => absurd hc11 z)
    exact (kb_xP_imported_b27 X hKs hlk hret hnm) () _ _ _ _ _ _ _ _ hw (lh_pk hl [] rfl) h hci hcj
  · rw [if_neg hc11] at h
    refine lv_if_eq (tgt := 27) X.1 X.2.1 dd_xP_imported_11 (by decide) (fun z => absurd z hc11) (fun _ => ?_)
    refine rr_aldn X dd_xP_imported_14 rfl (lv_at hl.1 0 rfl) ?_
    by_cases hc15 : t1 = none
    · rw [if_pos hc15] at h
      refine rr_ifnull (tgt := 27) X dd_xP_imported_15 (by decide) (fun _ => ?_) (fun z => absurd hc15 z)
      exact (kb_xP_imported_b27 X hKs hlk hret hnm) () _ _ _ _ _ _ _ _ hw (lh_pk hl [] rfl) h hci hcj
    · rw [if_neg hc15] at h
      refine rr_ifnull (tgt := 27) X dd_xP_imported_15 (by decide) (fun z => absurd z hc15) (fun _ => ?_)
      refine rr_aldn X dd_xP_imported_18 rfl (lv_at hl.1 0 rfl) ?_
      obtain ⟨t17, ht17, h⟩ := st_g_some h
      refine rr_getq X hw ff_3_4_8 ht17 tw_328 (Or.inl rfl) dd_xP_imported_19 ?_
      refine lv_iload_n X.1 X.2.1 dd_xP_imported_22 rfl (lv_at hl.1 2 rfl) ?_
      obtain ⟨t18, ht18, h⟩ := st_g_some h
      refine rr_iald (t := 0) X hw rfl ht18 dd_xP_imported_23 ?_
      refine lv_goto (tgt := 28) X.1 X.2.1 dd_xP_imported_24 (by decide) ?_
      obtain ⟨rfl, rfl, rfl, rfl⟩ := st_r_some h
      exact rr_iret X hw hlk hret rfl hci hcj dd_xP_imported_28
/-! PromiseVats.liveEntity(I)LPromiseVats$Entity; -/
theorem dd_xP_liveEntity_0 : decode prog_1_method_24_code 0 = .ok (.aload_n 0, 1) := by decide +kernel
theorem dd_xP_liveEntity_1 : decode prog_1_method_24_code 1 = .ok (.iload_n 1, 1) := by decide +kernel
theorem dd_xP_liveEntity_2 : decode prog_1_method_24_code 2 = .ok (.invokevirtual 210, 3) := by decide +kernel
theorem dd_xP_liveEntity_5 : decode prog_1_method_24_code 5 = .ok (.astore_n 2, 1) := by decide +kernel
theorem dd_xP_liveEntity_6 : decode prog_1_method_24_code 6 = .ok (.aload_n 2, 1) := by decide +kernel
theorem dd_xP_liveEntity_7 : decode prog_1_method_24_code 7 = .ok (.ifnull 10, 3) := by decide +kernel
theorem dd_xP_liveEntity_10 : decode prog_1_method_24_code 10 = .ok (.aload_n 2, 1) := by decide +kernel
theorem dd_xP_liveEntity_11 : decode prog_1_method_24_code 11 = .ok (.getfield 239, 3) := by decide +kernel
theorem dd_xP_liveEntity_14 : decode prog_1_method_24_code 14 = .ok (.ifCond .eq 7, 3) := by decide +kernel
theorem dd_xP_liveEntity_17 : decode prog_1_method_24_code 17 = .ok (.aconst_null, 1) := by decide +kernel
theorem dd_xP_liveEntity_18 : decode prog_1_method_24_code 18 = .ok (.goto 4, 3) := by decide +kernel
theorem dd_xP_liveEntity_21 : decode prog_1_method_24_code 21 = .ok (.aload_n 2, 1) := by decide +kernel
theorem dd_xP_liveEntity_22 : decode prog_1_method_24_code 22 = .ok (.areturn, 1) := by decide +kernel
set_option maxHeartbeats 4000000 in
set_option maxRecDepth 100000 in
theorem kb_xP_liveEntity_b17 {p : Program} {l : Launch} {e : Env} {s : State} {m : MethodId} {args : Array Value} {below : List Frame} {meth : Method} {c : Code} {D : va_G} {ac : Nat → ClassId} {a0 : Nat} {gl : gl_T} {rF : Option Nat} {stF : st_S} {iT jT : Nat}
    (X : cx_ p s m args c prog_1_method_24_code 3 "PromiseVats" tb_ D cl_ (ty_ ac)) (hKs : kn_ D ac a0 gl s) (hlk : meth.locks = false) (hret : meth.sig.returnType = (Option.some (FieldType.object "PromiseVats$Entity"))) (hnm : meth.name = "liveEntity") : wk_ p l e 1 21 s m args below meth c D cl_ ac a0 3 vb_q rF stF iT jT 17 (fun x : Unit => []) (fun x : Unit => []) (fun _ : Unit => xP_liveEntity_b17 gl) := by
  intro x st H locs cells slots i j ls hw hl h hci hcj
  have h : xP_liveEntity_b17 gl  st = some (rF, stF, i, j) := h
  unfold xP_liveEntity_b17 at h
  have hl : lh_ ls 3 [] := hl
  refine W.eq (g2 := F0 m 17 ls []) rfl ?_
  refine rr_null X dd_xP_liveEntity_17 ?_
  refine lv_goto (tgt := 22) X.1 X.2.1 dd_xP_liveEntity_18 (by decide) ?_
  obtain ⟨rfl, rfl, rfl, rfl⟩ := st_r_some h
  exact rr_aret X hw hlk hret (Or.inl ⟨_, rfl⟩) hci hcj dd_xP_liveEntity_22
set_option maxHeartbeats 4000000 in
set_option maxRecDepth 100000 in
theorem kc_xP_liveEntity (l : Launch) (D : va_G) (ac : Nat → ClassId) (a0 : Nat) (gl : gl_T) (v0 : Option Nat) (v1 : Int32) (st : st_S) (rF : Option Nat) (stF : st_S) (iT jT : Nat) (h : xP_liveEntity gl v0 v1 st = some (rF, stF, iT, jT)) :
    ct_ l ⟨"PromiseVats", "liveEntity", "(I)LPromiseVats$Entity;"⟩ (Cond.code ⟨"PromiseVats", "liveEntity", "(I)LPromiseVats$Entity;"⟩ prog_1_method_24_code 3 (Option.some (FieldType.object "PromiseVats$Entity")) :: tb_) 1 21 D cl_ ac a0 (kn_ D ac a0 gl) [(va_rf v0), (.int v1)] st (vb_q rF) stF iT jT := by
  refine ct_of (kn_ok D ac a0 gl) (plainFor_of_name (by decide +kernel)) (by simp [rf_cat, ic_cat]) (by simp) ?_
  intro p e s m args below meth c ls X hw hKs hlk hret hnm hl
  unfold xP_liveEntity at h
  have hl : lh_ ls 3 [(0, (va_rf v0)), (1, (.int v1))] := hl
  obtain ⟨z0, hz0⟩ : ∃ z : Nat, 0 = z := ⟨0, rfl⟩
  obtain ⟨z1, hz1⟩ : ∃ z : Nat, 0 = z := ⟨0, rfl⟩
  refine W.cs hz0 hz1 ?_
  have hci : z0 + iT = iT := by omega
  have hcj : z1 + jT = jT := by omega
  refine rr_aldn X dd_xP_liveEntity_0 rfl (lv_at hl.1 0 rfl) ?_
  refine lv_iload_n X.1 X.2.1 dd_xP_liveEntity_1 rfl (lv_at hl.1 1 rfl) ?_
  obtain ⟨t10, ht10, h⟩ := st_g_some h
  obtain ⟨t1, t2, t3, t4, t5, t6, ht1, h, ei, ej⟩ := st_b_some h
  refine rr_callV (n := 1) (As := [(.int v1)]) (rest := []) X hw (kn_ok D ac a0 gl) hKs (kc_xP_madeEntity l D ac a0 gl v0 v1 _ _ _ _ _ ht1) tb_good tw_422 tw_91 tw_423 tw_424 se_41 ht10 (by decide +kernel) rfl (show 0 + 1 ≤ _ ∧ 8 + (2 + 11) + 0 ≤ _ from ⟨Nat.le_of_ble_eq_true rfl, Nat.le_of_ble_eq_true rfl⟩) (show z0 + t3 ≤ iT ∧ z1 + t4 ≤ jT from ⟨ar_1 hci ei, ar_1 hcj ej⟩) hl.1.1 (by simp [rf_cat, ic_cat]) rfl dd_xP_liveEntity_2 (sk := [(va_rf t1)]) rfl (fun H locs hw => ?_)
  have hci : z0 + t3 + t5 = iT := ar_2 hci ei
  have hcj : z1 + t4 + t6 = jT := ar_2 hcj ej
  clear ei ej
  generalize z0 + t3 = t7 at hci ⊢
  generalize z1 + t4 = t8 at hcj ⊢
  refine rr_astn (lv' := [(2, (va_rf t1)), (0, (va_rf v0)), (1, (.int v1))]) X dd_xP_liveEntity_5 rfl hl (by decide) rfl (fun ls hl => ?_)
  refine rr_aldn X dd_xP_liveEntity_6 rfl (lv_at hl.1 0 rfl) ?_
  by_cases hc7 : t1 = none
  · rw [if_pos hc7] at h
    refine rr_ifnull (tgt := 17) X dd_xP_liveEntity_7 (by decide) (fun _ => ?_) (fun z => absurd hc7 z)
    exact (kb_xP_liveEntity_b17 X hKs hlk hret hnm) () _ _ _ _ _ _ _ _ hw (lh_pk hl [] rfl) h hci hcj
  · rw [if_neg hc7] at h
    refine rr_ifnull (tgt := 17) X dd_xP_liveEntity_7 (by decide) (fun z => absurd z hc7) (fun _ => ?_)
    refine rr_aldn X dd_xP_liveEntity_10 rfl (lv_at hl.1 0 rfl) ?_
    obtain ⟨t9, ht9, h⟩ := st_g_some h
    refine rr_geti X hw ff_3_4_5 ht9 tw_386 (Or.inl rfl) dd_xP_liveEntity_11 ?_
    by_cases hc14 : t9 = 0
    · rw [if_pos hc14] at h
      refine lv_if_eq (tgt := 21) X.1 X.2.1 dd_xP_liveEntity_14 (by decide) (fun _ => ?_) (fun z => absurd hc14 z)
      refine rr_aldn X dd_xP_liveEntity_21 rfl (lv_at hl.1 0 rfl) ?_
      obtain ⟨rfl, rfl, rfl, rfl⟩ := st_r_some h
      exact rr_aret X hw hlk hret (Or.inl ⟨_, rfl⟩) hci hcj dd_xP_liveEntity_22
    · rw [if_neg hc14] at h
      refine lv_if_eq (tgt := 21) X.1 X.2.1 dd_xP_liveEntity_14 (by decide) (fun z => absurd z hc14) (fun _ => ?_)
      exact (kb_xP_liveEntity_b17 X hKs hlk hret hnm) () _ _ _ _ _ _ _ _ hw (lh_pk hl [] rfl) h hci hcj
/-! PromiseVats.exported(II)I -/
theorem dd_xP_exported_0 : decode prog_1_method_13_code 0 = .ok (.aload_n 0, 1) := by decide +kernel
theorem dd_xP_exported_1 : decode prog_1_method_13_code 1 = .ok (.iload_n 1, 1) := by decide +kernel
theorem dd_xP_exported_2 : decode prog_1_method_13_code 2 = .ok (.invokevirtual 215, 3) := by decide +kernel
theorem dd_xP_exported_5 : decode prog_1_method_13_code 5 = .ok (.astore_n 3, 1) := by decide +kernel
theorem dd_xP_exported_6 : decode prog_1_method_13_code 6 = .ok (.aload_n 0, 1) := by decide +kernel
theorem dd_xP_exported_7 : decode prog_1_method_13_code 7 = .ok (.iload_n 2, 1) := by decide +kernel
theorem dd_xP_exported_8 : decode prog_1_method_13_code 8 = .ok (.invokevirtual 83, 3) := by decide +kernel
theorem dd_xP_exported_11 : decode prog_1_method_13_code 11 = .ok (.ifCond .eq 16, 3) := by decide +kernel
theorem dd_xP_exported_14 : decode prog_1_method_13_code 14 = .ok (.aload_n 3, 1) := by decide +kernel
theorem dd_xP_exported_15 : decode prog_1_method_13_code 15 = .ok (.ifnull 12, 3) := by decide +kernel
theorem dd_xP_exported_18 : decode prog_1_method_13_code 18 = .ok (.aload_n 3, 1) := by decide +kernel
theorem dd_xP_exported_19 : decode prog_1_method_13_code 19 = .ok (.getfield 218, 3) := by decide +kernel
theorem dd_xP_exported_22 : decode prog_1_method_13_code 22 = .ok (.iload_n 2, 1) := by decide +kernel
theorem dd_xP_exported_23 : decode prog_1_method_13_code 23 = .ok (.iaload, 1) := by decide +kernel
theorem dd_xP_exported_24 : decode prog_1_method_13_code 24 = .ok (.goto 4, 3) := by decide +kernel
theorem dd_xP_exported_27 : decode prog_1_method_13_code 27 = .ok (.iconst 0, 1) := by decide +kernel
theorem dd_xP_exported_28 : decode prog_1_method_13_code 28 = .ok (.ireturn, 1) := by decide +kernel
set_option maxHeartbeats 4000000 in
set_option maxRecDepth 100000 in
theorem kb_xP_exported_b27 {p : Program} {l : Launch} {e : Env} {s : State} {m : MethodId} {args : Array Value} {below : List Frame} {meth : Method} {c : Code} {D : va_G} {ac : Nat → ClassId} {a0 : Nat} {gl : gl_T} {rF : Int32} {stF : st_S} {iT jT : Nat}
    (X : cx_ p s m args c prog_1_method_13_code 4 "PromiseVats" tb_ D cl_ (ty_ ac)) (hKs : kn_ D ac a0 gl s) (hlk : meth.locks = false) (hret : meth.sig.returnType = (Option.some FieldType.int)) (hnm : meth.name = "exported") : wk_ p l e 2 43 s m args below meth c D cl_ ac a0 4 vb_i rF stF iT jT 27 (fun x : Unit => []) (fun x : Unit => []) (fun _ : Unit => xP_exported_b27 gl) := by
  intro x st H locs cells slots i j ls hw hl h hci hcj
  have h : xP_exported_b27 gl  st = some (rF, stF, i, j) := h
  unfold xP_exported_b27 at h
  have hl : lh_ ls 4 [] := hl
  refine W.eq (g2 := F0 m 27 ls []) rfl ?_
  refine lv_iconst (v := (0 : Int32)) X.1 X.2.1 dd_xP_exported_27 (by decide) ?_
  obtain ⟨rfl, rfl, rfl, rfl⟩ := st_r_some h
  exact rr_iret X hw hlk hret rfl hci hcj dd_xP_exported_28
set_option maxHeartbeats 4000000 in
set_option maxRecDepth 100000 in
theorem kc_xP_exported (l : Launch) (D : va_G) (ac : Nat → ClassId) (a0 : Nat) (gl : gl_T) (v0 : Option Nat) (v1 : Int32) (v2 : Int32) (st : st_S) (rF : Int32) (stF : st_S) (iT jT : Nat) (h : xP_exported gl v0 v1 v2 st = some (rF, stF, iT, jT)) :
    ct_ l ⟨"PromiseVats", "exported", "(II)I"⟩ (Cond.code ⟨"PromiseVats", "exported", "(II)I"⟩ prog_1_method_13_code 4 (Option.some FieldType.int) :: tb_) 2 43 D cl_ ac a0 (kn_ D ac a0 gl) [(va_rf v0), (.int v1), (.int v2)] st (vb_i rF) stF iT jT := by
  refine ct_of (kn_ok D ac a0 gl) (plainFor_of_name (by decide +kernel)) (by simp [rf_cat, ic_cat]) (by simp) ?_
  intro p e s m args below meth c ls X hw hKs hlk hret hnm hl
  unfold xP_exported at h
  have hl : lh_ ls 4 [(0, (va_rf v0)), (1, (.int v1)), (2, (.int v2))] := hl
  obtain ⟨z0, hz0⟩ : ∃ z : Nat, 0 = z := ⟨0, rfl⟩
  obtain ⟨z1, hz1⟩ : ∃ z : Nat, 0 = z := ⟨0, rfl⟩
  refine W.cs hz0 hz1 ?_
  have hci : z0 + iT = iT := by omega
  have hcj : z1 + jT = jT := by omega
  refine rr_aldn X dd_xP_exported_0 rfl (lv_at hl.1 0 rfl) ?_
  refine lv_iload_n X.1 X.2.1 dd_xP_exported_1 rfl (lv_at hl.1 1 rfl) ?_
  obtain ⟨t20, ht20, h⟩ := st_g_some h
  obtain ⟨t1, t2, t3, t4, t5, t6, ht1, h, ei, ej⟩ := st_b_some h
  refine rr_callV (n := 1) (As := [(.int v1)]) (rest := []) X hw (kn_ok D ac a0 gl) hKs (kc_xP_liveEntity l D ac a0 gl v0 v1 _ _ _ _ _ ht1) tb_good tw_426 tw_91 tw_427 tw_428 se_42 ht20 (by decide +kernel) rfl (show 1 + 1 ≤ _ ∧ 8 + (3 + 11) + 21 ≤ _ from ⟨Nat.le_of_ble_eq_true rfl, Nat.le_of_ble_eq_true rfl⟩) (show z0 + t3 ≤ iT ∧ z1 + t4 ≤ jT from ⟨ar_1 hci ei, ar_1 hcj ej⟩) hl.1.1 (by simp [rf_cat, ic_cat]) rfl dd_xP_exported_2 (sk := [(va_rf t1)]) rfl (fun H locs hw => ?_)
  have hci : z0 + t3 + t5 = iT := ar_2 hci ei
  have hcj : z1 + t4 + t6 = jT := ar_2 hcj ej
  clear ei ej
  generalize z0 + t3 = t7 at hci ⊢
  generalize z1 + t4 = t8 at hcj ⊢
  refine rr_astn (lv' := [(3, (va_rf t1)), (0, (va_rf v0)), (1, (.int v1)), (2, (.int v2))]) X dd_xP_exported_5 rfl hl (by decide) rfl (fun ls hl => ?_)
  refine rr_aldn X dd_xP_exported_6 rfl (lv_at hl.1 1 rfl) ?_
  refine lv_iload_n X.1 X.2.1 dd_xP_exported_7 rfl (lv_at hl.1 3 rfl) ?_
  obtain ⟨t19, ht19, h⟩ := st_g_some h
  obtain ⟨t9, t10, t11, t12, t13, t14, ht9, h, ei, ej⟩ := st_b_some h
  refine rr_callV (n := 1) (As := [(.int v2)]) (rest := []) X hw (kn_ok D ac a0 gl) hKs (kc_xP_isVat l D ac a0 gl v0 v2 _ _ _ _ _ ht9) tb_good tw_110 tw_91 tw_111 tw_112 se_0 ht19 (by decide +kernel) rfl (show 0 + 1 ≤ _ ∧ 8 + (2 + 11) + 0 ≤ _ from ⟨Nat.le_of_ble_eq_true rfl, Nat.le_of_ble_eq_true rfl⟩) (show t7 + t11 ≤ iT ∧ t8 + t12 ≤ jT from ⟨ar_1 hci ei, ar_1 hcj ej⟩) hl.1.1 (by simp [rf_cat, ic_cat]) rfl dd_xP_exported_8 (sk := [(.int t9)]) rfl (fun H locs hw => ?_)
  have hci : t7 + t11 + t13 = iT := ar_2 hci ei
  have hcj : t8 + t12 + t14 = jT := ar_2 hcj ej
  clear ei ej
  generalize t7 + t11 = t15 at hci ⊢
  generalize t8 + t12 = t16 at hcj ⊢
  by_cases hc11 : t9 = 0
  · rw [if_pos hc11] at h
    refine lv_if_eq (tgt := 27) X.1 X.2.1 dd_xP_exported_11 (by decide) (fun _ => ?_) (fun z => absurd hc11 z)
    exact (kb_xP_exported_b27 X hKs hlk hret hnm) () _ _ _ _ _ _ _ _ hw (lh_pk hl [] rfl) h hci hcj
  · rw [if_neg hc11] at h
    refine lv_if_eq (tgt := 27) X.1 X.2.1 dd_xP_exported_11 (by decide) (fun z => absurd z hc11) (fun _ => ?_)
    refine rr_aldn X dd_xP_exported_14 rfl (lv_at hl.1 0 rfl) ?_
    by_cases hc15 : t1 = none
    · rw [if_pos hc15] at h
      refine rr_ifnull (tgt := 27) X dd_xP_exported_15 (by decide) (fun _ => ?_) (fun z => absurd hc15 z)
      exact (kb_xP_exported_b27 X hKs hlk hret hnm) () _ _ _ _ _ _ _ _ hw (lh_pk hl [] rfl) h hci hcj
    · rw [if_neg hc15] at h
      refine rr_ifnull (tgt := 27) X dd_xP_exported_15 (by decide) (fun z => absurd z hc15) (fun _ => ?_)
      refine rr_aldn X dd_xP_exported_18 rfl (lv_at hl.1 0 rfl) ?_
      obtain ⟨t17, ht17, h⟩ := st_g_some h
      refine rr_getq X hw ff_3_4_7 ht17 tw_185 (Or.inl rfl) dd_xP_exported_19 ?_
      refine lv_iload_n X.1 X.2.1 dd_xP_exported_22 rfl (lv_at hl.1 3 rfl) ?_
      obtain ⟨t18, ht18, h⟩ := st_g_some h
      refine rr_iald (t := 0) X hw rfl ht18 dd_xP_exported_23 ?_
      refine lv_goto (tgt := 28) X.1 X.2.1 dd_xP_exported_24 (by decide) ?_
      obtain ⟨rfl, rfl, rfl, rfl⟩ := st_r_some h
      exact rr_iret X hw hlk hret rfl hci hcj dd_xP_exported_28
/-! PromiseVats.home(I)I -/
theorem dd_xP_home_0 : decode prog_1_method_14_code 0 = .ok (.aload_n 0, 1) := by decide +kernel
theorem dd_xP_home_1 : decode prog_1_method_14_code 1 = .ok (.iload_n 1, 1) := by decide +kernel
theorem dd_xP_home_2 : decode prog_1_method_14_code 2 = .ok (.invokevirtual 215, 3) := by decide +kernel
theorem dd_xP_home_5 : decode prog_1_method_14_code 5 = .ok (.astore_n 2, 1) := by decide +kernel
theorem dd_xP_home_6 : decode prog_1_method_14_code 6 = .ok (.aload_n 2, 1) := by decide +kernel
theorem dd_xP_home_7 : decode prog_1_method_14_code 7 = .ok (.ifnonnull 7, 3) := by decide +kernel
theorem dd_xP_home_10 : decode prog_1_method_14_code 10 = .ok (.iconst (-1), 1) := by decide +kernel
theorem dd_xP_home_11 : decode prog_1_method_14_code 11 = .ok (.goto 7, 3) := by decide +kernel
theorem dd_xP_home_14 : decode prog_1_method_14_code 14 = .ok (.aload_n 2, 1) := by decide +kernel
theorem dd_xP_home_15 : decode prog_1_method_14_code 15 = .ok (.getfield 219, 3) := by decide +kernel
theorem dd_xP_home_18 : decode prog_1_method_14_code 18 = .ok (.ireturn, 1) := by decide +kernel
set_option maxHeartbeats 4000000 in
set_option maxRecDepth 100000 in
theorem kc_xP_home (l : Launch) (D : va_G) (ac : Nat → ClassId) (a0 : Nat) (gl : gl_T) (v0 : Option Nat) (v1 : Int32) (st : st_S) (rF : Int32) (stF : st_S) (iT jT : Nat) (h : xP_home gl v0 v1 st = some (rF, stF, iT, jT)) :
    ct_ l ⟨"PromiseVats", "home", "(I)I"⟩ (Cond.code ⟨"PromiseVats", "home", "(I)I"⟩ prog_1_method_14_code 3 (Option.some FieldType.int) :: tb_) 2 43 D cl_ ac a0 (kn_ D ac a0 gl) [(va_rf v0), (.int v1)] st (vb_i rF) stF iT jT := by
  refine ct_of (kn_ok D ac a0 gl) (plainFor_of_name (by decide +kernel)) (by simp [rf_cat, ic_cat]) (by simp) ?_
  intro p e s m args below meth c ls X hw hKs hlk hret hnm hl
  unfold xP_home at h
  have hl : lh_ ls 3 [(0, (va_rf v0)), (1, (.int v1))] := hl
  obtain ⟨z0, hz0⟩ : ∃ z : Nat, 0 = z := ⟨0, rfl⟩
  obtain ⟨z1, hz1⟩ : ∃ z : Nat, 0 = z := ⟨0, rfl⟩
  refine W.cs hz0 hz1 ?_
  have hci : z0 + iT = iT := by omega
  have hcj : z1 + jT = jT := by omega
  refine rr_aldn X dd_xP_home_0 rfl (lv_at hl.1 0 rfl) ?_
  refine lv_iload_n X.1 X.2.1 dd_xP_home_1 rfl (lv_at hl.1 1 rfl) ?_
  obtain ⟨t10, ht10, h⟩ := st_g_some h
  obtain ⟨t1, t2, t3, t4, t5, t6, ht1, h, ei, ej⟩ := st_b_some h
  refine rr_callV (n := 1) (As := [(.int v1)]) (rest := []) X hw (kn_ok D ac a0 gl) hKs (kc_xP_liveEntity l D ac a0 gl v0 v1 _ _ _ _ _ ht1) tb_good tw_426 tw_91 tw_427 tw_428 se_42 ht10 (by decide +kernel) rfl (show 1 + 1 ≤ _ ∧ 8 + (3 + 11) + 21 ≤ _ from ⟨Nat.le_of_ble_eq_true rfl, Nat.le_of_ble_eq_true rfl⟩) (show z0 + t3 ≤ iT ∧ z1 + t4 ≤ jT from ⟨ar_1 hci ei, ar_1 hcj ej⟩) hl.1.1 (by simp [rf_cat, ic_cat]) rfl dd_xP_home_2 (sk := [(va_rf t1)]) rfl (fun H locs hw => ?_)
  have hci : z0 + t3 + t5 = iT := ar_2 hci ei
  have hcj : z1 + t4 + t6 = jT := ar_2 hcj ej
  clear ei ej
  generalize z0 + t3 = t7 at hci ⊢
  generalize z1 + t4 = t8 at hcj ⊢
  refine rr_astn (lv' := [(2, (va_rf t1)), (0, (va_rf v0)), (1, (.int v1))]) X dd_xP_home_5 rfl hl (by decide) rfl (fun ls hl => ?_)
  refine rr_aldn X dd_xP_home_6 rfl (lv_at hl.1 0 rfl) ?_
  by_cases hc7 : t1 = none
  · rw [if_pos hc7] at h
    refine rr_ifnonnull (tgt := 14) X dd_xP_home_7 (by decide) (fun z => absurd hc7 z) (fun _ => ?_)
    refine lv_iconst (v := (-1 : Int32)) X.1 X.2.1 dd_xP_home_10 (by decide) ?_
    refine lv_goto (tgt := 18) X.1 X.2.1 dd_xP_home_11 (by decide) ?_
    obtain ⟨rfl, rfl, rfl, rfl⟩ := st_r_some h
    exact rr_iret X hw hlk hret rfl hci hcj dd_xP_home_18
  · rw [if_neg hc7] at h
    refine rr_ifnonnull (tgt := 14) X dd_xP_home_7 (by decide) (fun _ => ?_) (fun z => absurd z hc7)
    refine rr_aldn X dd_xP_home_14 rfl (lv_at hl.1 0 rfl) ?_
    obtain ⟨t9, ht9, h⟩ := st_g_some h
    refine rr_geti X hw ff_3_4_4 ht9 tw_196 (Or.inl rfl) dd_xP_home_15 ?_
    obtain ⟨rfl, rfl, rfl, rfl⟩ := st_r_some h
    exact rr_iret X hw hlk hret rfl hci hcj dd_xP_home_18
/-! PromiseVats.referenceTo(LPromiseVats$Entity;)I -/
theorem dd_xP_referenceTo_0 : decode prog_1_method_25_code 0 = .ok (.aload_n 0, 1) := by decide +kernel
theorem dd_xP_referenceTo_1 : decode prog_1_method_25_code 1 = .ok (.ifnonnull 7, 3) := by decide +kernel
theorem dd_xP_referenceTo_4 : decode prog_1_method_25_code 4 = .ok (.iconst 0, 1) := by decide +kernel
theorem dd_xP_referenceTo_5 : decode prog_1_method_25_code 5 = .ok (.goto 7, 3) := by decide +kernel
theorem dd_xP_referenceTo_8 : decode prog_1_method_25_code 8 = .ok (.aload_n 0, 1) := by decide +kernel
theorem dd_xP_referenceTo_9 : decode prog_1_method_25_code 9 = .ok (.getfield 242, 3) := by decide +kernel
theorem dd_xP_referenceTo_12 : decode prog_1_method_25_code 12 = .ok (.ireturn, 1) := by decide +kernel
set_option maxHeartbeats 4000000 in
set_option maxRecDepth 100000 in
theorem kc_xP_referenceTo (l : Launch) (D : va_G) (ac : Nat → ClassId) (a0 : Nat) (gl : gl_T) (v0 : Option Nat) (st : st_S) (rF : Int32) (stF : st_S) (iT jT : Nat) (h : xP_referenceTo gl v0 st = some (rF, stF, iT, jT)) :
    ct_ l ⟨"PromiseVats", "referenceTo", "(LPromiseVats$Entity;)I"⟩ (Cond.code ⟨"PromiseVats", "referenceTo", "(LPromiseVats$Entity;)I"⟩ prog_1_method_25_code 1 (Option.some FieldType.int) :: tb_) 0 0 D cl_ ac a0 (kn_ D ac a0 gl) [(va_rf v0)] st (vb_i rF) stF iT jT := by
  refine ct_of (kn_ok D ac a0 gl) (plainFor_of_name (by decide +kernel)) (by simp [rf_cat, ic_cat]) (by simp) ?_
  intro p e s m args below meth c ls X hw hKs hlk hret hnm hl
  unfold xP_referenceTo at h
  have hl : lh_ ls 1 [(0, (va_rf v0))] := hl
  obtain ⟨z0, hz0⟩ : ∃ z : Nat, 0 = z := ⟨0, rfl⟩
  obtain ⟨z1, hz1⟩ : ∃ z : Nat, 0 = z := ⟨0, rfl⟩
  refine W.cs hz0 hz1 ?_
  have hci : z0 + iT = iT := by omega
  have hcj : z1 + jT = jT := by omega
  refine rr_aldn X dd_xP_referenceTo_0 rfl (lv_at hl.1 0 rfl) ?_
  by_cases hc1 : v0 = none
  · rw [if_pos hc1] at h
    refine rr_ifnonnull (tgt := 8) X dd_xP_referenceTo_1 (by decide) (fun z => absurd hc1 z) (fun _ => ?_)
    refine lv_iconst (v := (0 : Int32)) X.1 X.2.1 dd_xP_referenceTo_4 (by decide) ?_
    refine lv_goto (tgt := 12) X.1 X.2.1 dd_xP_referenceTo_5 (by decide) ?_
    obtain ⟨rfl, rfl, rfl, rfl⟩ := st_r_some h
    exact rr_iret X hw hlk hret rfl hci hcj dd_xP_referenceTo_12
  · rw [if_neg hc1] at h
    refine rr_ifnonnull (tgt := 8) X dd_xP_referenceTo_1 (by decide) (fun _ => ?_) (fun z => absurd z hc1)
    refine rr_aldn X dd_xP_referenceTo_8 rfl (lv_at hl.1 0 rfl) ?_
    obtain ⟨t1, ht1, h⟩ := st_g_some h
    refine rr_geti X hw ff_3_4_3 ht1 tw_430 (Or.inl rfl) dd_xP_referenceTo_9 ?_
    obtain ⟨rfl, rfl, rfl, rfl⟩ := st_r_some h
    exact rr_iret X hw hlk hret rfl hci hcj dd_xP_referenceTo_12
/-! PromiseVats.slot(II)I -/
theorem dd_xP_slot_0 : decode prog_1_method_15_code 0 = .ok (.iload_n 2, 1) := by decide +kernel
theorem dd_xP_slot_1 : decode prog_1_method_15_code 1 = .ok (.invokestatic 86, 3) := by decide +kernel
theorem dd_xP_slot_4 : decode prog_1_method_15_code 4 = .ok (.ifCond .eq 34, 3) := by decide +kernel
theorem dd_xP_slot_7 : decode prog_1_method_15_code 7 = .ok (.aload_n 0, 1) := by decide +kernel
theorem dd_xP_slot_8 : decode prog_1_method_15_code 8 = .ok (.iload_n 1, 1) := by decide +kernel
theorem dd_xP_slot_9 : decode prog_1_method_15_code 9 = .ok (.invokevirtual 215, 3) := by decide +kernel
theorem dd_xP_slot_12 : decode prog_1_method_15_code 12 = .ok (.astore 4, 2) := by decide +kernel
theorem dd_xP_slot_14 : decode prog_1_method_15_code 14 = .ok (.aload 4, 2) := by decide +kernel
theorem dd_xP_slot_16 : decode prog_1_method_15_code 16 = .ok (.instanceof 53, 3) := by decide +kernel
theorem dd_xP_slot_19 : decode prog_1_method_15_code 19 = .ok (.ifCond .eq 19, 3) := by decide +kernel
theorem dd_xP_slot_22 : decode prog_1_method_15_code 22 = .ok (.aload 4, 2) := by decide +kernel
theorem dd_xP_slot_24 : decode prog_1_method_15_code 24 = .ok (.checkcast 53, 3) := by decide +kernel
theorem dd_xP_slot_27 : decode prog_1_method_15_code 27 = .ok (.astore_n 3, 1) := by decide +kernel
theorem dd_xP_slot_28 : decode prog_1_method_15_code 28 = .ok (.aload_n 3, 1) := by decide +kernel
theorem dd_xP_slot_29 : decode prog_1_method_15_code 29 = .ok (.getfield 93, 3) := by decide +kernel
theorem dd_xP_slot_32 : decode prog_1_method_15_code 32 = .ok (.iload_n 2, 1) := by decide +kernel
theorem dd_xP_slot_33 : decode prog_1_method_15_code 33 = .ok (.aaload, 1) := by decide +kernel
theorem dd_xP_slot_34 : decode prog_1_method_15_code 34 = .ok (.invokestatic 222, 3) := by decide +kernel
theorem dd_xP_slot_37 : decode prog_1_method_15_code 37 = .ok (.ireturn, 1) := by decide +kernel
theorem dd_xP_slot_38 : decode prog_1_method_15_code 38 = .ok (.iconst 0, 1) := by decide +kernel
theorem dd_xP_slot_39 : decode prog_1_method_15_code 39 = .ok (.ireturn, 1) := by decide +kernel
set_option maxHeartbeats 4000000 in
set_option maxRecDepth 100000 in
theorem kb_xP_slot_b38 {p : Program} {l : Launch} {e : Env} {s : State} {m : MethodId} {args : Array Value} {below : List Frame} {meth : Method} {c : Code} {D : va_G} {ac : Nat → ClassId} {a0 : Nat} {gl : gl_T} {rF : Int32} {stF : st_S} {iT jT : Nat}
    (X : cx_ p s m args c prog_1_method_15_code 5 "PromiseVats" tb_ D cl_ (ty_ ac)) (hKs : kn_ D ac a0 gl s) (hlk : meth.locks = false) (hret : meth.sig.returnType = (Option.some FieldType.int)) (hnm : meth.name = "slot") : wk_ p l e 2 43 s m args below meth c D cl_ ac a0 5 vb_i rF stF iT jT 38 (fun x : Unit => []) (fun x : Unit => []) (fun _ : Unit => xP_slot_b38 gl) := by
  intro x st H locs cells slots i j ls hw hl h hci hcj
  have h : xP_slot_b38 gl  st = some (rF, stF, i, j) := h
  unfold xP_slot_b38 at h
  have hl : lh_ ls 5 [] := hl
  refine W.eq (g2 := F0 m 38 ls []) rfl ?_
  refine lv_iconst (v := (0 : Int32)) X.1 X.2.1 dd_xP_slot_38 (by decide) ?_
  obtain ⟨rfl, rfl, rfl, rfl⟩ := st_r_some h
  exact rr_iret X hw hlk hret rfl hci hcj dd_xP_slot_39
set_option maxHeartbeats 4000000 in
set_option maxRecDepth 100000 in
theorem kc_xP_slot (l : Launch) (D : va_G) (ac : Nat → ClassId) (a0 : Nat) (gl : gl_T) (v0 : Option Nat) (v1 : Int32) (v2 : Int32) (st : st_S) (rF : Int32) (stF : st_S) (iT jT : Nat) (h : xP_slot gl v0 v1 v2 st = some (rF, stF, iT, jT)) :
    ct_ l ⟨"PromiseVats", "slot", "(II)I"⟩ (Cond.code ⟨"PromiseVats", "slot", "(II)I"⟩ prog_1_method_15_code 5 (Option.some FieldType.int) :: tb_) 2 43 D cl_ ac a0 (kn_ D ac a0 gl) [(va_rf v0), (.int v1), (.int v2)] st (vb_i rF) stF iT jT := by
  refine ct_of (kn_ok D ac a0 gl) (plainFor_of_name (by decide +kernel)) (by simp [rf_cat, ic_cat]) (by simp) ?_
  intro p e s m args below meth c ls X hw hKs hlk hret hnm hl
  unfold xP_slot at h
  have hl : lh_ ls 5 [(0, (va_rf v0)), (1, (.int v1)), (2, (.int v2))] := hl
  obtain ⟨z0, hz0⟩ : ∃ z : Nat, 0 = z := ⟨0, rfl⟩
  obtain ⟨z1, hz1⟩ : ∃ z : Nat, 0 = z := ⟨0, rfl⟩
  refine W.cs hz0 hz1 ?_
  have hci : z0 + iT = iT := by omega
  have hcj : z1 + jT = jT := by omega
  refine lv_iload_n X.1 X.2.1 dd_xP_slot_0 rfl (lv_at hl.1 2 rfl) ?_
  obtain ⟨t1, t2, t3, t4, t5, t6, ht1, h, ei, ej⟩ := st_b_some h
  refine rr_callS (n := 1) (As := [(.int v2)]) (rest := []) X hw (kn_ok D ac a0 gl) hKs (kc_xP_isSlot l D ac a0 gl v2 _ _ _ _ _ ht1) tb_good tw_95 tw_91 tw_96 tw_97 (by decide +kernel) rfl (show 0 + 1 ≤ _ ∧ 8 + (1 + 11) + 0 ≤ _ from ⟨Nat.le_of_ble_eq_true rfl, Nat.le_of_ble_eq_true rfl⟩) (show z0 + t3 ≤ iT ∧ z1 + t4 ≤ jT from ⟨ar_1 hci ei, ar_1 hcj ej⟩) hl.1.1 (by simp [rf_cat, ic_cat]) rfl dd_xP_slot_1 (sk := [(.int t1)]) rfl (fun H locs hw => ?_)
  have hci : z0 + t3 + t5 = iT := ar_2 hci ei
  have hcj : z1 + t4 + t6 = jT := ar_2 hcj ej
  clear ei ej
  generalize z0 + t3 = t7 at hci ⊢
  generalize z1 + t4 = t8 at hcj ⊢
  by_cases hc4 : t1 = 0
  · rw [if_pos hc4] at h
    refine lv_if_eq (tgt := 38) X.1 X.2.1 dd_xP_slot_4 (by decide) (fun _ => ?_) (fun z => absurd hc4 z)
    exact (kb_xP_slot_b38 X hKs hlk hret hnm) () _ _ _ _ _ _ _ _ hw (lh_pk hl [] rfl) h hci hcj
  · rw [if_neg hc4] at h
    refine lv_if_eq (tgt := 38) X.1 X.2.1 dd_xP_slot_4 (by decide) (fun z => absurd z hc4) (fun _ => ?_)
    refine rr_aldn X dd_xP_slot_7 rfl (lv_at hl.1 0 rfl) ?_
    refine lv_iload_n X.1 X.2.1 dd_xP_slot_8 rfl (lv_at hl.1 1 rfl) ?_
    obtain ⟨t29, ht29, h⟩ := st_g_some h
    obtain ⟨t9, t10, t11, t12, t13, t14, ht9, h, ei, ej⟩ := st_b_some h
    refine rr_callV (n := 1) (As := [(.int v1)]) (rest := []) X hw (kn_ok D ac a0 gl) hKs (kc_xP_liveEntity l D ac a0 gl v0 v1 _ _ _ _ _ ht9) tb_good tw_426 tw_91 tw_427 tw_428 se_42 ht29 (by decide +kernel) rfl (show 1 + 1 ≤ _ ∧ 8 + (3 + 11) + 21 ≤ _ from ⟨Nat.le_of_ble_eq_true rfl, Nat.le_of_ble_eq_true rfl⟩) (show t7 + t11 ≤ iT ∧ t8 + t12 ≤ jT from ⟨ar_1 hci ei, ar_1 hcj ej⟩) hl.1.1 (by simp [rf_cat, ic_cat]) rfl dd_xP_slot_9 (sk := [(va_rf t9)]) rfl (fun H locs hw => ?_)
    have hci : t7 + t11 + t13 = iT := ar_2 hci ei
    have hcj : t8 + t12 + t14 = jT := ar_2 hcj ej
    clear ei ej
    generalize t7 + t11 = t15 at hci ⊢
    generalize t8 + t12 = t16 at hcj ⊢
    refine rr_ast (lv' := [(4, (va_rf t9)), (0, (va_rf v0)), (1, (.int v1)), (2, (.int v2))]) X dd_xP_slot_12 hl (by decide) rfl (fun ls hl => ?_)
    refine rr_ald X dd_xP_slot_14 (lv_at hl.1 0 rfl) ?_
    obtain ⟨t17, ht17, h⟩ := st_g_some h
    refine rr_inst X hw (ti_O_y hKs) (ti_O_n hKs) ht17 tw_89 dd_xP_slot_16 ?_
    by_cases hc19 : t17 = 0
    · rw [if_pos hc19] at h
      refine lv_if_eq (tgt := 38) X.1 X.2.1 dd_xP_slot_19 (by decide) (fun _ => ?_) (fun z => absurd hc19 z)
      exact (kb_xP_slot_b38 X hKs hlk hret hnm) () _ _ _ _ _ _ _ _ hw (lh_pk hl [] rfl) h hci hcj
    · rw [if_neg hc19] at h
      refine lv_if_eq (tgt := 38) X.1 X.2.1 dd_xP_slot_19 (by decide) (fun z => absurd z hc19) (fun _ => ?_)
      refine rr_ald X dd_xP_slot_22 (lv_at hl.1 0 rfl) ?_
      obtain ⟨t18, ht18, h⟩ := st_g_some h
      refine rr_cast X hw (ti_O_y hKs) ht18 tw_89 dd_xP_slot_24 ?_
      refine rr_astn (lv' := [(3, (va_rf t9)), (4, (va_rf t9)), (0, (va_rf v0)), (1, (.int v1)), (2, (.int v2))]) X dd_xP_slot_27 rfl hl (by decide) rfl (fun ls hl => ?_)
      refine rr_aldn X dd_xP_slot_28 rfl (lv_at hl.1 0 rfl) ?_
      obtain ⟨t19, ht19, h⟩ := st_g_some h
      refine rr_getq X hw ff_3_2 ht19 tw_108 (Or.inl rfl) dd_xP_slot_29 ?_
      refine lv_iload_n X.1 X.2.1 dd_xP_slot_32 rfl (lv_at hl.1 4 rfl) ?_
      obtain ⟨t20, ht20, h⟩ := st_g_some h
      refine rr_aald X hw (tq_6 ac) ht20 dd_xP_slot_33 ?_
      obtain ⟨t21, t22, t23, t24, t25, t26, ht21, h, ei, ej⟩ := st_b_some h
      refine rr_callS (n := 1) (As := [(va_rf t20)]) (rest := []) X hw (kn_ok D ac a0 gl) hKs (kc_xP_referenceTo l D ac a0 gl t20 _ _ _ _ _ ht21) tb_good tw_431 tw_91 tw_432 tw_433 (by decide +kernel) rfl (show 0 + 1 ≤ _ ∧ 8 + (1 + 11) + 0 ≤ _ from ⟨Nat.le_of_ble_eq_true rfl, Nat.le_of_ble_eq_true rfl⟩) (show t15 + t23 ≤ iT ∧ t16 + t24 ≤ jT from ⟨ar_1 hci ei, ar_1 hcj ej⟩) hl.1.1 (by simp [rf_cat, ic_cat]) rfl dd_xP_slot_34 (sk := [(.int t21)]) rfl (fun H locs hw => ?_)
      have hci : t15 + t23 + t25 = iT := ar_2 hci ei
      have hcj : t16 + t24 + t26 = jT := ar_2 hcj ej
      clear ei ej
      generalize t15 + t23 = t27 at hci ⊢
      generalize t16 + t24 = t28 at hcj ⊢
      obtain ⟨rfl, rfl, rfl, rfl⟩ := st_r_some h
      exact rr_iret X hw hlk hret rfl hci hcj dd_xP_slot_37
/-! PromiseVats.number(I)I -/
theorem dd_xP_number_0 : decode prog_1_method_16_code 0 = .ok (.aload_n 0, 1) := by decide +kernel
theorem dd_xP_number_1 : decode prog_1_method_16_code 1 = .ok (.iload_n 1, 1) := by decide +kernel
theorem dd_xP_number_2 : decode prog_1_method_16_code 2 = .ok (.invokevirtual 215, 3) := by decide +kernel
theorem dd_xP_number_5 : decode prog_1_method_16_code 5 = .ok (.astore_n 3, 1) := by decide +kernel
theorem dd_xP_number_6 : decode prog_1_method_16_code 6 = .ok (.aload_n 3, 1) := by decide +kernel
theorem dd_xP_number_7 : decode prog_1_method_16_code 7 = .ok (.instanceof 53, 3) := by decide +kernel
theorem dd_xP_number_10 : decode prog_1_method_16_code 10 = .ok (.ifCond .eq 13, 3) := by decide +kernel
theorem dd_xP_number_13 : decode prog_1_method_16_code 13 = .ok (.aload_n 3, 1) := by decide +kernel
theorem dd_xP_number_14 : decode prog_1_method_16_code 14 = .ok (.checkcast 53, 3) := by decide +kernel
theorem dd_xP_number_17 : decode prog_1_method_16_code 17 = .ok (.astore_n 2, 1) := by decide +kernel
theorem dd_xP_number_18 : decode prog_1_method_16_code 18 = .ok (.aload_n 2, 1) := by decide +kernel
theorem dd_xP_number_19 : decode prog_1_method_16_code 19 = .ok (.getfield 226, 3) := by decide +kernel
theorem dd_xP_number_22 : decode prog_1_method_16_code 22 = .ok (.ireturn, 1) := by decide +kernel
theorem dd_xP_number_23 : decode prog_1_method_16_code 23 = .ok (.iconst 0, 1) := by decide +kernel
theorem dd_xP_number_24 : decode prog_1_method_16_code 24 = .ok (.ireturn, 1) := by decide +kernel
set_option maxHeartbeats 4000000 in
set_option maxRecDepth 100000 in
theorem kc_xP_number (l : Launch) (D : va_G) (ac : Nat → ClassId) (a0 : Nat) (gl : gl_T) (v0 : Option Nat) (v1 : Int32) (st : st_S) (rF : Int32) (stF : st_S) (iT jT : Nat) (h : xP_number gl v0 v1 st = some (rF, stF, iT, jT)) :
    ct_ l ⟨"PromiseVats", "numbe\x72", "(I)I"⟩ (Cond.code ⟨"PromiseVats", "numbe\x72", "(I)I"⟩ prog_1_method_16_code 4 (Option.some FieldType.int) :: tb_) 2 43 D cl_ ac a0 (kn_ D ac a0 gl) [(va_rf v0), (.int v1)] st (vb_i rF) stF iT jT := by
  refine ct_of (kn_ok D ac a0 gl) (plainFor_of_name (by decide +kernel)) (by simp [rf_cat, ic_cat]) (by simp) ?_
  intro p e s m args below meth c ls X hw hKs hlk hret hnm hl
  unfold xP_number at h
  have hl : lh_ ls 4 [(0, (va_rf v0)), (1, (.int v1))] := hl
  obtain ⟨z0, hz0⟩ : ∃ z : Nat, 0 = z := ⟨0, rfl⟩
  obtain ⟨z1, hz1⟩ : ∃ z : Nat, 0 = z := ⟨0, rfl⟩
  refine W.cs hz0 hz1 ?_
  have hci : z0 + iT = iT := by omega
  have hcj : z1 + jT = jT := by omega
  refine rr_aldn X dd_xP_number_0 rfl (lv_at hl.1 0 rfl) ?_
  refine lv_iload_n X.1 X.2.1 dd_xP_number_1 rfl (lv_at hl.1 1 rfl) ?_
  obtain ⟨t12, ht12, h⟩ := st_g_some h
  obtain ⟨t1, t2, t3, t4, t5, t6, ht1, h, ei, ej⟩ := st_b_some h
  refine rr_callV (n := 1) (As := [(.int v1)]) (rest := []) X hw (kn_ok D ac a0 gl) hKs (kc_xP_liveEntity l D ac a0 gl v0 v1 _ _ _ _ _ ht1) tb_good tw_426 tw_91 tw_427 tw_428 se_42 ht12 (by decide +kernel) rfl (show 1 + 1 ≤ _ ∧ 8 + (3 + 11) + 21 ≤ _ from ⟨Nat.le_of_ble_eq_true rfl, Nat.le_of_ble_eq_true rfl⟩) (show z0 + t3 ≤ iT ∧ z1 + t4 ≤ jT from ⟨ar_1 hci ei, ar_1 hcj ej⟩) hl.1.1 (by simp [rf_cat, ic_cat]) rfl dd_xP_number_2 (sk := [(va_rf t1)]) rfl (fun H locs hw => ?_)
  have hci : z0 + t3 + t5 = iT := ar_2 hci ei
  have hcj : z1 + t4 + t6 = jT := ar_2 hcj ej
  clear ei ej
  generalize z0 + t3 = t7 at hci ⊢
  generalize z1 + t4 = t8 at hcj ⊢
  refine rr_astn (lv' := [(3, (va_rf t1)), (0, (va_rf v0)), (1, (.int v1))]) X dd_xP_number_5 rfl hl (by decide) rfl (fun ls hl => ?_)
  refine rr_aldn X dd_xP_number_6 rfl (lv_at hl.1 0 rfl) ?_
  obtain ⟨t9, ht9, h⟩ := st_g_some h
  refine rr_inst X hw (ti_O_y hKs) (ti_O_n hKs) ht9 tw_89 dd_xP_number_7 ?_
  by_cases hc10 : t9 = 0
  · rw [if_pos hc10] at h
    refine lv_if_eq (tgt := 23) X.1 X.2.1 dd_xP_number_10 (by decide) (fun _ => ?_) (fun z => absurd hc10 z)
    refine lv_iconst (v := (0 : Int32)) X.1 X.2.1 dd_xP_number_23 (by decide) ?_
    obtain ⟨rfl, rfl, rfl, rfl⟩ := st_r_some h
    exact rr_iret X hw hlk hret rfl hci hcj dd_xP_number_24
  · rw [if_neg hc10] at h
    refine lv_if_eq (tgt := 23) X.1 X.2.1 dd_xP_number_10 (by decide) (fun z => absurd z hc10) (fun _ => ?_)
    refine rr_aldn X dd_xP_number_13 rfl (lv_at hl.1 0 rfl) ?_
    obtain ⟨t10, ht10, h⟩ := st_g_some h
    refine rr_cast X hw (ti_O_y hKs) ht10 tw_89 dd_xP_number_14 ?_
    refine rr_astn (lv' := [(2, (va_rf t1)), (3, (va_rf t1)), (0, (va_rf v0)), (1, (.int v1))]) X dd_xP_number_17 rfl hl (by decide) rfl (fun ls hl => ?_)
    refine rr_aldn X dd_xP_number_18 rfl (lv_at hl.1 0 rfl) ?_
    obtain ⟨t11, ht11, h⟩ := st_g_some h
    refine rr_geti X hw ff_3_1 ht11 tw_247 (Or.inl rfl) dd_xP_number_19 ?_
    obtain ⟨rfl, rfl, rfl, rfl⟩ := st_r_some h
    exact rr_iret X hw hlk hret rfl hci hcj dd_xP_number_22
