/-! PromiseVats$Entity.unpaired(I)I -/
theorem dd_xE_unpaired_0 : decode prog_4_method_2_code 0 = .ok (.iconst 0, 1) := by decide +kernel
theorem dd_xE_unpaired_1 : decode prog_4_method_2_code 1 = .ok (.istore_n 2, 1) := by decide +kernel
theorem dd_xE_unpaired_2 : decode prog_4_method_2_code 2 = .ok (.iconst 0, 1) := by decide +kernel
theorem dd_xE_unpaired_3 : decode prog_4_method_2_code 3 = .ok (.istore_n 3, 1) := by decide +kernel
theorem dd_xE_unpaired_4 : decode prog_4_method_2_code 4 = .ok (.iload_n 3, 1) := by decide +kernel
theorem dd_xE_unpaired_5 : decode prog_4_method_2_code 5 = .ok (.aload_n 0, 1) := by decide +kernel
theorem dd_xE_unpaired_6 : decode prog_4_method_2_code 6 = .ok (.getfield 18, 3) := by decide +kernel
theorem dd_xE_unpaired_9 : decode prog_4_method_2_code 9 = .ok (.arraylength, 1) := by decide +kernel
theorem dd_xE_unpaired_10 : decode prog_4_method_2_code 10 = .ok (.if_icmp .ge 24, 3) := by decide +kernel
theorem dd_xE_unpaired_13 : decode prog_4_method_2_code 13 = .ok (.iload_n 2, 1) := by decide +kernel
theorem dd_xE_unpaired_14 : decode prog_4_method_2_code 14 = .ok (.iconst 0, 1) := by decide +kernel
theorem dd_xE_unpaired_15 : decode prog_4_method_2_code 15 = .ok (.iload_n 1, 1) := by decide +kernel
theorem dd_xE_unpaired_16 : decode prog_4_method_2_code 16 = .ok (.aload_n 0, 1) := by decide +kernel
theorem dd_xE_unpaired_17 : decode prog_4_method_2_code 17 = .ok (.getfield 18, 3) := by decide +kernel
theorem dd_xE_unpaired_20 : decode prog_4_method_2_code 20 = .ok (.iload_n 3, 1) := by decide +kernel
theorem dd_xE_unpaired_21 : decode prog_4_method_2_code 21 = .ok (.iaload, 1) := by decide +kernel
theorem dd_xE_unpaired_22 : decode prog_4_method_2_code 22 = .ok (.imul, 1) := by decide +kernel
theorem dd_xE_unpaired_23 : decode prog_4_method_2_code 23 = .ok (.invokestatic 28, 3) := by decide +kernel
theorem dd_xE_unpaired_26 : decode prog_4_method_2_code 26 = .ok (.iadd, 1) := by decide +kernel
theorem dd_xE_unpaired_27 : decode prog_4_method_2_code 27 = .ok (.istore_n 2, 1) := by decide +kernel
theorem dd_xE_unpaired_28 : decode prog_4_method_2_code 28 = .ok (.iinc 3 1, 3) := by decide +kernel
theorem dd_xE_unpaired_31 : decode prog_4_method_2_code 31 = .ok (.goto (-27), 3) := by decide +kernel
theorem dd_xE_unpaired_34 : decode prog_4_method_2_code 34 = .ok (.iload_n 2, 1) := by decide +kernel
theorem dd_xE_unpaired_35 : decode prog_4_method_2_code 35 = .ok (.ireturn, 1) := by decide +kernel
set_option maxHeartbeats 4000000 in
set_option maxRecDepth 100000 in
theorem kb_xE_unpaired_b4 {p : Program} {l : Launch} {e : Env} {s : State} {m : MethodId} {args : Array Value} {below : List Frame} {meth : Method} {c : Code} {D : va_G} {ac : Nat → ClassId} {a0 : Nat} {gl : gl_T} {rF : Int32} {stF : st_S} {iT jT : Nat}
    (X : cx_ p s m args c prog_4_method_2_code 4 "PromiseVats$Entity" tb_ D cl_ (ty_ ac)) (hKs : kn_ D ac a0 gl s) (hlk : meth.locks = false) (hret : meth.sig.returnType = (Option.some FieldType.int)) (hnm : meth.name = "unpaired") : wk_ p l e 1 21 s m args below meth c D cl_ ac a0 4 vb_i rF stF iT jT 4 (fun x : Option Nat × Int32 × Int32 × Int32 => [(0, (va_rf x.1)), (1, (.int x.2.1)), (2, (.int x.2.2.1)), (3, (.int x.2.2.2))]) (fun x : Option Nat × Int32 × Int32 × Int32 => []) (st_it (fun rec4 => (fun x : Option Nat × Int32 × Int32 × Int32 => xE_unpaired_b4 gl rec4 x.1 x.2.1 x.2.2.1 x.2.2.2)) fu_) := by
  refine wk_it ?_ _
  intro rec4 hr4 x st H locs cells slots i j ls hw hl h hci hcj
  obtain ⟨p0, p1, p2, p3⟩ := x
  have h : xE_unpaired_b4 gl rec4 p0 p1 p2 p3 st = some (rF, stF, i, j) := h
  unfold xE_unpaired_b4 at h
  have hl : lh_ ls 4 [(0, (va_rf p0)), (1, (.int p1)), (2, (.int p2)), (3, (.int p3))] := hl
  refine W.eq (g2 := F0 m 4 ls []) rfl ?_
  refine lv_iload_n X.1 X.2.1 dd_xE_unpaired_4 rfl (lv_at hl.1 3 rfl) ?_
  refine rr_aldn X dd_xE_unpaired_5 rfl (lv_at hl.1 0 rfl) ?_
  obtain ⟨t1, ht1, h⟩ := st_g_some h
  refine rr_getq X hw ff_3_4_9 ht1 tw_9 (Or.inl rfl) dd_xE_unpaired_6 ?_
  obtain ⟨t2, ht2, h⟩ := st_g_some h
  refine rr_alen X hw (tl_0 ac) ht2 dd_xE_unpaired_9 ?_
  by_cases hc10 : t2 ≤ p3
  · rw [if_pos hc10] at h
    refine lv_icmp_ge (tgt := 34) X.1 X.2.1 dd_xE_unpaired_10 (by decide) (fun _ => ?_) (fun z => absurd hc10 z)
    refine lv_iload_n X.1 X.2.1 dd_xE_unpaired_34 rfl (lv_at hl.1 2 rfl) ?_
    obtain ⟨rfl, rfl, rfl, rfl⟩ := st_r_some h
    exact rr_iret X hw hlk hret rfl hci hcj dd_xE_unpaired_35
  · rw [if_neg hc10] at h
    refine lv_icmp_ge (tgt := 34) X.1 X.2.1 dd_xE_unpaired_10 (by decide) (fun z => absurd z hc10) (fun _ => ?_)
    refine lv_iload_n X.1 X.2.1 dd_xE_unpaired_13 rfl (lv_at hl.1 2 rfl) ?_
    refine lv_iconst (v := (0 : Int32)) X.1 X.2.1 dd_xE_unpaired_14 (by decide) ?_
    refine lv_iload_n X.1 X.2.1 dd_xE_unpaired_15 rfl (lv_at hl.1 1 rfl) ?_
    refine rr_aldn X dd_xE_unpaired_16 rfl (lv_at hl.1 0 rfl) ?_
    obtain ⟨t3, ht3, h⟩ := st_g_some h
    refine rr_getq X hw ff_3_4_9 ht3 tw_9 (Or.inl rfl) dd_xE_unpaired_17 ?_
    refine lv_iload_n X.1 X.2.1 dd_xE_unpaired_20 rfl (lv_at hl.1 3 rfl) ?_
    obtain ⟨t4, ht4, h⟩ := st_g_some h
    refine rr_iald (t := 0) X hw rfl ht4 dd_xE_unpaired_21 ?_
    refine lv_imul X.1 X.2.1 dd_xE_unpaired_22 ?_
    obtain ⟨t5, t6, t7, t8, t9, t10, ht5, h, ei, ej⟩ := st_b_some h
    refine rr_callS (n := 2) (As := [(.int (0 : Int32)), (.int (p1 * t4))]) (rest := [(.int p2)]) X hw (kn_ok D ac a0 gl) hKs (kc_ma_max l D ac a0 gl (0 : Int32) (p1 * t4) _ _ _ _ _ ht5) tb_good tw_68 tw_67 tw_354 tw_70 (by decide +kernel) rfl (show 0 + 1 ≤ _ ∧ 8 + (2 + 11) + 0 ≤ _ from ⟨Nat.le_of_ble_eq_true rfl, Nat.le_of_ble_eq_true rfl⟩) (show cells + t7 ≤ iT ∧ slots + t8 ≤ jT from ⟨ar_1 hci ei, ar_1 hcj ej⟩) hl.1.1 (by simp [rf_cat, ic_cat]) rfl dd_xE_unpaired_23 (sk := [(.int t5), (.int p2)]) rfl (fun H locs hw => ?_)
    have hci : cells + t7 + t9 = iT := ar_2 hci ei
    have hcj : slots + t8 + t10 = jT := ar_2 hcj ej
    clear ei ej
    generalize cells + t7 = t11 at hci ⊢
    generalize slots + t8 = t12 at hcj ⊢
    refine lv_iadd X.1 X.2.1 dd_xE_unpaired_26 ?_
    refine rr_istn (lv' := [(2, (.int (p2 + t5))), (0, (va_rf p0)), (1, (.int p1)), (3, (.int p3))]) X dd_xE_unpaired_27 rfl hl (by decide) rfl (fun ls hl => ?_)
    refine rr_iinc (k := 3) (v := (p3 + (1 : Int32))) (lv' := [(3, (.int (p3 + (1 : Int32)))), (2, (.int (p2 + t5))), (0, (va_rf p0)), (1, (.int p1))]) X dd_xE_unpaired_28 hl rfl (by rw [show Int32.ofInt (1) = (1 : Int32) from by decide]) (by decide) rfl (fun ls hl => ?_)
    refine lv_goto (tgt := 4) X.1 X.2.1 dd_xE_unpaired_31 (by decide) ?_
    exact hr4 (p0, p1, (p2 + t5), (p3 + (1 : Int32))) _ _ _ _ _ _ _ _ hw (lh_pk hl [2, 3, 1, 0] rfl) h hci hcj
set_option maxHeartbeats 4000000 in
set_option maxRecDepth 100000 in
theorem kc_xE_unpaired (l : Launch) (D : va_G) (ac : Nat → ClassId) (a0 : Nat) (gl : gl_T) (v0 : Option Nat) (v1 : Int32) (st : st_S) (rF : Int32) (stF : st_S) (iT jT : Nat) (h : xE_unpaired gl v0 v1 st = some (rF, stF, iT, jT)) :
    ct_ l ⟨"PromiseVats$Entity", "unpaired", "(I)I"⟩ (Cond.code ⟨"PromiseVats$Entity", "unpaired", "(I)I"⟩ prog_4_method_2_code 4 (Option.some FieldType.int) :: tb_) 1 21 D cl_ ac a0 (kn_ D ac a0 gl) [(va_rf v0), (.int v1)] st (vb_i rF) stF iT jT := by
  refine ct_of (kn_ok D ac a0 gl) (plainFor_of_name (by decide +kernel)) (by simp [rf_cat, ic_cat]) (by simp) ?_
  intro p e s m args below meth c ls X hw hKs hlk hret hnm hl
  unfold xE_unpaired at h
  have hl : lh_ ls 4 [(0, (va_rf v0)), (1, (.int v1))] := hl
  obtain ⟨z0, hz0⟩ : ∃ z : Nat, 0 = z := ⟨0, rfl⟩
  obtain ⟨z1, hz1⟩ : ∃ z : Nat, 0 = z := ⟨0, rfl⟩
  refine W.cs hz0 hz1 ?_
  have hci : z0 + iT = iT := by omega
  have hcj : z1 + jT = jT := by omega
  refine lv_iconst (v := (0 : Int32)) X.1 X.2.1 dd_xE_unpaired_0 (by decide) ?_
  refine rr_istn (lv' := [(2, (.int (0 : Int32))), (0, (va_rf v0)), (1, (.int v1))]) X dd_xE_unpaired_1 rfl hl (by decide) rfl (fun ls hl => ?_)
  refine lv_iconst (v := (0 : Int32)) X.1 X.2.1 dd_xE_unpaired_2 (by decide) ?_
  refine rr_istn (lv' := [(3, (.int (0 : Int32))), (2, (.int (0 : Int32))), (0, (va_rf v0)), (1, (.int v1))]) X dd_xE_unpaired_3 rfl hl (by decide) rfl (fun ls hl => ?_)
  exact (kb_xE_unpaired_b4 X hKs hlk hret hnm) (v0, v1, (0 : Int32), (0 : Int32)) _ _ _ _ _ _ _ _ hw (lh_pk hl [2, 3, 1, 0] rfl) h hci hcj
/-! PromiseVats$Entity.isWanted()Z -/
theorem dd_xE_isWanted_0 : decode prog_4_method_4_code 0 = .ok (.aload_n 0, 1) := by decide +kernel
theorem dd_xE_isWanted_1 : decode prog_4_method_4_code 1 = .ok (.invokevirtual 34, 3) := by decide +kernel
theorem dd_xE_isWanted_4 : decode prog_4_method_4_code 4 = .ok (.ifCond .ne 11, 3) := by decide +kernel
theorem dd_xE_isWanted_7 : decode prog_4_method_4_code 7 = .ok (.aload_n 0, 1) := by decide +kernel
theorem dd_xE_isWanted_8 : decode prog_4_method_4_code 8 = .ok (.iconst 1, 1) := by decide +kernel
theorem dd_xE_isWanted_9 : decode prog_4_method_4_code 9 = .ok (.invokevirtual 38, 3) := by decide +kernel
theorem dd_xE_isWanted_12 : decode prog_4_method_4_code 12 = .ok (.ifCond .le 7, 3) := by decide +kernel
theorem dd_xE_isWanted_15 : decode prog_4_method_4_code 15 = .ok (.iconst 1, 1) := by decide +kernel
theorem dd_xE_isWanted_16 : decode prog_4_method_4_code 16 = .ok (.goto 4, 3) := by decide +kernel
theorem dd_xE_isWanted_19 : decode prog_4_method_4_code 19 = .ok (.iconst 0, 1) := by decide +kernel
theorem dd_xE_isWanted_20 : decode prog_4_method_4_code 20 = .ok (.ireturn, 1) := by decide +kernel
set_option maxHeartbeats 4000000 in
set_option maxRecDepth 100000 in
theorem kb_xE_isWanted_b15 {p : Program} {l : Launch} {e : Env} {s : State} {m : MethodId} {args : Array Value} {below : List Frame} {meth : Method} {c : Code} {D : va_G} {ac : Nat → ClassId} {a0 : Nat} {gl : gl_T} {rF : Int32} {stF : st_S} {iT jT : Nat}
    (X : cx_ p s m args c prog_4_method_4_code 1 "PromiseVats$Entity" tb_ D cl_ (ty_ ac)) (hKs : kn_ D ac a0 gl s) (hlk : meth.locks = false) (hret : meth.sig.returnType = (Option.some FieldType.boolean)) (hnm : meth.name = "isWanted") : wk_ p l e 2 44 s m args below meth c D cl_ ac a0 1 vb_i rF stF iT jT 15 (fun x : Unit => []) (fun x : Unit => []) (fun _ : Unit => xE_isWanted_b15 gl) := by
  intro x st H locs cells slots i j ls hw hl h hci hcj
  have h : xE_isWanted_b15 gl  st = some (rF, stF, i, j) := h
  unfold xE_isWanted_b15 at h
  have hl : lh_ ls 1 [] := hl
  refine W.eq (g2 := F0 m 15 ls []) rfl ?_
  refine lv_iconst (v := (1 : Int32)) X.1 X.2.1 dd_xE_isWanted_15 (by decide) ?_
  refine lv_goto (tgt := 20) X.1 X.2.1 dd_xE_isWanted_16 (by decide) ?_
  obtain ⟨rfl, rfl, rfl, rfl⟩ := st_r_some h
  exact rr_iret X hw hlk hret (by decide) hci hcj dd_xE_isWanted_20
set_option maxHeartbeats 4000000 in
set_option maxRecDepth 100000 in
theorem kc_xE_isWanted (l : Launch) (D : va_G) (ac : Nat → ClassId) (a0 : Nat) (gl : gl_T) (v0 : Option Nat) (st : st_S) (rF : Int32) (stF : st_S) (iT jT : Nat) (h : xE_isWanted gl v0 st = some (rF, stF, iT, jT)) :
    ct_ l ⟨"PromiseVats$Entity", "isWanted", "()Z"⟩ (Cond.code ⟨"PromiseVats$Entity", "isWanted", "()Z"⟩ prog_4_method_4_code 1 (Option.some FieldType.boolean) :: tb_) 2 44 D cl_ ac a0 (kn_ D ac a0 gl) [(va_rf v0)] st (vb_i rF) stF iT jT := by
  refine ct_of (kn_ok D ac a0 gl) (plainFor_of_name (by decide +kernel)) (by simp [rf_cat, ic_cat]) (by simp) ?_
  intro p e s m args below meth c ls X hw hKs hlk hret hnm hl
  unfold xE_isWanted at h
  have hl : lh_ ls 1 [(0, (va_rf v0))] := hl
  obtain ⟨z0, hz0⟩ : ∃ z : Nat, 0 = z := ⟨0, rfl⟩
  obtain ⟨z1, hz1⟩ : ∃ z : Nat, 0 = z := ⟨0, rfl⟩
  refine W.cs hz0 hz1 ?_
  have hci : z0 + iT = iT := by omega
  have hcj : z1 + jT = jT := by omega
  refine rr_aldn X dd_xE_isWanted_0 rfl (lv_at hl.1 0 rfl) ?_
  obtain ⟨t18, ht18, h⟩ := st_g_some h
  obtain ⟨t1, t2, t3, t4, t5, t6, ht1, h, ei, ej⟩ := st_b_some h
  refine rr_callU (n := 0) (x := ⟨"PromiseVats$Entity", "isExported", "()Z"⟩) (owner := "PromiseVats$Entity") (As := []) (rest := []) X hw (kn_ok D ac a0 gl) hKs (kc_xE_isExported l D ac a0 gl v0 _ _ _ _ _ ht1) tb_good tw_361 tw_16 tw_363 tw_364 (va_Decl.of (X.2.2.2.2.1 _ tw_362) (X.2.2.2.2.1 _ tw_361)) tw_362 se_29 ht18 (by decide +kernel) rfl (show 0 + 1 ≤ _ ∧ 8 + (2 + 11) + 0 ≤ _ from ⟨Nat.le_of_ble_eq_true rfl, Nat.le_of_ble_eq_true rfl⟩) (show z0 + t3 ≤ iT ∧ z1 + t4 ≤ jT from ⟨ar_1 hci ei, ar_1 hcj ej⟩) hl.1.1 (by simp [rf_cat, ic_cat]) rfl dd_xE_isWanted_1 (sk := [(.int t1)]) rfl (fun H locs hw => ?_)
  have hci : z0 + t3 + t5 = iT := ar_2 hci ei
  have hcj : z1 + t4 + t6 = jT := ar_2 hcj ej
  clear ei ej
  generalize z0 + t3 = t7 at hci ⊢
  generalize z1 + t4 = t8 at hcj ⊢
  by_cases hc4 : t1 = 0
  · rw [if_pos hc4] at h
    refine lv_if_ne (tgt := 15) X.1 X.2.1 dd_xE_isWanted_4 (by decide) (fun z => absurd hc4 z) (fun _ => ?_)
    refine rr_aldn X dd_xE_isWanted_7 rfl (lv_at hl.1 0 rfl) ?_
    refine lv_iconst (v := (1 : Int32)) X.1 X.2.1 dd_xE_isWanted_8 (by decide) ?_
    obtain ⟨t17, ht17, h⟩ := st_g_some h
    obtain ⟨t9, t10, t11, t12, t13, t14, ht9, h, ei, ej⟩ := st_b_some h
    refine rr_callU (n := 1) (x := ⟨"PromiseVats$Entity", "unpaired", "(I)I"⟩) (owner := "PromiseVats$Entity") (As := [(.int (1 : Int32))]) (rest := []) X hw (kn_ok D ac a0 gl) hKs (kc_xE_unpaired l D ac a0 gl v0 (1 : Int32) _ _ _ _ _ ht9) tb_good tw_355 tw_16 tw_357 tw_358 (va_Decl.of (X.2.2.2.2.1 _ tw_356) (X.2.2.2.2.1 _ tw_355)) tw_356 se_28 ht17 (by decide +kernel) rfl (show 1 + 1 ≤ _ ∧ 8 + (4 + 11) + 21 ≤ _ from ⟨Nat.le_of_ble_eq_true rfl, Nat.le_of_ble_eq_true rfl⟩) (show t7 + t11 ≤ iT ∧ t8 + t12 ≤ jT from ⟨ar_1 hci ei, ar_1 hcj ej⟩) hl.1.1 (by simp [rf_cat, ic_cat]) rfl dd_xE_isWanted_9 (sk := [(.int t9)]) rfl (fun H locs hw => ?_)
    have hci : t7 + t11 + t13 = iT := ar_2 hci ei
    have hcj : t8 + t12 + t14 = jT := ar_2 hcj ej
    clear ei ej
    generalize t7 + t11 = t15 at hci ⊢
    generalize t8 + t12 = t16 at hcj ⊢
    by_cases hc12 : t9 ≤ 0
    · rw [if_pos hc12] at h
      refine lv_if_le (tgt := 19) X.1 X.2.1 dd_xE_isWanted_12 (by decide) (fun _ => ?_) (fun z => absurd hc12 z)
      refine lv_iconst (v := (0 : Int32)) X.1 X.2.1 dd_xE_isWanted_19 (by decide) ?_
      obtain ⟨rfl, rfl, rfl, rfl⟩ := st_r_some h
      exact rr_iret X hw hlk hret (by decide) hci hcj dd_xE_isWanted_20
    · rw [if_neg hc12] at h
      refine lv_if_le (tgt := 19) X.1 X.2.1 dd_xE_isWanted_12 (by decide) (fun z => absurd z hc12) (fun _ => ?_)
      exact (kb_xE_isWanted_b15 X hKs hlk hret hnm) () _ _ _ _ _ _ _ _ hw (lh_pk hl [] rfl) h hci hcj
  · rw [if_neg hc4] at h
    refine lv_if_ne (tgt := 15) X.1 X.2.1 dd_xE_isWanted_4 (by decide) (fun _ => ?_) (fun z => absurd z hc4)
    exact (kb_xE_isWanted_b15 X hKs hlk hret hnm) () _ _ _ _ _ _ _ _ hw (lh_pk hl [] rfl) h hci hcj
/-! PromiseVats$Promise.isWanted()Z -/
theorem dd_xQ_isWanted_0 : decode prog_7_method_2_code 0 = .ok (.aload_n 0, 1) := by decide +kernel
theorem dd_xQ_isWanted_1 : decode prog_7_method_2_code 1 = .ok (.invokevirtual 22, 3) := by decide +kernel
theorem dd_xQ_isWanted_4 : decode prog_7_method_2_code 4 = .ok (.ifCond .ne 21, 3) := by decide +kernel
theorem dd_xQ_isWanted_7 : decode prog_7_method_2_code 7 = .ok (.aload_n 0, 1) := by decide +kernel
theorem dd_xQ_isWanted_8 : decode prog_7_method_2_code 8 = .ok (.iconst 1, 1) := by decide +kernel
theorem dd_xQ_isWanted_9 : decode prog_7_method_2_code 9 = .ok (.invokevirtual 26, 3) := by decide +kernel
theorem dd_xQ_isWanted_12 : decode prog_7_method_2_code 12 = .ok (.ifCond .gt 13, 3) := by decide +kernel
theorem dd_xQ_isWanted_15 : decode prog_7_method_2_code 15 = .ok (.aload_n 0, 1) := by decide +kernel
theorem dd_xQ_isWanted_16 : decode prog_7_method_2_code 16 = .ok (.getfield 18, 3) := by decide +kernel
theorem dd_xQ_isWanted_19 : decode prog_7_method_2_code 19 = .ok (.invokevirtual 30, 3) := by decide +kernel
theorem dd_xQ_isWanted_22 : decode prog_7_method_2_code 22 = .ok (.ifCond .ne 7, 3) := by decide +kernel
theorem dd_xQ_isWanted_25 : decode prog_7_method_2_code 25 = .ok (.iconst 1, 1) := by decide +kernel
theorem dd_xQ_isWanted_26 : decode prog_7_method_2_code 26 = .ok (.goto 4, 3) := by decide +kernel
theorem dd_xQ_isWanted_29 : decode prog_7_method_2_code 29 = .ok (.iconst 0, 1) := by decide +kernel
theorem dd_xQ_isWanted_30 : decode prog_7_method_2_code 30 = .ok (.ireturn, 1) := by decide +kernel
set_option maxHeartbeats 4000000 in
set_option maxRecDepth 100000 in
theorem kb_xQ_isWanted_b25 {p : Program} {l : Launch} {e : Env} {s : State} {m : MethodId} {args : Array Value} {below : List Frame} {meth : Method} {c : Code} {D : va_G} {ac : Nat → ClassId} {a0 : Nat} {gl : gl_T} {rF : Int32} {stF : st_S} {iT jT : Nat}
    (X : cx_ p s m args c prog_7_method_2_code 1 "PromiseVats$Promise" tb_ D cl_ (ty_ ac)) (hKs : kn_ D ac a0 gl s) (hlk : meth.locks = false) (hret : meth.sig.returnType = (Option.some FieldType.boolean)) (hnm : meth.name = "isWanted") : wk_ p l e 2 44 s m args below meth c D cl_ ac a0 1 vb_i rF stF iT jT 25 (fun x : Unit => []) (fun x : Unit => []) (fun _ : Unit => xQ_isWanted_b25 gl) := by
  intro x st H locs cells slots i j ls hw hl h hci hcj
  have h : xQ_isWanted_b25 gl  st = some (rF, stF, i, j) := h
  unfold xQ_isWanted_b25 at h
  have hl : lh_ ls 1 [] := hl
  refine W.eq (g2 := F0 m 25 ls []) rfl ?_
  refine lv_iconst (v := (1 : Int32)) X.1 X.2.1 dd_xQ_isWanted_25 (by decide) ?_
  refine lv_goto (tgt := 30) X.1 X.2.1 dd_xQ_isWanted_26 (by decide) ?_
  obtain ⟨rfl, rfl, rfl, rfl⟩ := st_r_some h
  exact rr_iret X hw hlk hret (by decide) hci hcj dd_xQ_isWanted_30
set_option maxHeartbeats 4000000 in
set_option maxRecDepth 100000 in
theorem kc_xQ_isWanted (l : Launch) (D : va_G) (ac : Nat → ClassId) (a0 : Nat) (gl : gl_T) (v0 : Option Nat) (st : st_S) (rF : Int32) (stF : st_S) (iT jT : Nat) (h : xQ_isWanted gl v0 st = some (rF, stF, iT, jT)) :
    ct_ l ⟨"PromiseVats$Promise", "isWanted", "()Z"⟩ (Cond.code ⟨"PromiseVats$Promise", "isWanted", "()Z"⟩ prog_7_method_2_code 1 (Option.some FieldType.boolean) :: tb_) 2 44 D cl_ ac a0 (kn_ D ac a0 gl) [(va_rf v0)] st (vb_i rF) stF iT jT := by
  refine ct_of (kn_ok D ac a0 gl) (plainFor_of_name (by decide +kernel)) (by simp [rf_cat, ic_cat]) (by simp) ?_
  intro p e s m args below meth c ls X hw hKs hlk hret hnm hl
  unfold xQ_isWanted at h
  have hl : lh_ ls 1 [(0, (va_rf v0))] := hl
  obtain ⟨z0, hz0⟩ : ∃ z : Nat, 0 = z := ⟨0, rfl⟩
  obtain ⟨z1, hz1⟩ : ∃ z : Nat, 0 = z := ⟨0, rfl⟩
  refine W.cs hz0 hz1 ?_
  have hci : z0 + iT = iT := by omega
  have hcj : z1 + jT = jT := by omega
  refine rr_aldn X dd_xQ_isWanted_0 rfl (lv_at hl.1 0 rfl) ?_
  obtain ⟨t28, ht28, h⟩ := st_g_some h
  obtain ⟨t1, t2, t3, t4, t5, t6, ht1, h, ei, ej⟩ := st_b_some h
  refine rr_callU (n := 0) (x := ⟨"PromiseVats$Promise", "isExported", "()Z"⟩) (owner := "PromiseVats$Entity") (As := []) (rest := []) X hw (kn_ok D ac a0 gl) hKs (kc_xE_isExported l D ac a0 gl v0 _ _ _ _ _ ht1) tb_good tw_361 tw_16 tw_371 tw_372 (va_Decl.of (X.2.2.2.2.1 _ tw_362) (X.2.2.2.2.1 _ tw_361)) tw_362 se_31 ht28 (by decide +kernel) rfl (show 0 + 1 ≤ _ ∧ 8 + (2 + 11) + 0 ≤ _ from ⟨Nat.le_of_ble_eq_true rfl, Nat.le_of_ble_eq_true rfl⟩) (show z0 + t3 ≤ iT ∧ z1 + t4 ≤ jT from ⟨ar_1 hci ei, ar_1 hcj ej⟩) hl.1.1 (by simp [rf_cat, ic_cat]) rfl dd_xQ_isWanted_1 (sk := [(.int t1)]) rfl (fun H locs hw => ?_)
  have hci : z0 + t3 + t5 = iT := ar_2 hci ei
  have hcj : z1 + t4 + t6 = jT := ar_2 hcj ej
  clear ei ej
  generalize z0 + t3 = t7 at hci ⊢
  generalize z1 + t4 = t8 at hcj ⊢
  by_cases hc4 : t1 = 0
  · rw [if_pos hc4] at h
    refine lv_if_ne (tgt := 25) X.1 X.2.1 dd_xQ_isWanted_4 (by decide) (fun z => absurd hc4 z) (fun _ => ?_)
    refine rr_aldn X dd_xQ_isWanted_7 rfl (lv_at hl.1 0 rfl) ?_
    refine lv_iconst (v := (1 : Int32)) X.1 X.2.1 dd_xQ_isWanted_8 (by decide) ?_
    obtain ⟨t27, ht27, h⟩ := st_g_some h
    obtain ⟨t9, t10, t11, t12, t13, t14, ht9, h, ei, ej⟩ := st_b_some h
    refine rr_callU (n := 1) (x := ⟨"PromiseVats$Promise", "unpaired", "(I)I"⟩) (owner := "PromiseVats$Entity") (As := [(.int (1 : Int32))]) (rest := []) X hw (kn_ok D ac a0 gl) hKs (kc_xE_unpaired l D ac a0 gl v0 (1 : Int32) _ _ _ _ _ ht9) tb_good tw_355 tw_16 tw_368 tw_369 (va_Decl.of (X.2.2.2.2.1 _ tw_356) (X.2.2.2.2.1 _ tw_355)) tw_356 se_30 ht27 (by decide +kernel) rfl (show 1 + 1 ≤ _ ∧ 8 + (4 + 11) + 21 ≤ _ from ⟨Nat.le_of_ble_eq_true rfl, Nat.le_of_ble_eq_true rfl⟩) (show t7 + t11 ≤ iT ∧ t8 + t12 ≤ jT from ⟨ar_1 hci ei, ar_1 hcj ej⟩) hl.1.1 (by simp [rf_cat, ic_cat]) rfl dd_xQ_isWanted_9 (sk := [(.int t9)]) rfl (fun H locs hw => ?_)
    have hci : t7 + t11 + t13 = iT := ar_2 hci ei
    have hcj : t8 + t12 + t14 = jT := ar_2 hcj ej
    clear ei ej
    generalize t7 + t11 = t15 at hci ⊢
    generalize t8 + t12 = t16 at hcj ⊢
    by_cases hc12 : 0 < t9
    · rw [if_pos hc12] at h
      refine lv_if_gt (tgt := 25) X.1 X.2.1 dd_xQ_isWanted_12 (by decide) (fun _ => ?_) (fun z => absurd hc12 z)
      exact (kb_xQ_isWanted_b25 X hKs hlk hret hnm) () _ _ _ _ _ _ _ _ hw (lh_pk hl [] rfl) h hci hcj
    · rw [if_neg hc12] at h
      refine lv_if_gt (tgt := 25) X.1 X.2.1 dd_xQ_isWanted_12 (by decide) (fun z => absurd z hc12) (fun _ => ?_)
      refine rr_aldn X dd_xQ_isWanted_15 rfl (lv_at hl.1 0 rfl) ?_
      obtain ⟨t17, ht17, h⟩ := st_g_some h
      refine rr_getq X hw ff_4_2 ht17 tw_252 (Or.inl rfl) dd_xQ_isWanted_16 ?_
      obtain ⟨t26, ht26, h⟩ := st_g_some h
      obtain ⟨t18, t19, t20, t21, t22, t23, ht18, h, ei, ej⟩ := st_b_some h
      refine rr_callV (n := 0) (As := []) (rest := []) X hw (kn_ok D ac a0 gl) hKs (kc_al_isEmpty l D ac a0 gl t17 _ _ _ _ _ ht18) tb_good tw_316 tw_33 tw_367 tw_318 se_22 ht26 (by decide +kernel) rfl (show 0 + 1 ≤ _ ∧ 8 + (1 + 11) + 0 ≤ _ from ⟨Nat.le_of_ble_eq_true rfl, Nat.le_of_ble_eq_true rfl⟩) (show t15 + t20 ≤ iT ∧ t16 + t21 ≤ jT from ⟨ar_1 hci ei, ar_1 hcj ej⟩) hl.1.1 (by simp [rf_cat, ic_cat]) rfl dd_xQ_isWanted_19 (sk := [(.int t18)]) rfl (fun H locs hw => ?_)
      have hci : t15 + t20 + t22 = iT := ar_2 hci ei
      have hcj : t16 + t21 + t23 = jT := ar_2 hcj ej
      clear ei ej
      generalize t15 + t20 = t24 at hci ⊢
      generalize t16 + t21 = t25 at hcj ⊢
      by_cases hc22 : t18 = 0
      · rw [if_pos hc22] at h
        refine lv_if_ne (tgt := 29) X.1 X.2.1 dd_xQ_isWanted_22 (by decide) (fun z => absurd hc22 z) (fun _ => ?_)
        exact (kb_xQ_isWanted_b25 X hKs hlk hret hnm) () _ _ _ _ _ _ _ _ hw (lh_pk hl [] rfl) h hci hcj
      · rw [if_neg hc22] at h
        refine lv_if_ne (tgt := 29) X.1 X.2.1 dd_xQ_isWanted_22 (by decide) (fun _ => ?_) (fun z => absurd z hc22)
        refine lv_iconst (v := (0 : Int32)) X.1 X.2.1 dd_xQ_isWanted_29 (by decide) ?_
        obtain ⟨rfl, rfl, rfl, rfl⟩ := st_r_some h
        exact rr_iret X hw hlk hret (by decide) hci hcj dd_xQ_isWanted_30
  · rw [if_neg hc4] at h
    refine lv_if_ne (tgt := 25) X.1 X.2.1 dd_xQ_isWanted_4 (by decide) (fun _ => ?_) (fun z => absurd z hc4)
    exact (kb_xQ_isWanted_b25 X hKs hlk hret hnm) () _ _ _ _ _ _ _ _ hw (lh_pk hl [] rfl) h hci hcj
/-! PromiseVats.reachWanted(I)V -/
theorem dd_xP_reachWanted_0 : decode prog_1_method_43_code 0 = .ok (.iconst 1, 1) := by decide +kernel
theorem dd_xP_reachWanted_1 : decode prog_1_method_43_code 1 = .ok (.istore_n 2, 1) := by decide +kernel
theorem dd_xP_reachWanted_2 : decode prog_1_method_43_code 2 = .ok (.iload_n 2, 1) := by decide +kernel
theorem dd_xP_reachWanted_3 : decode prog_1_method_43_code 3 = .ok (.aload_n 0, 1) := by decide +kernel
theorem dd_xP_reachWanted_4 : decode prog_1_method_43_code 4 = .ok (.getfield 32, 3) := by decide +kernel
theorem dd_xP_reachWanted_7 : decode prog_1_method_43_code 7 = .ok (.arraylength, 1) := by decide +kernel
theorem dd_xP_reachWanted_8 : decode prog_1_method_43_code 8 = .ok (.if_icmp .ge 47, 3) := by decide +kernel
theorem dd_xP_reachWanted_11 : decode prog_1_method_43_code 11 = .ok (.aload_n 0, 1) := by decide +kernel
theorem dd_xP_reachWanted_12 : decode prog_1_method_43_code 12 = .ok (.getfield 32, 3) := by decide +kernel
theorem dd_xP_reachWanted_15 : decode prog_1_method_43_code 15 = .ok (.iload_n 2, 1) := by decide +kernel
theorem dd_xP_reachWanted_16 : decode prog_1_method_43_code 16 = .ok (.aaload, 1) := by decide +kernel
theorem dd_xP_reachWanted_17 : decode prog_1_method_43_code 17 = .ok (.astore_n 3, 1) := by decide +kernel
theorem dd_xP_reachWanted_18 : decode prog_1_method_43_code 18 = .ok (.aload_n 3, 1) := by decide +kernel
theorem dd_xP_reachWanted_19 : decode prog_1_method_43_code 19 = .ok (.ifnull 30, 3) := by decide +kernel
theorem dd_xP_reachWanted_22 : decode prog_1_method_43_code 22 = .ok (.aload_n 3, 1) := by decide +kernel
theorem dd_xP_reachWanted_23 : decode prog_1_method_43_code 23 = .ok (.getfield 219, 3) := by decide +kernel
theorem dd_xP_reachWanted_26 : decode prog_1_method_43_code 26 = .ok (.iload_n 1, 1) := by decide +kernel
theorem dd_xP_reachWanted_27 : decode prog_1_method_43_code 27 = .ok (.if_icmp .ne 22, 3) := by decide +kernel
theorem dd_xP_reachWanted_30 : decode prog_1_method_43_code 30 = .ok (.aload_n 3, 1) := by decide +kernel
theorem dd_xP_reachWanted_31 : decode prog_1_method_43_code 31 = .ok (.getfield 239, 3) := by decide +kernel
theorem dd_xP_reachWanted_34 : decode prog_1_method_43_code 34 = .ok (.ifCond .ne 15, 3) := by decide +kernel
theorem dd_xP_reachWanted_37 : decode prog_1_method_43_code 37 = .ok (.aload_n 3, 1) := by decide +kernel
theorem dd_xP_reachWanted_38 : decode prog_1_method_43_code 38 = .ok (.invokevirtual 351, 3) := by decide +kernel
theorem dd_xP_reachWanted_41 : decode prog_1_method_43_code 41 = .ok (.ifCond .eq 8, 3) := by decide +kernel
theorem dd_xP_reachWanted_44 : decode prog_1_method_43_code 44 = .ok (.aload_n 0, 1) := by decide +kernel
theorem dd_xP_reachWanted_45 : decode prog_1_method_43_code 45 = .ok (.aload_n 3, 1) := by decide +kernel
theorem dd_xP_reachWanted_46 : decode prog_1_method_43_code 46 = .ok (.invokevirtual 337, 3) := by decide +kernel
theorem dd_xP_reachWanted_49 : decode prog_1_method_43_code 49 = .ok (.iinc 2 1, 3) := by decide +kernel
theorem dd_xP_reachWanted_52 : decode prog_1_method_43_code 52 = .ok (.goto (-50), 3) := by decide +kernel
theorem dd_xP_reachWanted_55 : decode prog_1_method_43_code 55 = .ok (.return_, 1) := by decide +kernel
set_option maxHeartbeats 4000000 in
set_option maxRecDepth 100000 in
theorem kb_xP_reachWanted_b49 {p : Program} {l : Launch} {e : Env} {s : State} {m : MethodId} {args : Array Value} {below : List Frame} {meth : Method} {c : Code} {D : va_G} {ac : Nat → ClassId} {a0 : Nat} {gl : gl_T} {rF : Unit} {stF : st_S} {iT jT : Nat} {rec2 : Option Nat × Int32 × Int32 → st_M (Unit)}
    (X : cx_ p s m args c prog_1_method_43_code 4 "PromiseVats" tb_ D cl_ (ty_ ac)) (hKs : kn_ D ac a0 gl s) (hlk : meth.locks = false) (hret : meth.sig.returnType = (Option.none : Option FieldType)) (hnm : meth.name = "reachWanted") (hr2 : wk_ p l e 3 64 s m args below meth c D cl_ ac a0 4 vb_u rF stF iT jT 2 (fun x : Option Nat × Int32 × Int32 => [(0, (va_rf x.1)), (1, (.int x.2.1)), (2, (.int x.2.2))]) (fun x : Option Nat × Int32 × Int32 => []) rec2) : wk_ p l e 3 64 s m args below meth c D cl_ ac a0 4 vb_u rF stF iT jT 49 (fun x : Option Nat × Int32 × Int32 => [(0, (va_rf x.1)), (1, (.int x.2.1)), (2, (.int x.2.2))]) (fun x : Option Nat × Int32 × Int32 => []) (fun x : Option Nat × Int32 × Int32 => xP_reachWanted_b49 gl rec2 x.1 x.2.1 x.2.2) := by
  intro x st H locs cells slots i j ls hw hl h hci hcj
  obtain ⟨p0, p1, p2⟩ := x
  have h : xP_reachWanted_b49 gl rec2 p0 p1 p2 st = some (rF, stF, i, j) := h
  unfold xP_reachWanted_b49 at h
  have hl : lh_ ls 4 [(0, (va_rf p0)), (1, (.int p1)), (2, (.int p2))] := hl
  refine W.eq (g2 := F0 m 49 ls []) rfl ?_
  refine rr_iinc (k := 2) (v := (p2 + (1 : Int32))) (lv' := [(2, (.int (p2 + (1 : Int32)))), (0, (va_rf p0)), (1, (.int p1))]) X dd_xP_reachWanted_49 hl rfl (by rw [show Int32.ofInt (1) = (1 : Int32) from by decide]) (by decide) rfl (fun ls hl => ?_)
  refine lv_goto (tgt := 2) X.1 X.2.1 dd_xP_reachWanted_52 (by decide) ?_
  exact hr2 (p0, p1, (p2 + (1 : Int32))) _ _ _ _ _ _ _ _ hw (lh_pk hl [1, 2, 0] rfl) h hci hcj
set_option maxHeartbeats 4000000 in
set_option maxRecDepth 100000 in
theorem kb_xP_reachWanted_b2 {p : Program} {l : Launch} {e : Env} {s : State} {m : MethodId} {args : Array Value} {below : List Frame} {meth : Method} {c : Code} {D : va_G} {ac : Nat → ClassId} {a0 : Nat} {gl : gl_T} {rF : Unit} {stF : st_S} {iT jT : Nat}
    (X : cx_ p s m args c prog_1_method_43_code 4 "PromiseVats" tb_ D cl_ (ty_ ac)) (hKs : kn_ D ac a0 gl s) (hlk : meth.locks = false) (hret : meth.sig.returnType = (Option.none : Option FieldType)) (hnm : meth.name = "reachWanted") : wk_ p l e 3 64 s m args below meth c D cl_ ac a0 4 vb_u rF stF iT jT 2 (fun x : Option Nat × Int32 × Int32 => [(0, (va_rf x.1)), (1, (.int x.2.1)), (2, (.int x.2.2))]) (fun x : Option Nat × Int32 × Int32 => []) (st_it (fun rec2 => (fun x : Option Nat × Int32 × Int32 => xP_reachWanted_b2 gl rec2 x.1 x.2.1 x.2.2)) fu_) := by
  refine wk_it ?_ _
  intro rec2 hr2 x st H locs cells slots i j ls hw hl h hci hcj
  obtain ⟨p0, p1, p2⟩ := x
  have h : xP_reachWanted_b2 gl rec2 p0 p1 p2 st = some (rF, stF, i, j) := h
  unfold xP_reachWanted_b2 at h
  have hl : lh_ ls 4 [(0, (va_rf p0)), (1, (.int p1)), (2, (.int p2))] := hl
  refine W.eq (g2 := F0 m 2 ls []) rfl ?_
  refine lv_iload_n X.1 X.2.1 dd_xP_reachWanted_2 rfl (lv_at hl.1 2 rfl) ?_
  refine rr_aldn X dd_xP_reachWanted_3 rfl (lv_at hl.1 0 rfl) ?_
  obtain ⟨t1, ht1, h⟩ := st_g_some h
  refine rr_getq X hw ff_0_2 ht1 tw_64 (Or.inl rfl) dd_xP_reachWanted_4 ?_
  obtain ⟨t2, ht2, h⟩ := st_g_some h
  refine rr_alen X hw (tl_6 ac) ht2 dd_xP_reachWanted_7 ?_
  by_cases hc8 : t2 ≤ p2
  · rw [if_pos hc8] at h
    refine lv_icmp_ge (tgt := 55) X.1 X.2.1 dd_xP_reachWanted_8 (by decide) (fun _ => ?_) (fun z => absurd hc8 z)
    obtain ⟨rfl, rfl, rfl, rfl⟩ := st_r_some h
    exact rr_vret X hw hlk hret hci hcj dd_xP_reachWanted_55
  · rw [if_neg hc8] at h
    refine lv_icmp_ge (tgt := 55) X.1 X.2.1 dd_xP_reachWanted_8 (by decide) (fun z => absurd z hc8) (fun _ => ?_)
    refine rr_aldn X dd_xP_reachWanted_11 rfl (lv_at hl.1 0 rfl) ?_
    obtain ⟨t3, ht3, h⟩ := st_g_some h
    refine rr_getq X hw ff_0_2 ht3 tw_64 (Or.inl rfl) dd_xP_reachWanted_12 ?_
    refine lv_iload_n X.1 X.2.1 dd_xP_reachWanted_15 rfl (lv_at hl.1 2 rfl) ?_
    obtain ⟨t4, ht4, h⟩ := st_g_some h
    refine rr_aald X hw (tq_6 ac) ht4 dd_xP_reachWanted_16 ?_
    refine rr_astn (lv' := [(3, (va_rf t4)), (0, (va_rf p0)), (1, (.int p1)), (2, (.int p2))]) X dd_xP_reachWanted_17 rfl hl (by decide) rfl (fun ls hl => ?_)
    refine rr_aldn X dd_xP_reachWanted_18 rfl (lv_at hl.1 0 rfl) ?_
    by_cases hc19 : t4 = none
    · rw [if_pos hc19] at h
      refine rr_ifnull (tgt := 49) X dd_xP_reachWanted_19 (by decide) (fun _ => ?_) (fun z => absurd hc19 z)
      exact (kb_xP_reachWanted_b49 X hKs hlk hret hnm hr2) (p0, p1, p2) _ _ _ _ _ _ _ _ hw (lh_pk hl [1, 2, 3] rfl) h hci hcj
    · rw [if_neg hc19] at h
      refine rr_ifnull (tgt := 49) X dd_xP_reachWanted_19 (by decide) (fun z => absurd z hc19) (fun _ => ?_)
      refine rr_aldn X dd_xP_reachWanted_22 rfl (lv_at hl.1 0 rfl) ?_
      obtain ⟨t5, ht5, h⟩ := st_g_some h
      refine rr_geti X hw ff_3_4_4 ht5 tw_196 (Or.inl rfl) dd_xP_reachWanted_23 ?_
      refine lv_iload_n X.1 X.2.1 dd_xP_reachWanted_26 rfl (lv_at hl.1 2 rfl) ?_
      by_cases hc27 : t5 = p1
      · rw [if_pos hc27] at h
        refine lv_icmp_ne (tgt := 49) X.1 X.2.1 dd_xP_reachWanted_27 (by decide) (fun z => absurd hc27 z) (fun _ => ?_)
        refine rr_aldn X dd_xP_reachWanted_30 rfl (lv_at hl.1 0 rfl) ?_
        obtain ⟨t6, ht6, h⟩ := st_g_some h
        refine rr_geti X hw ff_3_4_5 ht6 tw_386 (Or.inl rfl) dd_xP_reachWanted_31 ?_
        by_cases hc34 : t6 = 0
        · rw [if_pos hc34] at h
          refine lv_if_ne (tgt := 49) X.1 X.2.1 dd_xP_reachWanted_34 (by decide) (fun z => absurd hc34 z) (fun _ => ?_)
          refine rr_aldn X dd_xP_reachWanted_37 rfl (lv_at hl.1 0 rfl) ?_
          obtain ⟨t7, ht7, h⟩ := st_g_some h
          by_cases hc38 : t7 ∈ ([3] : List Nat)
          · rw [if_pos hc38] at h
            obtain ⟨t25, ht25, h⟩ := st_g_some h
            obtain ⟨t8, t9, t10, t11, t12, t13, ht8, h, ei, ej⟩ := st_b_some h
            refine rr_callU (n := 0) (x := ⟨"PromiseVats$Entity", "isWanted", "()Z"⟩) (owner := "PromiseVats$Entity") (As := []) (rest := []) X hw (kn_ok D ac a0 gl) hKs (kc_xE_isWanted l D ac a0 gl t4 _ _ _ _ _ ht8) tb_good tw_378 tw_16 tw_380 tw_381 (va_Decl.of (X.2.2.2.2.1 _ tw_379) (X.2.2.2.2.1 _ tw_378)) tw_379 se_33 ht25 (by decide +kernel) rfl (show 2 + 1 ≤ _ ∧ 8 + (1 + 11) + 44 ≤ _ from ⟨Nat.le_of_ble_eq_true rfl, Nat.le_of_ble_eq_true rfl⟩) (show cells + t10 ≤ iT ∧ slots + t11 ≤ jT from ⟨ar_1 hci ei, ar_1 hcj ej⟩) hl.1.1 (by simp [rf_cat, ic_cat]) rfl dd_xP_reachWanted_38 (sk := [(.int t8)]) rfl (fun H locs hw => ?_)
            have hci : cells + t10 + t12 = iT := ar_2 hci ei
            have hcj : slots + t11 + t13 = jT := ar_2 hcj ej
            clear ei ej
            generalize cells + t10 = t14 at hci ⊢
            generalize slots + t11 = t15 at hcj ⊢
            by_cases hc41 : t8 = 0
            · rw [if_pos hc41] at h
              refine lv_if_eq (tgt := 49) X.1 X.2.1 dd_xP_reachWanted_41 (by decide) (fun _ => ?_) (fun z => absurd hc41 z)
              exact (kb_xP_reachWanted_b49 X hKs hlk hret hnm hr2) (p0, p1, p2) _ _ _ _ _ _ _ _ hw (lh_pk hl [1, 2, 3] rfl) h hci hcj
            · rw [if_neg hc41] at h
              refine lv_if_eq (tgt := 49) X.1 X.2.1 dd_xP_reachWanted_41 (by decide) (fun z => absurd z hc41) (fun _ => ?_)
              refine rr_aldn X dd_xP_reachWanted_44 rfl (lv_at hl.1 1 rfl) ?_
              refine rr_aldn X dd_xP_reachWanted_45 rfl (lv_at hl.1 0 rfl) ?_
              obtain ⟨t24, ht24, h⟩ := st_g_some h
              obtain ⟨t16, t17, t18, t19, t20, t21, ht16, h, ei, ej⟩ := st_b_some h
              refine rr_callV (n := 1) (As := [(va_rf t4)]) (rest := []) X hw (kn_ok D ac a0 gl) hKs (kc_xP_reach l D ac a0 gl p0 t4 _ _ _ _ _ ht16) tb_good tw_374 tw_91 tw_375 tw_376 se_32 ht24 (by decide +kernel) rfl (show 0 + 1 ≤ _ ∧ 8 + (2 + 11) + 0 ≤ _ from ⟨Nat.le_of_ble_eq_true rfl, Nat.le_of_ble_eq_true rfl⟩) (show t14 + t18 ≤ iT ∧ t15 + t19 ≤ jT from ⟨ar_1 hci ei, ar_1 hcj ej⟩) hl.1.1 (by simp [rf_cat, ic_cat]) rfl dd_xP_reachWanted_46 (sk := []) rfl (fun H locs hw => ?_)
              have hci : t14 + t18 + t20 = iT := ar_2 hci ei
              have hcj : t15 + t19 + t21 = jT := ar_2 hcj ej
              clear ei ej
              generalize t14 + t18 = t22 at hci ⊢
              generalize t15 + t19 = t23 at hcj ⊢
              exact (kb_xP_reachWanted_b49 X hKs hlk hret hnm hr2) (p0, p1, p2) _ _ _ _ _ _ _ _ hw (lh_pk hl [1, 2, 3] rfl) h hci hcj
          · rw [if_neg hc38] at h
            obtain ⟨t43, ht43, h⟩ := st_g_some h
            obtain ⟨t26, t27, t28, t29, t30, t31, ht26, h, ei, ej⟩ := st_b_some h
            refine rr_callU (n := 0) (x := ⟨"PromiseVats$Entity", "isWanted", "()Z"⟩) (owner := "PromiseVats$Entity") (As := []) (rest := []) X hw (kn_ok D ac a0 gl) hKs (kc_xQ_isWanted l D ac a0 gl t4 _ _ _ _ _ ht26) tb_good tw_383 tw_263 tw_380 tw_381 (va_Decl.of (X.2.2.2.2.1 _ tw_379) (X.2.2.2.2.1 _ tw_378)) tw_384 se_34 ht43 (by decide +kernel) rfl (show 2 + 1 ≤ _ ∧ 8 + (1 + 11) + 44 ≤ _ from ⟨Nat.le_of_ble_eq_true rfl, Nat.le_of_ble_eq_true rfl⟩) (show cells + t28 ≤ iT ∧ slots + t29 ≤ jT from ⟨ar_1 hci ei, ar_1 hcj ej⟩) hl.1.1 (by simp [rf_cat, ic_cat]) rfl dd_xP_reachWanted_38 (sk := [(.int t26)]) rfl (fun H locs hw => ?_)
            have hci : cells + t28 + t30 = iT := ar_2 hci ei
            have hcj : slots + t29 + t31 = jT := ar_2 hcj ej
            clear ei ej
            generalize cells + t28 = t32 at hci ⊢
            generalize slots + t29 = t33 at hcj ⊢
            by_cases hc41 : t26 = 0
            · rw [if_pos hc41] at h
              refine lv_if_eq (tgt := 49) X.1 X.2.1 dd_xP_reachWanted_41 (by decide) (fun _ => ?_) (fun z => absurd hc41 z)
              exact (kb_xP_reachWanted_b49 X hKs hlk hret hnm hr2) (p0, p1, p2) _ _ _ _ _ _ _ _ hw (lh_pk hl [1, 2, 3] rfl) h hci hcj
            · rw [if_neg hc41] at h
              refine lv_if_eq (tgt := 49) X.1 X.2.1 dd_xP_reachWanted_41 (by decide) (fun z => absurd z hc41) (fun _ => ?_)
              refine rr_aldn X dd_xP_reachWanted_44 rfl (lv_at hl.1 1 rfl) ?_
              refine rr_aldn X dd_xP_reachWanted_45 rfl (lv_at hl.1 0 rfl) ?_
              obtain ⟨t42, ht42, h⟩ := st_g_some h
              obtain ⟨t34, t35, t36, t37, t38, t39, ht34, h, ei, ej⟩ := st_b_some h
              refine rr_callV (n := 1) (As := [(va_rf t4)]) (rest := []) X hw (kn_ok D ac a0 gl) hKs (kc_xP_reach l D ac a0 gl p0 t4 _ _ _ _ _ ht34) tb_good tw_374 tw_91 tw_375 tw_376 se_32 ht42 (by decide +kernel) rfl (show 0 + 1 ≤ _ ∧ 8 + (2 + 11) + 0 ≤ _ from ⟨Nat.le_of_ble_eq_true rfl, Nat.le_of_ble_eq_true rfl⟩) (show t32 + t36 ≤ iT ∧ t33 + t37 ≤ jT from ⟨ar_1 hci ei, ar_1 hcj ej⟩) hl.1.1 (by simp [rf_cat, ic_cat]) rfl dd_xP_reachWanted_46 (sk := []) rfl (fun H locs hw => ?_)
              have hci : t32 + t36 + t38 = iT := ar_2 hci ei
              have hcj : t33 + t37 + t39 = jT := ar_2 hcj ej
              clear ei ej
              generalize t32 + t36 = t40 at hci ⊢
              generalize t33 + t37 = t41 at hcj ⊢
              exact (kb_xP_reachWanted_b49 X hKs hlk hret hnm hr2) (p0, p1, p2) _ _ _ _ _ _ _ _ hw (lh_pk hl [1, 2, 3] rfl) h hci hcj
        · rw [if_neg hc34] at h
          refine lv_if_ne (tgt := 49) X.1 X.2.1 dd_xP_reachWanted_34 (by decide) (fun _ => ?_) (fun z => absurd z hc34)
          exact (kb_xP_reachWanted_b49 X hKs hlk hret hnm hr2) (p0, p1, p2) _ _ _ _ _ _ _ _ hw (lh_pk hl [1, 2, 3] rfl) h hci hcj
      · rw [if_neg hc27] at h
        refine lv_icmp_ne (tgt := 49) X.1 X.2.1 dd_xP_reachWanted_27 (by decide) (fun _ => ?_) (fun z => absurd z hc27)
        exact (kb_xP_reachWanted_b49 X hKs hlk hret hnm hr2) (p0, p1, p2) _ _ _ _ _ _ _ _ hw (lh_pk hl [1, 2, 3] rfl) h hci hcj
set_option maxHeartbeats 4000000 in
set_option maxRecDepth 100000 in
theorem kc_xP_reachWanted (l : Launch) (D : va_G) (ac : Nat → ClassId) (a0 : Nat) (gl : gl_T) (v0 : Option Nat) (v1 : Int32) (st : st_S) (rF : Unit) (stF : st_S) (iT jT : Nat) (h : xP_reachWanted gl v0 v1 st = some (rF, stF, iT, jT)) :
    ct_ l ⟨"PromiseVats", "reachWanted", "(I)V"⟩ (Cond.code ⟨"PromiseVats", "reachWanted", "(I)V"⟩ prog_1_method_43_code 4 (Option.none : Option FieldType) :: tb_) 3 64 D cl_ ac a0 (kn_ D ac a0 gl) [(va_rf v0), (.int v1)] st (vb_u rF) stF iT jT := by
  refine ct_of (kn_ok D ac a0 gl) (plainFor_of_name (by decide +kernel)) (by simp [rf_cat, ic_cat]) (by simp) ?_
  intro p e s m args below meth c ls X hw hKs hlk hret hnm hl
  unfold xP_reachWanted at h
  have hl : lh_ ls 4 [(0, (va_rf v0)), (1, (.int v1))] := hl
  obtain ⟨z0, hz0⟩ : ∃ z : Nat, 0 = z := ⟨0, rfl⟩
  obtain ⟨z1, hz1⟩ : ∃ z : Nat, 0 = z := ⟨0, rfl⟩
  refine W.cs hz0 hz1 ?_
  have hci : z0 + iT = iT := by omega
  have hcj : z1 + jT = jT := by omega
  refine lv_iconst (v := (1 : Int32)) X.1 X.2.1 dd_xP_reachWanted_0 (by decide) ?_
  refine rr_istn (lv' := [(2, (.int (1 : Int32))), (0, (va_rf v0)), (1, (.int v1))]) X dd_xP_reachWanted_1 rfl hl (by decide) rfl (fun ls hl => ?_)
  exact (kb_xP_reachWanted_b2 X hKs hlk hret hnm) (v0, v1, (1 : Int32)) _ _ _ _ _ _ _ _ hw (lh_pk hl [1, 2, 0] rfl) h hci hcj
