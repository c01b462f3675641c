/-! PromiseVats.isVat(I)Z -/
theorem dd_xP_isVat_0 : decode prog_1_method_19_code 0 = .ok (.iload_n 1, 1) := by decide +kernel
theorem dd_xP_isVat_1 : decode prog_1_method_19_code 1 = .ok (.ifCond .lt 16, 3) := by decide +kernel
theorem dd_xP_isVat_4 : decode prog_1_method_19_code 4 = .ok (.iload_n 1, 1) := by decide +kernel
theorem dd_xP_isVat_5 : decode prog_1_method_19_code 5 = .ok (.aload_n 0, 1) := by decide +kernel
theorem dd_xP_isVat_6 : decode prog_1_method_19_code 6 = .ok (.getfield 20, 3) := by decide +kernel
theorem dd_xP_isVat_9 : decode prog_1_method_19_code 9 = .ok (.arraylength, 1) := by decide +kernel
theorem dd_xP_isVat_10 : decode prog_1_method_19_code 10 = .ok (.if_icmp .ge 7, 3) := by decide +kernel
theorem dd_xP_isVat_13 : decode prog_1_method_19_code 13 = .ok (.iconst 1, 1) := by decide +kernel
theorem dd_xP_isVat_14 : decode prog_1_method_19_code 14 = .ok (.goto 4, 3) := by decide +kernel
theorem dd_xP_isVat_17 : decode prog_1_method_19_code 17 = .ok (.iconst 0, 1) := by decide +kernel
theorem dd_xP_isVat_18 : decode prog_1_method_19_code 18 = .ok (.ireturn, 1) := by decide +kernel
set_option maxHeartbeats 4000000 in
set_option maxRecDepth 100000 in
theorem kb_xP_isVat_b17 {p : Program} {l : Launch} {e : Env} {s : State} {m : MethodId} {args : Array Value} {below : List Frame} {meth : Method} {c : Code} {D : va_G} {ac : Nat → ClassId} {a0 : Nat} {gl : gl_T} {rF : Int32} {stF : st_S} {iT jT : Nat}
    (X : cx_ p s m args c prog_1_method_19_code 2 "PromiseVats" tb_ D cl_ (ty_ ac)) (hKs : kn_ D ac a0 gl s) (hlk : meth.locks = false) (hret : meth.sig.returnType = (Option.some FieldType.boolean)) (hnm : meth.name = "isVat") : wk_ p l e 0 0 s m args below meth c D cl_ ac a0 2 vb_i rF stF iT jT 17 (fun x : Unit => []) (fun x : Unit => []) (fun _ : Unit => xP_isVat_b17 gl) := by
  intro x st H locs cells slots i j ls hw hl h hci hcj
  have h : xP_isVat_b17 gl  st = some (rF, stF, i, j) := h
  unfold xP_isVat_b17 at h
  have hl : lh_ ls 2 [] := hl
  refine W.eq (g2 := F0 m 17 ls []) rfl ?_
  refine lv_iconst (v := (0 : Int32)) X.1 X.2.1 dd_xP_isVat_17 (by decide) ?_
  obtain ⟨rfl, rfl, rfl, rfl⟩ := st_r_some h
  exact rr_iret X hw hlk hret (by decide) (by omega) (by omega) dd_xP_isVat_18
set_option maxHeartbeats 4000000 in
set_option maxRecDepth 100000 in
theorem kc_xP_isVat (l : Launch) (D : va_G) (ac : Nat → ClassId) (a0 : Nat) (gl : gl_T) (v0 : Option Nat) (v1 : Int32) (st : st_S) (rF : Int32) (stF : st_S) (iT jT : Nat) (h : xP_isVat gl v0 v1 st = some (rF, stF, iT, jT)) :
    ct_ l ⟨"PromiseVats", "isVat", "(I)Z"⟩ (Cond.code ⟨"PromiseVats", "isVat", "(I)Z"⟩ prog_1_method_19_code 2 (Option.some FieldType.boolean) :: tb_) 0 0 D cl_ ac a0 (kn_ D ac a0 gl) [(va_rf v0), (.int v1)] st (vb_i rF) stF iT jT := by
  refine ct_of (kn_ok D ac a0 gl) (plainFor_of_name (by decide +kernel)) (by simp [rf_cat, ic_cat]) (by simp) ?_
  intro p e s m args below meth c ls X hw hKs hlk hret hnm hl
  unfold xP_isVat at h
  have hl : lh_ ls 2 [(0, (va_rf v0)), (1, (.int v1))] := hl
  have hci : 0 + iT = iT := Nat.zero_add _
  have hcj : 0 + jT = jT := Nat.zero_add _
  refine lv_iload_n X.1 X.2.1 dd_xP_isVat_0 rfl (lv_at hl.1 1 rfl) ?_
  by_cases hc1 : v1 < 0
  · rw [if_pos hc1] at h
    refine lv_if_lt (tgt := 17) X.1 X.2.1 dd_xP_isVat_1 (by decide) (fun _ => ?_) (fun z => absurd hc1 z)
    exact (kb_xP_isVat_b17 X hKs hlk hret hnm) () _ _ _ _ _ _ _ _ hw (lh_pk hl [] rfl) h hci hcj
  · rw [if_neg hc1] at h
    refine lv_if_lt (tgt := 17) X.1 X.2.1 dd_xP_isVat_1 (by decide) (fun z => absurd z hc1) (fun _ => ?_)
    refine lv_iload_n X.1 X.2.1 dd_xP_isVat_4 rfl (lv_at hl.1 1 rfl) ?_
    refine rr_aldn X dd_xP_isVat_5 rfl (lv_at hl.1 0 rfl) ?_
    obtain ⟨t1, ht1, h⟩ := st_g_some h
    refine rr_getq X hw ff_0_0 ht1 tw_66 (Or.inl rfl) dd_xP_isVat_6 ?_
    obtain ⟨t2, ht2, h⟩ := st_g_some h
    refine rr_alen X hw (tl_4 ac) ht2 dd_xP_isVat_9 ?_
    by_cases hc10 : t2 ≤ v1
    · rw [if_pos hc10] at h
      refine lv_icmp_ge (tgt := 17) X.1 X.2.1 dd_xP_isVat_10 (by decide) (fun _ => ?_) (fun z => absurd hc10 z)
      exact (kb_xP_isVat_b17 X hKs hlk hret hnm) () _ _ _ _ _ _ _ _ hw (lh_pk hl [] rfl) h hci hcj
    · rw [if_neg hc10] at h
      refine lv_icmp_ge (tgt := 17) X.1 X.2.1 dd_xP_isVat_10 (by decide) (fun z => absurd z hc10) (fun _ => ?_)
      refine lv_iconst (v := (1 : Int32)) X.1 X.2.1 dd_xP_isVat_13 (by decide) ?_
      refine lv_goto (tgt := 18) X.1 X.2.1 dd_xP_isVat_14 (by decide) ?_
      obtain ⟨rfl, rfl, rfl, rfl⟩ := st_r_some h
      exact rr_iret X hw hlk hret (by decide) (by omega) (by omega) dd_xP_isVat_18
/-! PromiseVats.referenceTo(LPromiseVats$Entity;)I -/
theorem dd_xP_referenceTo_0 : decode prog_1_method_25_code 0 = .ok (.aload_n 0, 1) := by decide +kernel
theorem dd_xP_referenceTo_1 : decode prog_1_method_25_code 1 = .ok (.ifnonnull 7, 3) := by decide +kernel
theorem dd_xP_referenceTo_4 : decode prog_1_method_25_code 4 = .ok (.iconst 0, 1) := by decide +kernel
theorem dd_xP_referenceTo_5 : decode prog_1_method_25_code 5 = .ok (.goto 7, 3) := by decide +kernel
theorem dd_xP_referenceTo_8 : decode prog_1_method_25_code 8 = .ok (.aload_n 0, 1) := by decide +kernel
theorem dd_xP_referenceTo_9 : decode prog_1_method_25_code 9 = .ok (.getfield 242, 3) := by decide +kernel
theorem dd_xP_referenceTo_12 : decode prog_1_method_25_code 12 = .ok (.ireturn, 1) := by decide +kernel
set_option maxHeartbeats 4000000 in
set_option maxRecDepth 100000 in
theorem kc_xP_referenceTo (l : Launch) (D : va_G) (ac : Nat → ClassId) (a0 : Nat) (gl : gl_T) (v0 : Option Nat) (st : st_S) (rF : Int32) (stF : st_S) (iT jT : Nat) (h : xP_referenceTo gl v0 st = some (rF, stF, iT, jT)) :
    ct_ l ⟨"PromiseVats", "referenceTo", "(LPromiseVats$Entity;)I"⟩ (Cond.code ⟨"PromiseVats", "referenceTo", "(LPromiseVats$Entity;)I"⟩ prog_1_method_25_code 1 (Option.some FieldType.int) :: tb_) 0 0 D cl_ ac a0 (kn_ D ac a0 gl) [(va_rf v0)] st (vb_i rF) stF iT jT := by
  refine ct_of (kn_ok D ac a0 gl) (plainFor_of_name (by decide +kernel)) (by simp [rf_cat, ic_cat]) (by simp) ?_
  intro p e s m args below meth c ls X hw hKs hlk hret hnm hl
  unfold xP_referenceTo at h
  have hl : lh_ ls 1 [(0, (va_rf v0))] := hl
  have hci : 0 + iT = iT := Nat.zero_add _
  have hcj : 0 + jT = jT := Nat.zero_add _
  refine rr_aldn X dd_xP_referenceTo_0 rfl (lv_at hl.1 0 rfl) ?_
  by_cases hc1 : v0 = none
  · rw [if_pos hc1] at h
    refine rr_ifnonnull (tgt := 8) X dd_xP_referenceTo_1 (by decide) (fun z => absurd hc1 z) (fun _ => ?_)
    refine lv_iconst (v := (0 : Int32)) X.1 X.2.1 dd_xP_referenceTo_4 (by decide) ?_
    refine lv_goto (tgt := 12) X.1 X.2.1 dd_xP_referenceTo_5 (by decide) ?_
    obtain ⟨rfl, rfl, rfl, rfl⟩ := st_r_some h
    exact rr_iret X hw hlk hret rfl (by omega) (by omega) dd_xP_referenceTo_12
  · rw [if_neg hc1] at h
    refine rr_ifnonnull (tgt := 8) X dd_xP_referenceTo_1 (by decide) (fun _ => ?_) (fun z => absurd z hc1)
    refine rr_aldn X dd_xP_referenceTo_8 rfl (lv_at hl.1 0 rfl) ?_
    obtain ⟨t1, ht1, h⟩ := st_g_some h
    refine rr_geti X hw ff_3_4_3 ht1 tw_430 (Or.inl rfl) dd_xP_referenceTo_9 ?_
    obtain ⟨rfl, rfl, rfl, rfl⟩ := st_r_some h
    exact rr_iret X hw hlk hret rfl (by omega) (by omega) dd_xP_referenceTo_12
