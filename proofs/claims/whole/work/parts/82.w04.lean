/-! PromiseVats.isVat(I)Z -/
theorem dd_xP_isVat_0 : decode prog_1_method_19_code 0 = .ok (.iload_n 1, 1) := by decide +kernel
theorem dd_xP_isVat_1 : decode prog_1_method_19_code 1 = .ok (.ifCond .lt 16, 3) := by decide +kernel
theorem dd_xP_isVat_4 : decode prog_1_method_19_code 4 = .ok (.iload_n 1, 1) := by decide +kernel
theorem dd_xP_isVat_5 : decode prog_1_method_19_code 5 = .ok (.aload_n 0, 1) := by decide +kernel
theorem dd_xP_isVat_6 : decode prog_1_method_19_code 6 = .ok (.getfield 20, 3) := by decide +kernel
theorem dd_xP_isVat_9 : decode prog_1_method_19_code 9 = .ok (.arraylength, 1) := by decide +kernel
theorem dd_xP_isVat_10 : decode prog_1_method_19_code 10 = .ok (.if_icmp .ge 7, 3) := by decide +kernel
theorem dd_xP_isVat_13 : decode prog_1_method_19_code 13 = .ok (.iconst 1, 1) := by decide +kernel
theorem dd_xP_isVat_14 : decode prog_1_method_19_code 14 = .ok (.goto 4, 3) := by decide +kernel
theorem dd_xP_isVat_17 : decode prog_1_method_19_code 17 = .ok (.iconst 0, 1) := by decide +kernel
theorem dd_xP_isVat_18 : decode prog_1_method_19_code 18 = .ok (.ireturn, 1) := by decide +kernel
set_option maxHeartbeats 4000000 in
set_option maxRecDepth 100000 in
theorem kb_xP_isVat_b17 {p : Program} {l : Launch} {e : Env} {s : State} {m : MethodId} {args : Array Value} {below : List Frame} {meth : Method} {c : Code} {D : va_G} {ac : Nat → ClassId} {a0 : Nat} {gl : gl_T} {rF : Int32} {stF : st_S} {iT jT : Nat}
    (X : cx_ p s m args c prog_1_method_19_code 2 "PromiseVats" tb_ D cl_ (ty_ ac)) (hKs : kn_ D ac a0 gl s) (hlk : meth.locks = false) (hret : meth.sig.returnType = (Option.some FieldType.boolean)) (hnm : meth.name = "isVat") : wk_ p l e 0 0 s m args below meth c D cl_ ac a0 2 vb_i rF stF iT jT 17 (fun x : Unit => []) (fun x : Unit => []) (fun _ : Unit => xP_isVat_b17 gl) := by
  intro x st H locs cells slots i j ls hw hl h hci hcj
  have h : xP_isVat_b17 gl  st = some (rF, stF, i, j) := h
  unfold xP_isVat_b17 at h
  have hl : lh_ ls 2 [] := hl
  refine W.eq (g2 := F0 m 17 ls []) rfl ?_
  refine lv_iconst (v := (0 : Int32)) X.1 X.2.1 dd_xP_isVat_17 (by decide) ?_
  obtain ⟨rfl, rfl, rfl, rfl⟩ := st_r_some h
  exact rr_iret X hw hlk hret (by decide) hci hcj dd_xP_isVat_18
set_option maxHeartbeats 4000000 in
set_option maxRecDepth 100000 in
theorem kc_xP_isVat (l : Launch) (D : va_G) (ac : Nat → ClassId) (a0 : Nat) (gl : gl_T) (v0 : Option Nat) (v1 : Int32) (st : st_S) (rF : Int32) (stF : st_S) (iT jT : Nat) (h : xP_isVat gl v0 v1 st = some (rF, stF, iT, jT)) :
    ct_ l ⟨"PromiseVats", "isVat", "(I)Z"⟩ (Cond.code ⟨"PromiseVats", "isVat", "(I)Z"⟩ prog_1_method_19_code 2 (Option.some FieldType.boolean) :: tb_) 0 0 D cl_ ac a0 (kn_ D ac a0 gl) [(va_rf v0), (.int v1)] st (vb_i rF) stF iT jT := by
  refine ct_of (kn_ok D ac a0 gl) (plainFor_of_name (by decide +kernel)) (by simp [rf_cat, ic_cat]) (by simp) ?_
  intro p e s m args below meth c ls X hw hKs hlk hret hnm hl
  unfold xP_isVat at h
  have hl : lh_ ls 2 [(0, (va_rf v0)), (1, (.int v1))] := hl
  obtain ⟨z0, hz0⟩ : ∃ z : Nat, 0 = z := ⟨0, rfl⟩
  obtain ⟨z1, hz1⟩ : ∃ z : Nat, 0 = z := ⟨0, rfl⟩
  refine W.cs hz0 hz1 ?_
  have hci : z0 + iT = iT := by omega
  have hcj : z1 + jT = jT := by omega
  refine lv_iload_n X.1 X.2.1 dd_xP_isVat_0 rfl (lv_at hl.1 1 rfl) ?_
  by_cases hc1 : v1 < 0
  · rw [if_pos hc1] at h
    refine lv_if_lt (tgt := 17) X.1 X.2.1 dd_xP_isVat_1 (by decide) (fun _ => ?_) (fun z => absurd hc1 z)
    exact (kb_xP_isVat_b17 X hKs hlk hret hnm) () _ _ _ _ _ _ _ _ hw (lh_pk hl [] rfl) h hci hcj
  · rw [if_neg hc1] at h
    refine lv_if_lt (tgt := 17) X.1 X.2.1 dd_xP_isVat_1 (by decide) (fun z => absurd z hc1) (fun _ => ?_)
    refine lv_iload_n X.1 X.2.1 dd_xP_isVat_4 rfl (lv_at hl.1 1 rfl) ?_
    refine rr_aldn X dd_xP_isVat_5 rfl (lv_at hl.1 0 rfl) ?_
    obtain ⟨t1, ht1, h⟩ := st_g_some h
    refine rr_getq X hw ff_0_0 ht1 tw_66 (Or.inl rfl) dd_xP_isVat_6 ?_
    obtain ⟨t2, ht2, h⟩ := st_g_some h
    refine rr_alen X hw (tl_4 ac) ht2 dd_xP_isVat_9 ?_
    by_cases hc10 : t2 ≤ v1
    · rw [if_pos hc10] at h
      refine lv_icmp_ge (tgt := 17) X.1 X.2.1 dd_xP_isVat_10 (by decide) (fun _ => ?_) (fun z => absurd hc10 z)
      exact (kb_xP_isVat_b17 X hKs hlk hret hnm) () _ _ _ _ _ _ _ _ hw (lh_pk hl [] rfl) h hci hcj
    · rw [if_neg hc10] at h
      refine lv_icmp_ge (tgt := 17) X.1 X.2.1 dd_xP_isVat_10 (by decide) (fun z => absurd z hc10) (fun _ => ?_)
      refine lv_iconst (v := (1 : Int32)) X.1 X.2.1 dd_xP_isVat_13 (by decide) ?_
      refine lv_goto (tgt := 18) X.1 X.2.1 dd_xP_isVat_14 (by decide) ?_
      obtain ⟨rfl, rfl, rfl, rfl⟩ := st_r_some h
      exact rr_iret X hw hlk hret (by decide) hci hcj dd_xP_isVat_18
/-! PromiseVats.give(III)Z -/
theorem dd_xP_give_0 : decode prog_1_method_4_code 0 = .ok (.aload_n 0, 1) := by decide +kernel
theorem dd_xP_give_1 : decode prog_1_method_4_code 1 = .ok (.iload_n 1, 1) := by decide +kernel
theorem dd_xP_give_2 : decode prog_1_method_4_code 2 = .ok (.invokevirtual 83, 3) := by decide +kernel
theorem dd_xP_give_5 : decode prog_1_method_4_code 5 = .ok (.ifCond .eq 18, 3) := by decide +kernel
theorem dd_xP_give_8 : decode prog_1_method_4_code 8 = .ok (.iload_n 2, 1) := by decide +kernel
theorem dd_xP_give_9 : decode prog_1_method_4_code 9 = .ok (.invokestatic 86, 3) := by decide +kernel
theorem dd_xP_give_12 : decode prog_1_method_4_code 12 = .ok (.ifCond .eq 11, 3) := by decide +kernel
theorem dd_xP_give_15 : decode prog_1_method_4_code 15 = .ok (.aload_n 0, 1) := by decide +kernel
theorem dd_xP_give_16 : decode prog_1_method_4_code 16 = .ok (.iload_n 3, 1) := by decide +kernel
theorem dd_xP_give_17 : decode prog_1_method_4_code 17 = .ok (.invokevirtual 83, 3) := by decide +kernel
theorem dd_xP_give_20 : decode prog_1_method_4_code 20 = .ok (.ifCond .ne 5, 3) := by decide +kernel
theorem dd_xP_give_23 : decode prog_1_method_4_code 23 = .ok (.iconst 0, 1) := by decide +kernel
theorem dd_xP_give_24 : decode prog_1_method_4_code 24 = .ok (.ireturn, 1) := by decide +kernel
theorem dd_xP_give_25 : decode prog_1_method_4_code 25 = .ok (.aload_n 0, 1) := by decide +kernel
theorem dd_xP_give_26 : decode prog_1_method_4_code 26 = .ok (.getfield 20, 3) := by decide +kernel
theorem dd_xP_give_29 : decode prog_1_method_4_code 29 = .ok (.iload_n 3, 1) := by decide +kernel
theorem dd_xP_give_30 : decode prog_1_method_4_code 30 = .ok (.aaload, 1) := by decide +kernel
theorem dd_xP_give_31 : decode prog_1_method_4_code 31 = .ok (.getfield 89, 3) := by decide +kernel
theorem dd_xP_give_34 : decode prog_1_method_4_code 34 = .ok (.astore 4, 2) := by decide +kernel
theorem dd_xP_give_36 : decode prog_1_method_4_code 36 = .ok (.aload_n 0, 1) := by decide +kernel
theorem dd_xP_give_37 : decode prog_1_method_4_code 37 = .ok (.getfield 20, 3) := by decide +kernel
theorem dd_xP_give_40 : decode prog_1_method_4_code 40 = .ok (.iload_n 1, 1) := by decide +kernel
theorem dd_xP_give_41 : decode prog_1_method_4_code 41 = .ok (.aaload, 1) := by decide +kernel
theorem dd_xP_give_42 : decode prog_1_method_4_code 42 = .ok (.getfield 89, 3) := by decide +kernel
theorem dd_xP_give_45 : decode prog_1_method_4_code 45 = .ok (.getfield 93, 3) := by decide +kernel
theorem dd_xP_give_48 : decode prog_1_method_4_code 48 = .ok (.iload_n 2, 1) := by decide +kernel
theorem dd_xP_give_49 : decode prog_1_method_4_code 49 = .ok (.aload 4, 2) := by decide +kernel
theorem dd_xP_give_51 : decode prog_1_method_4_code 51 = .ok (.aastore, 1) := by decide +kernel
theorem dd_xP_give_52 : decode prog_1_method_4_code 52 = .ok (.iload_n 1, 1) := by decide +kernel
theorem dd_xP_give_53 : decode prog_1_method_4_code 53 = .ok (.iload_n 3, 1) := by decide +kernel
theorem dd_xP_give_54 : decode prog_1_method_4_code 54 = .ok (.if_icmp .eq 25, 3) := by decide +kernel
theorem dd_xP_give_57 : decode prog_1_method_4_code 57 = .ok (.aload 4, 2) := by decide +kernel
theorem dd_xP_give_59 : decode prog_1_method_4_code 59 = .ok (.getfield 96, 3) := by decide +kernel
theorem dd_xP_give_62 : decode prog_1_method_4_code 62 = .ok (.iload_n 1, 1) := by decide +kernel
theorem dd_xP_give_63 : decode prog_1_method_4_code 63 = .ok (.dup2, 1) := by decide +kernel
theorem dd_xP_give_64 : decode prog_1_method_4_code 64 = .ok (.iaload, 1) := by decide +kernel
theorem dd_xP_give_65 : decode prog_1_method_4_code 65 = .ok (.iconst 1, 1) := by decide +kernel
theorem dd_xP_give_66 : decode prog_1_method_4_code 66 = .ok (.iadd, 1) := by decide +kernel
theorem dd_xP_give_67 : decode prog_1_method_4_code 67 = .ok (.iastore, 1) := by decide +kernel
theorem dd_xP_give_68 : decode prog_1_method_4_code 68 = .ok (.aload 4, 2) := by decide +kernel
theorem dd_xP_give_70 : decode prog_1_method_4_code 70 = .ok (.getfield 99, 3) := by decide +kernel
theorem dd_xP_give_73 : decode prog_1_method_4_code 73 = .ok (.iload_n 1, 1) := by decide +kernel
theorem dd_xP_give_74 : decode prog_1_method_4_code 74 = .ok (.dup2, 1) := by decide +kernel
theorem dd_xP_give_75 : decode prog_1_method_4_code 75 = .ok (.iaload, 1) := by decide +kernel
theorem dd_xP_give_76 : decode prog_1_method_4_code 76 = .ok (.iconst 1, 1) := by decide +kernel
theorem dd_xP_give_77 : decode prog_1_method_4_code 77 = .ok (.iadd, 1) := by decide +kernel
theorem dd_xP_give_78 : decode prog_1_method_4_code 78 = .ok (.iastore, 1) := by decide +kernel
theorem dd_xP_give_79 : decode prog_1_method_4_code 79 = .ok (.iconst 1, 1) := by decide +kernel
theorem dd_xP_give_80 : decode prog_1_method_4_code 80 = .ok (.ireturn, 1) := by decide +kernel
set_option maxHeartbeats 4000000 in
set_option maxRecDepth 100000 in
theorem kb_xP_give_b23 {p : Program} {l : Launch} {e : Env} {s : State} {m : MethodId} {args : Array Value} {below : List Frame} {meth : Method} {c : Code} {D : va_G} {ac : Nat → ClassId} {a0 : Nat} {gl : gl_T} {rF : Int32} {stF : st_S} {iT jT : Nat}
    (X : cx_ p s m args c prog_1_method_4_code 5 "PromiseVats" tb_ D cl_ (ty_ ac)) (hKs : kn_ D ac a0 gl s) (hlk : meth.locks = false) (hret : meth.sig.returnType = (Option.some FieldType.boolean)) (hnm : meth.name = "give") : wk_ p l e 1 21 s m args below meth c D cl_ ac a0 5 vb_i rF stF iT jT 23 (fun x : Unit => []) (fun x : Unit => []) (fun _ : Unit => xP_give_b23 gl) := by
  intro x st H locs cells slots i j ls hw hl h hci hcj
  have h : xP_give_b23 gl  st = some (rF, stF, i, j) := h
  unfold xP_give_b23 at h
  have hl : lh_ ls 5 [] := hl
  refine W.eq (g2 := F0 m 23 ls []) rfl ?_
  refine lv_iconst (v := (0 : Int32)) X.1 X.2.1 dd_xP_give_23 (by decide) ?_
  obtain ⟨rfl, rfl, rfl, rfl⟩ := st_r_some h
  exact rr_iret X hw hlk hret (by decide) hci hcj dd_xP_give_24
set_option maxHeartbeats 4000000 in
set_option maxRecDepth 100000 in
theorem kb_xP_give_b79 {p : Program} {l : Launch} {e : Env} {s : State} {m : MethodId} {args : Array Value} {below : List Frame} {meth : Method} {c : Code} {D : va_G} {ac : Nat → ClassId} {a0 : Nat} {gl : gl_T} {rF : Int32} {stF : st_S} {iT jT : Nat}
    (X : cx_ p s m args c prog_1_method_4_code 5 "PromiseVats" tb_ D cl_ (ty_ ac)) (hKs : kn_ D ac a0 gl s) (hlk : meth.locks = false) (hret : meth.sig.returnType = (Option.some FieldType.boolean)) (hnm : meth.name = "give") : wk_ p l e 1 21 s m args below meth c D cl_ ac a0 5 vb_i rF stF iT jT 79 (fun x : Unit => []) (fun x : Unit => []) (fun _ : Unit => xP_give_b79 gl) := by
  intro x st H locs cells slots i j ls hw hl h hci hcj
  have h : xP_give_b79 gl  st = some (rF, stF, i, j) := h
  unfold xP_give_b79 at h
  have hl : lh_ ls 5 [] := hl
  refine W.eq (g2 := F0 m 79 ls []) rfl ?_
  refine lv_iconst (v := (1 : Int32)) X.1 X.2.1 dd_xP_give_79 (by decide) ?_
  obtain ⟨rfl, rfl, rfl, rfl⟩ := st_r_some h
  exact rr_iret X hw hlk hret (by decide) hci hcj dd_xP_give_80
set_option maxHeartbeats 4000000 in
set_option maxRecDepth 100000 in
theorem kc_xP_give (l : Launch) (D : va_G) (ac : Nat → ClassId) (a0 : Nat) (gl : gl_T) (v0 : Option Nat) (v1 : Int32) (v2 : Int32) (v3 : Int32) (st : st_S) (rF : Int32) (stF : st_S) (iT jT : Nat) (h : xP_give gl v0 v1 v2 v3 st = some (rF, stF, iT, jT)) :
    ct_ l ⟨"PromiseVats", "give", "(III)Z"⟩ (Cond.code ⟨"PromiseVats", "give", "(III)Z"⟩ prog_1_method_4_code 5 (Option.some FieldType.boolean) :: tb_) 1 21 D cl_ ac a0 (kn_ D ac a0 gl) [(va_rf v0), (.int v1), (.int v2), (.int v3)] st (vb_i rF) stF iT jT := by
  refine ct_of (kn_ok D ac a0 gl) (plainFor_of_name (by decide +kernel)) (by simp [rf_cat, ic_cat]) (by simp) ?_
  intro p e s m args below meth c ls X hw hKs hlk hret hnm hl
  unfold xP_give at h
  have hl : lh_ ls 5 [(0, (va_rf v0)), (1, (.int v1)), (2, (.int v2)), (3, (.int v3))] := hl
  obtain ⟨z0, hz0⟩ : ∃ z : Nat, 0 = z := ⟨0, rfl⟩
  obtain ⟨z1, hz1⟩ : ∃ z : Nat, 0 = z := ⟨0, rfl⟩
  refine W.cs hz0 hz1 ?_
  have hci : z0 + iT = iT := by omega
  have hcj : z1 + jT = jT := by omega
  refine rr_aldn X dd_xP_give_0 rfl (lv_at hl.1 0 rfl) ?_
  refine lv_iload_n X.1 X.2.1 dd_xP_give_1 rfl (lv_at hl.1 1 rfl) ?_
  obtain ⟨t40, ht40, h⟩ := st_g_some h
  obtain ⟨t1, t2, t3, t4, t5, t6, ht1, h, ei, ej⟩ := st_b_some h
  refine rr_callV (n := 1) (As := [(.int v1)]) (rest := []) X hw (kn_ok D ac a0 gl) hKs (kc_xP_isVat l D ac a0 gl v0 v1 _ _ _ _ _ ht1) tb_good tw_110 tw_91 tw_111 tw_112 se_0 ht40 (by decide +kernel) rfl (show 0 + 1 ≤ _ ∧ 8 + (2 + 11) + 0 ≤ _ from ⟨Nat.le_of_ble_eq_true rfl, Nat.le_of_ble_eq_true rfl⟩) (show z0 + t3 ≤ iT ∧ z1 + t4 ≤ jT from ⟨ar_1 hci ei, ar_1 hcj ej⟩) hl.1.1 (by simp [rf_cat, ic_cat]) rfl dd_xP_give_2 (sk := [(.int t1)]) rfl (fun H locs hw => ?_)
  have hci : z0 + t3 + t5 = iT := ar_2 hci ei
  have hcj : z1 + t4 + t6 = jT := ar_2 hcj ej
  clear ei ej
  generalize z0 + t3 = t7 at hci ⊢
  generalize z1 + t4 = t8 at hcj ⊢
  by_cases hc5 : t1 = 0
  · rw [if_pos hc5] at h
    refine lv_if_eq (tgt := 23) X.1 X.2.1 dd_xP_give_5 (by decide) (fun _ => ?_) (fun z => absurd hc5 z)
    exact (kb_xP_give_b23 X hKs hlk hret hnm) () _ _ _ _ _ _ _ _ hw (lh_pk hl [] rfl) h hci hcj
  · rw [if_neg hc5] at h
    refine lv_if_eq (tgt := 23) X.1 X.2.1 dd_xP_give_5 (by decide) (fun z => absurd z hc5) (fun _ => ?_)
    refine lv_iload_n X.1 X.2.1 dd_xP_give_8 rfl (lv_at hl.1 2 rfl) ?_
    obtain ⟨t9, t10, t11, t12, t13, t14, ht9, h, ei, ej⟩ := st_b_some h
    refine rr_callS (n := 1) (As := [(.int v2)]) (rest := []) X hw (kn_ok D ac a0 gl) hKs (kc_xP_isSlot l D ac a0 gl v2 _ _ _ _ _ ht9) tb_good tw_95 tw_91 tw_96 tw_97 (by decide +kernel) rfl (show 0 + 1 ≤ _ ∧ 8 + (1 + 11) + 0 ≤ _ from ⟨Nat.le_of_ble_eq_true rfl, Nat.le_of_ble_eq_true rfl⟩) (show t7 + t11 ≤ iT ∧ t8 + t12 ≤ jT from ⟨ar_1 hci ei, ar_1 hcj ej⟩) hl.1.1 (by simp [rf_cat, ic_cat]) rfl dd_xP_give_9 (sk := [(.int t9)]) rfl (fun H locs hw => ?_)
    have hci : t7 + t11 + t13 = iT := ar_2 hci ei
    have hcj : t8 + t12 + t14 = jT := ar_2 hcj ej
    clear ei ej
    generalize t7 + t11 = t15 at hci ⊢
    generalize t8 + t12 = t16 at hcj ⊢
    by_cases hc12 : t9 = 0
    · rw [if_pos hc12] at h
      refine lv_if_eq (tgt := 23) X.1 X.2.1 dd_xP_give_12 (by decide) (fun _ => ?_) (fun z => absurd hc12 z)
      exact (kb_xP_give_b23 X hKs hlk hret hnm) () _ _ _ _ _ _ _ _ hw (lh_pk hl [] rfl) h hci hcj
    · rw [if_neg hc12] at h
      refine lv_if_eq (tgt := 23) X.1 X.2.1 dd_xP_give_12 (by decide) (fun z => absurd z hc12) (fun _ => ?_)
      refine rr_aldn X dd_xP_give_15 rfl (lv_at hl.1 0 rfl) ?_
      refine lv_iload_n X.1 X.2.1 dd_xP_give_16 rfl (lv_at hl.1 3 rfl) ?_
      obtain ⟨t39, ht39, h⟩ := st_g_some h
      obtain ⟨t17, t18, t19, t20, t21, t22, ht17, h, ei, ej⟩ := st_b_some h
      refine rr_callV (n := 1) (As := [(.int v3)]) (rest := []) X hw (kn_ok D ac a0 gl) hKs (kc_xP_isVat l D ac a0 gl v0 v3 _ _ _ _ _ ht17) tb_good tw_110 tw_91 tw_111 tw_112 se_0 ht39 (by decide +kernel) rfl (show 0 + 1 ≤ _ ∧ 8 + (2 + 11) + 0 ≤ _ from ⟨Nat.le_of_ble_eq_true rfl, Nat.le_of_ble_eq_true rfl⟩) (show t15 + t19 ≤ iT ∧ t16 + t20 ≤ jT from ⟨ar_1 hci ei, ar_1 hcj ej⟩) hl.1.1 (by simp [rf_cat, ic_cat]) rfl dd_xP_give_17 (sk := [(.int t17)]) rfl (fun H locs hw => ?_)
      have hci : t15 + t19 + t21 = iT := ar_2 hci ei
      have hcj : t16 + t20 + t22 = jT := ar_2 hcj ej
      clear ei ej
      generalize t15 + t19 = t23 at hci ⊢
      generalize t16 + t20 = t24 at hcj ⊢
      by_cases hc20 : t17 = 0
      · rw [if_pos hc20] at h
        refine lv_if_ne (tgt := 25) X.1 X.2.1 dd_xP_give_20 (by decide) (fun z => absurd hc20 z) (fun _ => ?_)
        exact (kb_xP_give_b23 X hKs hlk hret hnm) () _ _ _ _ _ _ _ _ hw (lh_pk hl [] rfl) h hci hcj
      · rw [if_neg hc20] at h
        refine lv_if_ne (tgt := 25) X.1 X.2.1 dd_xP_give_20 (by decide) (fun _ => ?_) (fun z => absurd z hc20)
        refine rr_aldn X dd_xP_give_25 rfl (lv_at hl.1 0 rfl) ?_
        obtain ⟨t25, ht25, h⟩ := st_g_some h
        refine rr_getq X hw ff_0_0 ht25 tw_66 (Or.inl rfl) dd_xP_give_26 ?_
        refine lv_iload_n X.1 X.2.1 dd_xP_give_29 rfl (lv_at hl.1 3 rfl) ?_
        obtain ⟨t26, ht26, h⟩ := st_g_some h
        refine rr_aald X hw (tq_4 ac) ht26 dd_xP_give_30 ?_
        obtain ⟨t27, ht27, h⟩ := st_g_some h
        refine rr_getq X hw ff_5_0 ht27 tw_109 (Or.inl rfl) dd_xP_give_31 ?_
        refine rr_ast (lv' := [(4, (va_rf t27)), (0, (va_rf v0)), (1, (.int v1)), (2, (.int v2)), (3, (.int v3))]) X dd_xP_give_34 hl (by decide) rfl (fun ls hl => ?_)
        refine rr_aldn X dd_xP_give_36 rfl (lv_at hl.1 1 rfl) ?_
        obtain ⟨t28, ht28, h⟩ := st_g_some h
        refine rr_getq X hw ff_0_0 ht28 tw_66 (Or.inl rfl) dd_xP_give_37 ?_
        refine lv_iload_n X.1 X.2.1 dd_xP_give_40 rfl (lv_at hl.1 2 rfl) ?_
        obtain ⟨t29, ht29, h⟩ := st_g_some h
        refine rr_aald X hw (tq_4 ac) ht29 dd_xP_give_41 ?_
        obtain ⟨t30, ht30, h⟩ := st_g_some h
        refine rr_getq X hw ff_5_0 ht30 tw_109 (Or.inl rfl) dd_xP_give_42 ?_
        obtain ⟨t31, ht31, h⟩ := st_g_some h
        refine rr_getq X hw ff_3_2 ht31 tw_108 (Or.inl rfl) dd_xP_give_45 ?_
        refine lv_iload_n X.1 X.2.1 dd_xP_give_48 rfl (lv_at hl.1 3 rfl) ?_
        refine rr_ald X dd_xP_give_49 (lv_at hl.1 0 rfl) ?_
        obtain ⟨t32, hp51, h⟩ := st_w_some h
        refine rr_aast X hw (ta_6 hKs) hp51 dd_xP_give_51 (fun H locs hw => ?_)
        refine lv_iload_n X.1 X.2.1 dd_xP_give_52 rfl (lv_at hl.1 2 rfl) ?_
        refine lv_iload_n X.1 X.2.1 dd_xP_give_53 rfl (lv_at hl.1 4 rfl) ?_
        by_cases hc54 : v1 = v3
        · rw [if_pos hc54] at h
          refine lv_icmp_eq (tgt := 79) X.1 X.2.1 dd_xP_give_54 (by decide) (fun _ => ?_) (fun z => absurd hc54 z)
          exact (kb_xP_give_b79 X hKs hlk hret hnm) () _ _ _ _ _ _ _ _ hw (lh_pk hl [] rfl) h hci hcj
        · rw [if_neg hc54] at h
          refine lv_icmp_eq (tgt := 79) X.1 X.2.1 dd_xP_give_54 (by decide) (fun z => absurd z hc54) (fun _ => ?_)
          refine rr_ald X dd_xP_give_57 (lv_at hl.1 0 rfl) ?_
          obtain ⟨t33, ht33, h⟩ := st_g_some h
          refine rr_getq X hw ff_3_7 ht33 tw_107 (Or.inr tw_106) dd_xP_give_59 ?_
          refine lv_iload_n X.1 X.2.1 dd_xP_give_62 rfl (lv_at hl.1 2 rfl) ?_
          refine lv_dup2_11 X.1 X.2.1 dd_xP_give_63 rfl (rf_cat _) ?_
          obtain ⟨t34, ht34, h⟩ := st_g_some h
          refine rr_iald (t := 0) X hw rfl ht34 dd_xP_give_64 ?_
          refine lv_iconst (v := (1 : Int32)) X.1 X.2.1 dd_xP_give_65 (by decide) ?_
          refine lv_iadd X.1 X.2.1 dd_xP_give_66 ?_
          obtain ⟨t35, hp67, h⟩ := st_w_some h
          refine rr_iast (t := 0) X hw rfl hp67 dd_xP_give_67 (fun H locs hw => ?_)
          refine rr_ald X dd_xP_give_68 (lv_at hl.1 0 rfl) ?_
          obtain ⟨t36, ht36, h⟩ := st_g_some h
          refine rr_getq X hw ff_3_8 ht36 tw_105 (Or.inr tw_104) dd_xP_give_70 ?_
          refine lv_iload_n X.1 X.2.1 dd_xP_give_73 rfl (lv_at hl.1 2 rfl) ?_
          refine lv_dup2_11 X.1 X.2.1 dd_xP_give_74 rfl (rf_cat _) ?_
          obtain ⟨t37, ht37, h⟩ := st_g_some h
          refine rr_iald (t := 0) X hw rfl ht37 dd_xP_give_75 ?_
          refine lv_iconst (v := (1 : Int32)) X.1 X.2.1 dd_xP_give_76 (by decide) ?_
          refine lv_iadd X.1 X.2.1 dd_xP_give_77 ?_
          obtain ⟨t38, hp78, h⟩ := st_w_some h
          refine rr_iast (t := 0) X hw rfl hp78 dd_xP_give_78 (fun H locs hw => ?_)
          exact (kb_xP_give_b79 X hKs hlk hret hnm) () _ _ _ _ _ _ _ _ hw (lh_pk hl [] rfl) h hci hcj
/-! java/util/ArrayList.size()I -/
theorem dd_al_size_0 : decode prog_20_method_8_code 0 = .ok (.aload_n 0, 1) := by decide +kernel
theorem dd_al_size_1 : decode prog_20_method_8_code 1 = .ok (.getfield 48, 3) := by decide +kernel
theorem dd_al_size_4 : decode prog_20_method_8_code 4 = .ok (.ireturn, 1) := by decide +kernel
set_option maxHeartbeats 4000000 in
set_option maxRecDepth 100000 in
theorem kc_al_size (l : Launch) (D : va_G) (ac : Nat → ClassId) (a0 : Nat) (gl : gl_T) (v0 : Option Nat) (st : st_S) (rF : Int32) (stF : st_S) (iT jT : Nat) (h : al_size gl v0 st = some (rF, stF, iT, jT)) :
    ct_ l ⟨"java/util/ArrayList", "size", "()I"⟩ (Cond.code ⟨"java/util/ArrayList", "size", "()I"⟩ prog_20_method_8_code 1 (Option.some FieldType.int) :: tb_) 0 0 D cl_ ac a0 (kn_ D ac a0 gl) [(va_rf v0)] st (vb_i rF) stF iT jT := by
  refine ct_of (kn_ok D ac a0 gl) (by decide +kernel) (by simp [rf_cat, ic_cat]) (by simp) ?_
  intro p e s m args below meth c ls X hw hKs hlk hret hnm hl
  unfold al_size at h
  have hl : lh_ ls 1 [(0, (va_rf v0))] := hl
  obtain ⟨z0, hz0⟩ : ∃ z : Nat, 0 = z := ⟨0, rfl⟩
  obtain ⟨z1, hz1⟩ : ∃ z : Nat, 0 = z := ⟨0, rfl⟩
  refine W.cs hz0 hz1 ?_
  have hci : z0 + iT = iT := by omega
  have hcj : z1 + jT = jT := by omega
  refine rr_aldn X dd_al_size_0 rfl (lv_at hl.1 0 rfl) ?_
  obtain ⟨t1, ht1, h⟩ := st_g_some h
  refine rr_geti X hw ff_6_1 ht1 tw_114 (Or.inl rfl) dd_al_size_1 ?_
  obtain ⟨rfl, rfl, rfl, rfl⟩ := st_r_some h
  exact rr_iret X hw hlk hret rfl hci hcj dd_al_size_4
/-! PromiseVats$Call.<init>(LPromiseVats$Entity;ILPromiseVats$Entity;LPromiseVats$Promise;)V -/
theorem dd_xC_init_0 : decode prog_2_method_1_code 0 = .ok (.aload_n 0, 1) := by decide +kernel
theorem dd_xC_init_1 : decode prog_2_method_1_code 1 = .ok (.invokespecial 1, 3) := by decide +kernel
theorem dd_xC_init_4 : decode prog_2_method_1_code 4 = .ok (.aload_n 0, 1) := by decide +kernel
theorem dd_xC_init_5 : decode prog_2_method_1_code 5 = .ok (.aload_n 1, 1) := by decide +kernel
theorem dd_xC_init_6 : decode prog_2_method_1_code 6 = .ok (.putfield 7, 3) := by decide +kernel
theorem dd_xC_init_9 : decode prog_2_method_1_code 9 = .ok (.aload_n 0, 1) := by decide +kernel
theorem dd_xC_init_10 : decode prog_2_method_1_code 10 = .ok (.iload_n 2, 1) := by decide +kernel
theorem dd_xC_init_11 : decode prog_2_method_1_code 11 = .ok (.putfield 13, 3) := by decide +kernel
theorem dd_xC_init_14 : decode prog_2_method_1_code 14 = .ok (.aload_n 0, 1) := by decide +kernel
theorem dd_xC_init_15 : decode prog_2_method_1_code 15 = .ok (.aload_n 3, 1) := by decide +kernel
theorem dd_xC_init_16 : decode prog_2_method_1_code 16 = .ok (.putfield 17, 3) := by decide +kernel
theorem dd_xC_init_19 : decode prog_2_method_1_code 19 = .ok (.aload_n 0, 1) := by decide +kernel
theorem dd_xC_init_20 : decode prog_2_method_1_code 20 = .ok (.aload 4, 2) := by decide +kernel
theorem dd_xC_init_22 : decode prog_2_method_1_code 22 = .ok (.putfield 20, 3) := by decide +kernel
theorem dd_xC_init_25 : decode prog_2_method_1_code 25 = .ok (.return_, 1) := by decide +kernel
set_option maxHeartbeats 4000000 in
set_option maxRecDepth 100000 in
theorem kc_xC_init (l : Launch) (D : va_G) (ac : Nat → ClassId) (a0 : Nat) (gl : gl_T) (v0 : Option Nat) (v1 : Option Nat) (v2 : Int32) (v3 : Option Nat) (v4 : Option Nat) (st : st_S) (rF : Unit) (stF : st_S) (iT jT : Nat) (h : xC_init gl v0 v1 v2 v3 v4 st = some (rF, stF, iT, jT)) :
    ct_ l ⟨"PromiseVats$Call", "<init>", "(LPromiseVats$Entity;ILPromiseVats$Entity;LPromiseVats$Promise;)V"⟩ (Cond.code ⟨"PromiseVats$Call", "<init>", "(LPromiseVats$Entity;ILPromiseVats$Entity;LPromiseVats$Promise;)V"⟩ prog_2_method_1_code 5 (Option.none : Option FieldType) :: tb_) 1 12 D cl_ ac a0 (kn_ D ac a0 gl) [(va_rf v0), (va_rf v1), (.int v2), (va_rf v3), (va_rf v4)] st (vb_u rF) stF iT jT := by
  refine ct_of (kn_ok D ac a0 gl) (plainFor_of_name (by decide +kernel)) (by simp [rf_cat, ic_cat]) (by simp) ?_
  intro p e s m args below meth c ls X hw hKs hlk hret hnm hl
  unfold xC_init at h
  have hl : lh_ ls 5 [(0, (va_rf v0)), (1, (va_rf v1)), (2, (.int v2)), (3, (va_rf v3)), (4, (va_rf v4))] := hl
  obtain ⟨z0, hz0⟩ : ∃ z : Nat, 0 = z := ⟨0, rfl⟩
  obtain ⟨z1, hz1⟩ : ∃ z : Nat, 0 = z := ⟨0, rfl⟩
  refine W.cs hz0 hz1 ?_
  have hci : z0 + iT = iT := by omega
  have hcj : z1 + jT = jT := by omega
  refine rr_aldn X dd_xC_init_0 rfl (lv_at hl.1 0 rfl) ?_
  obtain ⟨t1, ht1, h⟩ := st_g_some h
  refine rr_objI X ht1 tw_119 tw_1 tw_2 hl.1.1 (Nat.le_of_ble_eq_true rfl) (by simp [rf_cat, ic_cat]) dd_xC_init_1 ?_
  refine rr_aldn X dd_xC_init_4 rfl (lv_at hl.1 0 rfl) ?_
  refine rr_aldn X dd_xC_init_5 rfl (lv_at hl.1 1 rfl) ?_
  obtain ⟨t2, hp6, h⟩ := st_w_some h
  refine rr_put (ty := .object "PromiseVats$Entity") X hw ff_8_0 hp6 tw_118 (Or.inl rfl) (by decide +kernel) (rf_nar _ _) (rf_fit _ _) dd_xC_init_6 (fun H locs hw => ?_)
  refine rr_aldn X dd_xC_init_9 rfl (lv_at hl.1 0 rfl) ?_
  refine lv_iload_n X.1 X.2.1 dd_xC_init_10 rfl (lv_at hl.1 2 rfl) ?_
  obtain ⟨t3, hp11, h⟩ := st_w_some h
  refine rr_putF (ty := .int) X hw ff_8_1 hp11 tw_117 hnm (by decide +kernel) rfl rfl dd_xC_init_11 (fun H locs hw => ?_)
  refine rr_aldn X dd_xC_init_14 rfl (lv_at hl.1 0 rfl) ?_
  refine rr_aldn X dd_xC_init_15 rfl (lv_at hl.1 3 rfl) ?_
  obtain ⟨t4, hp16, h⟩ := st_w_some h
  refine rr_putF (ty := .object "PromiseVats$Entity") X hw ff_8_2 hp16 tw_116 hnm (by decide +kernel) (rf_nar _ _) (rf_fit _ _) dd_xC_init_16 (fun H locs hw => ?_)
  refine rr_aldn X dd_xC_init_19 rfl (lv_at hl.1 0 rfl) ?_
  refine rr_ald X dd_xC_init_20 (lv_at hl.1 4 rfl) ?_
  obtain ⟨t5, hp22, h⟩ := st_w_some h
  refine rr_putF (ty := .object "PromiseVats$Promise") X hw ff_8_3 hp22 tw_115 hnm (by decide +kernel) (rf_nar _ _) (rf_fit _ _) dd_xC_init_22 (fun H locs hw => ?_)
  obtain ⟨rfl, rfl, rfl, rfl⟩ := st_r_some h
  exact rr_vret X hw hlk hret hci hcj dd_xC_init_25
/-! PromiseVats.lose(LPromiseVats$Call;)V -/
theorem dd_xP_lose_0 : decode prog_1_method_31_code 0 = .ok (.aload_n 1, 1) := by decide +kernel
theorem dd_xP_lose_1 : decode prog_1_method_31_code 1 = .ok (.getfield 151, 3) := by decide +kernel
theorem dd_xP_lose_4 : decode prog_1_method_31_code 4 = .ok (.ifnull 38, 3) := by decide +kernel
theorem dd_xP_lose_7 : decode prog_1_method_31_code 7 = .ok (.aload_n 0, 1) := by decide +kernel
theorem dd_xP_lose_8 : decode prog_1_method_31_code 8 = .ok (.getfield 288, 3) := by decide +kernel
theorem dd_xP_lose_11 : decode prog_1_method_31_code 11 = .ok (.aload_n 0, 1) := by decide +kernel
theorem dd_xP_lose_12 : decode prog_1_method_31_code 12 = .ok (.getfield 45, 3) := by decide +kernel
theorem dd_xP_lose_15 : decode prog_1_method_31_code 15 = .ok (.arraylength, 1) := by decide +kernel
theorem dd_xP_lose_16 : decode prog_1_method_31_code 16 = .ok (.if_icmp .ge 26, 3) := by decide +kernel
theorem dd_xP_lose_19 : decode prog_1_method_31_code 19 = .ok (.aload_n 0, 1) := by decide +kernel
theorem dd_xP_lose_20 : decode prog_1_method_31_code 20 = .ok (.getfield 45, 3) := by decide +kernel
theorem dd_xP_lose_23 : decode prog_1_method_31_code 23 = .ok (.aload_n 0, 1) := by decide +kernel
theorem dd_xP_lose_24 : decode prog_1_method_31_code 24 = .ok (.getfield 288, 3) := by decide +kernel
theorem dd_xP_lose_27 : decode prog_1_method_31_code 27 = .ok (.aload_n 1, 1) := by decide +kernel
theorem dd_xP_lose_28 : decode prog_1_method_31_code 28 = .ok (.getfield 151, 3) := by decide +kernel
theorem dd_xP_lose_31 : decode prog_1_method_31_code 31 = .ok (.aastore, 1) := by decide +kernel
theorem dd_xP_lose_32 : decode prog_1_method_31_code 32 = .ok (.aload_n 0, 1) := by decide +kernel
theorem dd_xP_lose_33 : decode prog_1_method_31_code 33 = .ok (.dup, 1) := by decide +kernel
theorem dd_xP_lose_34 : decode prog_1_method_31_code 34 = .ok (.getfield 288, 3) := by decide +kernel
theorem dd_xP_lose_37 : decode prog_1_method_31_code 37 = .ok (.iconst 1, 1) := by decide +kernel
theorem dd_xP_lose_38 : decode prog_1_method_31_code 38 = .ok (.iadd, 1) := by decide +kernel
theorem dd_xP_lose_39 : decode prog_1_method_31_code 39 = .ok (.putfield 288, 3) := by decide +kernel
theorem dd_xP_lose_42 : decode prog_1_method_31_code 42 = .ok (.return_, 1) := by decide +kernel
set_option maxHeartbeats 4000000 in
set_option maxRecDepth 100000 in
theorem kc_xP_lose (l : Launch) (D : va_G) (ac : Nat → ClassId) (a0 : Nat) (gl : gl_T) (v0 : Option Nat) (v1 : Option Nat) (st : st_S) (rF : Unit) (stF : st_S) (iT jT : Nat) (h : xP_lose gl v0 v1 st = some (rF, stF, iT, jT)) :
    ct_ l ⟨"PromiseVats", "lose", "(LPromiseVats$Call;)V"⟩ (Cond.code ⟨"PromiseVats", "lose", "(LPromiseVats$Call;)V"⟩ prog_1_method_31_code 2 (Option.none : Option FieldType) :: tb_) 0 0 D cl_ ac a0 (kn_ D ac a0 gl) [(va_rf v0), (va_rf v1)] st (vb_u rF) stF iT jT := by
  refine ct_of (kn_ok D ac a0 gl) (plainFor_of_name (by decide +kernel)) (by simp [rf_cat, ic_cat]) (by simp) ?_
  intro p e s m args below meth c ls X hw hKs hlk hret hnm hl
  unfold xP_lose at h
  have hl : lh_ ls 2 [(0, (va_rf v0)), (1, (va_rf v1))] := hl
  obtain ⟨z0, hz0⟩ : ∃ z : Nat, 0 = z := ⟨0, rfl⟩
  obtain ⟨z1, hz1⟩ : ∃ z : Nat, 0 = z := ⟨0, rfl⟩
  refine W.cs hz0 hz1 ?_
  have hci : z0 + iT = iT := by omega
  have hcj : z1 + jT = jT := by omega
  refine rr_aldn X dd_xP_lose_0 rfl (lv_at hl.1 1 rfl) ?_
  obtain ⟨t1, ht1, h⟩ := st_g_some h
  refine rr_getq X hw ff_8_3 ht1 tw_121 (Or.inl rfl) dd_xP_lose_1 ?_
  by_cases hc4 : t1 = none
  · rw [if_pos hc4] at h
    refine rr_ifnull (tgt := 42) X dd_xP_lose_4 (by decide) (fun _ => ?_) (fun z => absurd hc4 z)
    obtain ⟨rfl, rfl, rfl, rfl⟩ := st_r_some h
    exact rr_vret X hw hlk hret hci hcj dd_xP_lose_42
  · rw [if_neg hc4] at h
    refine rr_ifnull (tgt := 42) X dd_xP_lose_4 (by decide) (fun z => absurd z hc4) (fun _ => ?_)
    refine rr_aldn X dd_xP_lose_7 rfl (lv_at hl.1 0 rfl) ?_
    obtain ⟨t2, ht2, h⟩ := st_g_some h
    refine rr_geti X hw ff_0_7 ht2 tw_120 (Or.inl rfl) dd_xP_lose_8 ?_
    refine rr_aldn X dd_xP_lose_11 rfl (lv_at hl.1 0 rfl) ?_
    obtain ⟨t3, ht3, h⟩ := st_g_some h
    refine rr_getq X hw ff_0_6 ht3 tw_57 (Or.inl rfl) dd_xP_lose_12 ?_
    obtain ⟨t4, ht4, h⟩ := st_g_some h
    refine rr_alen X hw (tl_7 ac) ht4 dd_xP_lose_15 ?_
    by_cases hc16 : t4 ≤ t2
    · rw [if_pos hc16] at h
      refine lv_icmp_ge (tgt := 42) X.1 X.2.1 dd_xP_lose_16 (by decide) (fun _ => ?_) (fun z => absurd hc16 z)
      obtain ⟨rfl, rfl, rfl, rfl⟩ := st_r_some h
      exact rr_vret X hw hlk hret hci hcj dd_xP_lose_42
    · rw [if_neg hc16] at h
      refine lv_icmp_ge (tgt := 42) X.1 X.2.1 dd_xP_lose_16 (by decide) (fun z => absurd z hc16) (fun _ => ?_)
      refine rr_aldn X dd_xP_lose_19 rfl (lv_at hl.1 0 rfl) ?_
      obtain ⟨t5, ht5, h⟩ := st_g_some h
      refine rr_getq X hw ff_0_6 ht5 tw_57 (Or.inl rfl) dd_xP_lose_20 ?_
      refine rr_aldn X dd_xP_lose_23 rfl (lv_at hl.1 0 rfl) ?_
      obtain ⟨t6, ht6, h⟩ := st_g_some h
      refine rr_geti X hw ff_0_7 ht6 tw_120 (Or.inl rfl) dd_xP_lose_24 ?_
      refine rr_aldn X dd_xP_lose_27 rfl (lv_at hl.1 1 rfl) ?_
      obtain ⟨t7, ht7, h⟩ := st_g_some h
      refine rr_getq X hw ff_8_3 ht7 tw_121 (Or.inl rfl) dd_xP_lose_28 ?_
      obtain ⟨t8, hp31, h⟩ := st_w_some h
      refine rr_aast X hw (ta_7 hKs) hp31 dd_xP_lose_31 (fun H locs hw => ?_)
      refine rr_aldn X dd_xP_lose_32 rfl (lv_at hl.1 0 rfl) ?_
      refine lv_dup X.1 X.2.1 dd_xP_lose_33 (rf_cat _) ?_
      obtain ⟨t9, ht9, h⟩ := st_g_some h
      refine rr_geti X hw ff_0_7 ht9 tw_120 (Or.inl rfl) dd_xP_lose_34 ?_
      refine lv_iconst (v := (1 : Int32)) X.1 X.2.1 dd_xP_lose_37 (by decide) ?_
      refine lv_iadd X.1 X.2.1 dd_xP_lose_38 ?_
      obtain ⟨t10, hp39, h⟩ := st_w_some h
      refine rr_put (ty := .int) X hw ff_0_7 hp39 tw_120 (Or.inl rfl) (by decide +kernel) rfl rfl dd_xP_lose_39 (fun H locs hw => ?_)
      obtain ⟨rfl, rfl, rfl, rfl⟩ := st_r_some h
      exact rr_vret X hw hlk hret hci hcj dd_xP_lose_42
/-! jdk/internal/util/ArraysSupport.hugeLength(II)I -/
theorem dd_as_hugeLength_0 : decode prog_27_method_28_code 0 = .ok (.iload_n 0, 1) := by decide +kernel
theorem dd_as_hugeLength_1 : decode prog_27_method_28_code 1 = .ok (.iload_n 1, 1) := by decide +kernel
theorem dd_as_hugeLength_2 : decode prog_27_method_28_code 2 = .ok (.iadd, 1) := by decide +kernel
theorem dd_as_hugeLength_3 : decode prog_27_method_28_code 3 = .ok (.istore_n 2, 1) := by decide +kernel
theorem dd_as_hugeLength_4 : decode prog_27_method_28_code 4 = .ok (.iload_n 2, 1) := by decide +kernel
theorem dd_as_hugeLength_5 : decode prog_27_method_28_code 5 = .ok (.ifCond .ge 44, 3) := by decide +kernel
theorem dd_as_hugeLength_49 : decode prog_27_method_28_code 49 = .ok (.iload_n 2, 1) := by decide +kernel
theorem dd_as_hugeLength_50 : decode prog_27_method_28_code 50 = .ok (.ldc 200, 2) := by decide +kernel
theorem dd_as_hugeLength_52 : decode prog_27_method_28_code 52 = .ok (.if_icmp .gt 6, 3) := by decide +kernel
theorem dd_as_hugeLength_55 : decode prog_27_method_28_code 55 = .ok (.ldc 200, 2) := by decide +kernel
theorem dd_as_hugeLength_57 : decode prog_27_method_28_code 57 = .ok (.ireturn, 1) := by decide +kernel
theorem dd_as_hugeLength_58 : decode prog_27_method_28_code 58 = .ok (.iload_n 2, 1) := by decide +kernel
theorem dd_as_hugeLength_59 : decode prog_27_method_28_code 59 = .ok (.ireturn, 1) := by decide +kernel
set_option maxHeartbeats 4000000 in
set_option maxRecDepth 100000 in
theorem kc_as_hugeLength (l : Launch) (D : va_G) (ac : Nat → ClassId) (a0 : Nat) (gl : gl_T) (v0 : Int32) (v1 : Int32) (st : st_S) (rF : Int32) (stF : st_S) (iT jT : Nat) (h : as_hugeLength gl v0 v1 st = some (rF, stF, iT, jT)) :
    ct_ l ⟨"jdk/internal/util/ArraysSupport", "hugeLength", "(II)I"⟩ (Cond.code ⟨"jdk/internal/util/ArraysSupport", "hugeLength", "(II)I"⟩ prog_27_method_28_code 3 (Option.some FieldType.int) :: tb_) 0 0 D cl_ ac a0 (kn_ D ac a0 gl) [(.int v0), (.int v1)] st (vb_i rF) stF iT jT := by
  refine ct_of (kn_ok D ac a0 gl) (by decide +kernel) (by simp [rf_cat, ic_cat]) (by simp) ?_
  intro p e s m args below meth c ls X hw hKs hlk hret hnm hl
  unfold as_hugeLength at h
  have hl : lh_ ls 3 [(0, (.int v0)), (1, (.int v1))] := hl
  obtain ⟨z0, hz0⟩ : ∃ z : Nat, 0 = z := ⟨0, rfl⟩
  obtain ⟨z1, hz1⟩ : ∃ z : Nat, 0 = z := ⟨0, rfl⟩
  refine W.cs hz0 hz1 ?_
  have hci : z0 + iT = iT := by omega
  have hcj : z1 + jT = jT := by omega
  refine lv_iload_n X.1 X.2.1 dd_as_hugeLength_0 rfl (lv_at hl.1 0 rfl) ?_
  refine lv_iload_n X.1 X.2.1 dd_as_hugeLength_1 rfl (lv_at hl.1 1 rfl) ?_
  refine lv_iadd X.1 X.2.1 dd_as_hugeLength_2 ?_
  refine rr_istn (lv' := [(2, (.int (v0 + v1))), (0, (.int v0)), (1, (.int v1))]) X dd_as_hugeLength_3 rfl hl (by decide) rfl (fun ls hl => ?_)
  refine lv_iload_n X.1 X.2.1 dd_as_hugeLength_4 rfl (lv_at hl.1 0 rfl) ?_
  by_cases hc5 : 0 ≤ (v0 + v1)
  · rw [if_pos hc5] at h
    refine lv_if_ge (tgt := 49) X.1 X.2.1 dd_as_hugeLength_5 (by decide) (fun _ => ?_) (fun z => absurd hc5 z)
    refine lv_iload_n X.1 X.2.1 dd_as_hugeLength_49 rfl (lv_at hl.1 0 rfl) ?_
    refine lv_ldc X.1 X.2.1 X.2.2.2.1 (X.2.2.2.2.1 _ tw_122) dd_as_hugeLength_50 ?_
    by_cases hc52 : (2147483639 : Int32) < (v0 + v1)
    · rw [if_pos hc52] at h
      refine lv_icmp_gt (tgt := 58) X.1 X.2.1 dd_as_hugeLength_52 (by decide) (fun _ => ?_) (fun z => absurd hc52 z)
      refine lv_iload_n X.1 X.2.1 dd_as_hugeLength_58 rfl (lv_at hl.1 0 rfl) ?_
      obtain ⟨rfl, rfl, rfl, rfl⟩ := st_r_some h
      exact rr_iret X hw hlk hret rfl hci hcj dd_as_hugeLength_59
    · rw [if_neg hc52] at h
      refine lv_icmp_gt (tgt := 58) X.1 X.2.1 dd_as_hugeLength_52 (by decide) (fun z => absurd z hc52) (fun _ => ?_)
      refine lv_ldc X.1 X.2.1 X.2.2.2.1 (X.2.2.2.2.1 _ tw_122) dd_as_hugeLength_55 ?_
      obtain ⟨rfl, rfl, rfl, rfl⟩ := st_r_some h
      exact rr_iret X hw hlk hret rfl hci hcj dd_as_hugeLength_57
  · rw [if_neg hc5] at h
    refine lv_if_ge (tgt := 49) X.1 X.2.1 dd_as_hugeLength_5 (by decide) (fun z => absurd z hc5) (fun _ => ?_)
    cases h
