/-! PromiseVats.callFrom(LPromiseVats$Turn;LPromiseVats$Entity;)LPromiseVats$Promise; -/
theorem dd_xP_callFrom_0 : decode prog_1_method_28_code 0 = .ok (.aload_n 2, 1) := by decide +kernel
theorem dd_xP_callFrom_1 : decode prog_1_method_28_code 1 = .ok (.ifnull 12, 3) := by decide +kernel
theorem dd_xP_callFrom_4 : decode prog_1_method_28_code 4 = .ok (.aload_n 0, 1) := by decide +kernel
theorem dd_xP_callFrom_5 : decode prog_1_method_28_code 5 = .ok (.getfield 261, 3) := by decide +kernel
theorem dd_xP_callFrom_8 : decode prog_1_method_28_code 8 = .ok (.bipush 100, 2) := by decide +kernel
theorem dd_xP_callFrom_10 : decode prog_1_method_28_code 10 = .ok (.if_icmp .lt 5, 3) := by decide +kernel
theorem dd_xP_callFrom_13 : decode prog_1_method_28_code 13 = .ok (.aconst_null, 1) := by decide +kernel
theorem dd_xP_callFrom_14 : decode prog_1_method_28_code 14 = .ok (.areturn, 1) := by decide +kernel
theorem dd_xP_callFrom_15 : decode prog_1_method_28_code 15 = .ok (.aload_n 0, 1) := by decide +kernel
theorem dd_xP_callFrom_16 : decode prog_1_method_28_code 16 = .ok (.dup, 1) := by decide +kernel
theorem dd_xP_callFrom_17 : decode prog_1_method_28_code 17 = .ok (.getfield 261, 3) := by decide +kernel
theorem dd_xP_callFrom_20 : decode prog_1_method_28_code 20 = .ok (.iconst 1, 1) := by decide +kernel
theorem dd_xP_callFrom_21 : decode prog_1_method_28_code 21 = .ok (.iadd, 1) := by decide +kernel
theorem dd_xP_callFrom_22 : decode prog_1_method_28_code 22 = .ok (.putfield 261, 3) := by decide +kernel
theorem dd_xP_callFrom_25 : decode prog_1_method_28_code 25 = .ok (.new 43, 3) := by decide +kernel
theorem dd_xP_callFrom_28 : decode prog_1_method_28_code 28 = .ok (.dup, 1) := by decide +kernel
theorem dd_xP_callFrom_29 : decode prog_1_method_28_code 29 = .ok (.bipush 100, 2) := by decide +kernel
theorem dd_xP_callFrom_31 : decode prog_1_method_28_code 31 = .ok (.aload_n 0, 1) := by decide +kernel
theorem dd_xP_callFrom_32 : decode prog_1_method_28_code 32 = .ok (.getfield 261, 3) := by decide +kernel
theorem dd_xP_callFrom_35 : decode prog_1_method_28_code 35 = .ok (.iadd, 1) := by decide +kernel
theorem dd_xP_callFrom_36 : decode prog_1_method_28_code 36 = .ok (.aload_n 2, 1) := by decide +kernel
theorem dd_xP_callFrom_37 : decode prog_1_method_28_code 37 = .ok (.getfield 219, 3) := by decide +kernel
theorem dd_xP_callFrom_40 : decode prog_1_method_28_code 40 = .ok (.invokespecial 264, 3) := by decide +kernel
theorem dd_xP_callFrom_43 : decode prog_1_method_28_code 43 = .ok (.astore_n 3, 1) := by decide +kernel
theorem dd_xP_callFrom_44 : decode prog_1_method_28_code 44 = .ok (.aload_n 0, 1) := by decide +kernel
theorem dd_xP_callFrom_45 : decode prog_1_method_28_code 45 = .ok (.getfield 32, 3) := by decide +kernel
theorem dd_xP_callFrom_48 : decode prog_1_method_28_code 48 = .ok (.aload_n 3, 1) := by decide +kernel
theorem dd_xP_callFrom_49 : decode prog_1_method_28_code 49 = .ok (.getfield 267, 3) := by decide +kernel
theorem dd_xP_callFrom_52 : decode prog_1_method_28_code 52 = .ok (.aload_n 3, 1) := by decide +kernel
theorem dd_xP_callFrom_53 : decode prog_1_method_28_code 53 = .ok (.aastore, 1) := by decide +kernel
theorem dd_xP_callFrom_54 : decode prog_1_method_28_code 54 = .ok (.new 112, 3) := by decide +kernel
theorem dd_xP_callFrom_57 : decode prog_1_method_28_code 57 = .ok (.dup, 1) := by decide +kernel
theorem dd_xP_callFrom_58 : decode prog_1_method_28_code 58 = .ok (.aload_n 2, 1) := by decide +kernel
theorem dd_xP_callFrom_59 : decode prog_1_method_28_code 59 = .ok (.aload_n 1, 1) := by decide +kernel
theorem dd_xP_callFrom_60 : decode prog_1_method_28_code 60 = .ok (.getfield 246, 3) := by decide +kernel
theorem dd_xP_callFrom_63 : decode prog_1_method_28_code 63 = .ok (.aload_n 1, 1) := by decide +kernel
theorem dd_xP_callFrom_64 : decode prog_1_method_28_code 64 = .ok (.getfield 155, 3) := by decide +kernel
theorem dd_xP_callFrom_67 : decode prog_1_method_28_code 67 = .ok (.aload_n 3, 1) := by decide +kernel
theorem dd_xP_callFrom_68 : decode prog_1_method_28_code 68 = .ok (.invokespecial 114, 3) := by decide +kernel
theorem dd_xP_callFrom_71 : decode prog_1_method_28_code 71 = .ok (.astore 4, 2) := by decide +kernel
theorem dd_xP_callFrom_73 : decode prog_1_method_28_code 73 = .ok (.aload_n 1, 1) := by decide +kernel
theorem dd_xP_callFrom_74 : decode prog_1_method_28_code 74 = .ok (.getfield 243, 3) := by decide +kernel
theorem dd_xP_callFrom_77 : decode prog_1_method_28_code 77 = .ok (.getfield 257, 3) := by decide +kernel
theorem dd_xP_callFrom_80 : decode prog_1_method_28_code 80 = .ok (.istore 5, 2) := by decide +kernel
theorem dd_xP_callFrom_82 : decode prog_1_method_28_code 82 = .ok (.aload_n 2, 1) := by decide +kernel
theorem dd_xP_callFrom_83 : decode prog_1_method_28_code 83 = .ok (.getfield 219, 3) := by decide +kernel
theorem dd_xP_callFrom_86 : decode prog_1_method_28_code 86 = .ok (.iload 5, 2) := by decide +kernel
theorem dd_xP_callFrom_88 : decode prog_1_method_28_code 88 = .ok (.if_icmp .ne 14, 3) := by decide +kernel
theorem dd_xP_callFrom_91 : decode prog_1_method_28_code 91 = .ok (.aload_n 0, 1) := by decide +kernel
theorem dd_xP_callFrom_92 : decode prog_1_method_28_code 92 = .ok (.aload 4, 2) := by decide +kernel
theorem dd_xP_callFrom_94 : decode prog_1_method_28_code 94 = .ok (.iload 5, 2) := by decide +kernel
theorem dd_xP_callFrom_96 : decode prog_1_method_28_code 96 = .ok (.invokevirtual 117, 3) := by decide +kernel
theorem dd_xP_callFrom_99 : decode prog_1_method_28_code 99 = .ok (.goto 27, 3) := by decide +kernel
theorem dd_xP_callFrom_102 : decode prog_1_method_28_code 102 = .ok (.aload_n 0, 1) := by decide +kernel
theorem dd_xP_callFrom_103 : decode prog_1_method_28_code 103 = .ok (.aload 4, 2) := by decide +kernel
theorem dd_xP_callFrom_105 : decode prog_1_method_28_code 105 = .ok (.iload 5, 2) := by decide +kernel
theorem dd_xP_callFrom_107 : decode prog_1_method_28_code 107 = .ok (.invokevirtual 268, 3) := by decide +kernel
theorem dd_xP_callFrom_110 : decode prog_1_method_28_code 110 = .ok (.aload_n 3, 1) := by decide +kernel
theorem dd_xP_callFrom_111 : decode prog_1_method_28_code 111 = .ok (.getfield 271, 3) := by decide +kernel
theorem dd_xP_callFrom_114 : decode prog_1_method_28_code 114 = .ok (.iload 5, 2) := by decide +kernel
theorem dd_xP_callFrom_116 : decode prog_1_method_28_code 116 = .ok (.iconst 1, 1) := by decide +kernel
theorem dd_xP_callFrom_117 : decode prog_1_method_28_code 117 = .ok (.iastore, 1) := by decide +kernel
theorem dd_xP_callFrom_118 : decode prog_1_method_28_code 118 = .ok (.aload_n 3, 1) := by decide +kernel
theorem dd_xP_callFrom_119 : decode prog_1_method_28_code 119 = .ok (.getfield 272, 3) := by decide +kernel
theorem dd_xP_callFrom_122 : decode prog_1_method_28_code 122 = .ok (.iload 5, 2) := by decide +kernel
theorem dd_xP_callFrom_124 : decode prog_1_method_28_code 124 = .ok (.iconst 1, 1) := by decide +kernel
theorem dd_xP_callFrom_125 : decode prog_1_method_28_code 125 = .ok (.iastore, 1) := by decide +kernel
theorem dd_xP_callFrom_126 : decode prog_1_method_28_code 126 = .ok (.aload_n 3, 1) := by decide +kernel
theorem dd_xP_callFrom_127 : decode prog_1_method_28_code 127 = .ok (.areturn, 1) := by decide +kernel
set_option maxHeartbeats 4000000 in
set_option maxRecDepth 100000 in
theorem kb_xP_callFrom_b13 {p : Program} {l : Launch} {e : Env} {s : State} {m : MethodId} {args : Array Value} {below : List Frame} {meth : Method} {c : Code} {D : va_G} {ac : Nat → ClassId} {a0 : Nat} {gl : gl_T} {rF : Option Nat} {stF : st_S} {iT jT : Nat}
    (X : cx_ p s m args c prog_1_method_28_code 6 "PromiseVats" tb_ D cl_ (ty_ ac)) (hKs : kn_ D ac a0 gl s) (hlk : meth.locks = false) (hret : meth.sig.returnType = (Option.some (FieldType.object "PromiseVats$Promise"))) (hnm : meth.name = "callFrom") : wk_ p l e 11 286 s m args below meth c D cl_ ac a0 6 vb_q rF stF iT jT 13 (fun x : Unit => []) (fun x : Unit => []) (fun _ : Unit => xP_callFrom_b13 gl) := by
  intro x st H locs cells slots i j ls hw hl h hci hcj
  have h : xP_callFrom_b13 gl  st = some (rF, stF, i, j) := h
  unfold xP_callFrom_b13 at h
  have hl : lh_ ls 6 [] := hl
  refine W.eq (g2 := F0 m 13 ls []) rfl ?_
  refine rr_null X dd_xP_callFrom_13 ?_
  obtain ⟨rfl, rfl, rfl, rfl⟩ := st_r_some h
  exact rr_aret X hw hlk hret (Or.inl ⟨_, rfl⟩) hci hcj dd_xP_callFrom_14
set_option maxHeartbeats 4000000 in
set_option maxRecDepth 100000 in
theorem kb_xP_callFrom_b126 {p : Program} {l : Launch} {e : Env} {s : State} {m : MethodId} {args : Array Value} {below : List Frame} {meth : Method} {c : Code} {D : va_G} {ac : Nat → ClassId} {a0 : Nat} {gl : gl_T} {rF : Option Nat} {stF : st_S} {iT jT : Nat}
    (X : cx_ p s m args c prog_1_method_28_code 6 "PromiseVats" tb_ D cl_ (ty_ ac)) (hKs : kn_ D ac a0 gl s) (hlk : meth.locks = false) (hret : meth.sig.returnType = (Option.some (FieldType.object "PromiseVats$Promise"))) (hnm : meth.name = "callFrom") : wk_ p l e 11 286 s m args below meth c D cl_ ac a0 6 vb_q rF stF iT jT 126 (fun x : Option Nat => [(3, (va_rf x))]) (fun x : Option Nat => []) (fun x : Option Nat => xP_callFrom_b126 gl x) := by
  intro x st H locs cells slots i j ls hw hl h hci hcj
  have hx : ∃ z, z = x := ⟨_, rfl⟩; obtain ⟨p3, rfl⟩ := hx
  have h : xP_callFrom_b126 gl p3 st = some (rF, stF, i, j) := h
  unfold xP_callFrom_b126 at h
  have hl : lh_ ls 6 [(3, (va_rf p3))] := hl
  refine W.eq (g2 := F0 m 126 ls []) rfl ?_
  refine rr_aldn X dd_xP_callFrom_126 rfl (lv_at hl.1 0 rfl) ?_
  obtain ⟨rfl, rfl, rfl, rfl⟩ := st_r_some h
  exact rr_aret X hw hlk hret (Or.inl ⟨_, rfl⟩) hci hcj dd_xP_callFrom_127
set_option maxHeartbeats 4000000 in
set_option maxRecDepth 100000 in
theorem kc_xP_callFrom (l : Launch) (D : va_G) (ac : Nat → ClassId) (a0 : Nat) (gl : gl_T) (v0 : Option Nat) (v1 : Option Nat) (v2 : Option Nat) (st : st_S) (rF : Option Nat) (stF : st_S) (iT jT : Nat) (h : xP_callFrom gl v0 v1 v2 st = some (rF, stF, iT, jT)) :
    ct_ l ⟨"PromiseVats", "callFrom", "(LPromiseVats$Turn;LPromiseVats$Entity;)LPromiseVats$Promise;"⟩ (Cond.code ⟨"PromiseVats", "callFrom", "(LPromiseVats$Turn;LPromiseVats$Entity;)LPromiseVats$Promise;"⟩ prog_1_method_28_code 6 (Option.some (FieldType.object "PromiseVats$Promise")) :: tb_) 11 286 D cl_ ac a0 (kn_ D ac a0 gl) [(va_rf v0), (va_rf v1), (va_rf v2)] st (vb_q rF) stF iT jT := by
  refine ct_of (kn_ok D ac a0 gl) (plainFor_of_name (by decide +kernel)) (by simp [rf_cat, ic_cat]) (by simp) ?_
  intro p e s m args below meth c ls X hw hKs hlk hret hnm hl
  unfold xP_callFrom at h
  have hl : lh_ ls 6 [(0, (va_rf v0)), (1, (va_rf v1)), (2, (va_rf v2))] := hl
  obtain ⟨z0, hz0⟩ : ∃ z : Nat, 0 = z := ⟨0, rfl⟩
  obtain ⟨z1, hz1⟩ : ∃ z : Nat, 0 = z := ⟨0, rfl⟩
  refine W.cs hz0 hz1 ?_
  have hci : z0 + iT = iT := by omega
  have hcj : z1 + jT = jT := by omega
  refine rr_aldn X dd_xP_callFrom_0 rfl (lv_at hl.1 2 rfl) ?_
  by_cases hc1 : v2 = none
  · rw [if_pos hc1] at h
    refine rr_ifnull (tgt := 13) X dd_xP_callFrom_1 (by decide) (fun _ => ?_) (fun z => absurd hc1 z)
    exact (kb_xP_callFrom_b13 X hKs hlk hret hnm) () _ _ _ _ _ _ _ _ hw (lh_pk hl [] rfl) h hci hcj
  · rw [if_neg hc1] at h
    refine rr_ifnull (tgt := 13) X dd_xP_callFrom_1 (by decide) (fun z => absurd z hc1) (fun _ => ?_)
    refine rr_aldn X dd_xP_callFrom_4 rfl (lv_at hl.1 0 rfl) ?_
    obtain ⟨t1, ht1, h⟩ := st_g_some h
    refine rr_geti X hw ff_0_4 ht1 tw_267 (Or.inl rfl) dd_xP_callFrom_5 ?_
    refine lv_bipush (v := (100 : Int32)) X.1 X.2.1 dd_xP_callFrom_8 (by decide) ?_
    by_cases hc10 : t1 < (100 : Int32)
    · rw [if_pos hc10] at h
      refine lv_icmp_lt (tgt := 15) X.1 X.2.1 dd_xP_callFrom_10 (by decide) (fun _ => ?_) (fun z => absurd hc10 z)
      refine rr_aldn X dd_xP_callFrom_15 rfl (lv_at hl.1 0 rfl) ?_
      refine lv_dup X.1 X.2.1 dd_xP_callFrom_16 (rf_cat _) ?_
      obtain ⟨t2, ht2, h⟩ := st_g_some h
      refine rr_geti X hw ff_0_4 ht2 tw_267 (Or.inl rfl) dd_xP_callFrom_17 ?_
      refine lv_iconst (v := (1 : Int32)) X.1 X.2.1 dd_xP_callFrom_20 (by decide) ?_
      refine lv_iadd X.1 X.2.1 dd_xP_callFrom_21 ?_
      obtain ⟨t3, hp22, h⟩ := st_w_some h
      refine rr_put (ty := .int) X hw ff_0_4 hp22 tw_267 (Or.inl rfl) (by decide +kernel) rfl rfl dd_xP_callFrom_22 (fun H locs hw => ?_)
      obtain ⟨t62, t63, h, ei, ej⟩ := st_n_some h
      refine rr_new (fs := cd_4) X hw cf_4 cb_4 tw_55 tw_268 tw_263 (show z0 + 1 ≤ iT ∧ z1 + 10 ≤ jT from ⟨ar_1 hci ei, ar_1 hcj ej⟩) dd_xP_callFrom_25 (fun H hw => ?_)
      have hci : z0 + 1 + t62 = iT := ar_2 hci ei
      have hcj : z1 + 10 + t63 = jT := ar_2 hcj ej
      clear ei ej
      generalize z0 + 1 = t5 at hci ⊢
      generalize z1 + 10 = t6 at hcj ⊢
      generalize t3.2 = t4 at h ⊢
      have h := h
      generalize (st_ad t3 (.inr (.inr (4, cd_4)))) = t7 at h hw
      refine lv_dup X.1 X.2.1 dd_xP_callFrom_28 (rf_cat _) ?_
      refine lv_bipush (v := (100 : Int32)) X.1 X.2.1 dd_xP_callFrom_29 (by decide) ?_
      refine rr_aldn X dd_xP_callFrom_31 rfl (lv_at hl.1 0 rfl) ?_
      obtain ⟨t8, ht8, h⟩ := st_g_some h
      refine rr_geti X hw ff_0_4 ht8 tw_267 (Or.inl rfl) dd_xP_callFrom_32 ?_
      refine lv_iadd X.1 X.2.1 dd_xP_callFrom_35 ?_
      refine rr_aldn X dd_xP_callFrom_36 rfl (lv_at hl.1 2 rfl) ?_
      obtain ⟨t9, ht9, h⟩ := st_g_some h
      refine rr_geti X hw ff_3_4_4 ht9 tw_196 (Or.inl rfl) dd_xP_callFrom_37 ?_
      obtain ⟨t10, t11, t12, t13, t14, t15, ht10, h, ei, ej⟩ := st_b_some h
      refine rr_callI (n := 2) (b := t4) (As := [(.int ((100 : Int32) + t8)), (.int t9)]) (rest := [(va_rf (some t4))]) X hw (kn_ok D ac a0 gl) hKs (kc_xQ_init l D ac a0 gl (some t4) ((100 : Int32) + t8) t9 _ _ _ _ _ ht10) tb_good tw_264 tw_263 tw_265 tw_266 rfl (by decide +kernel) rfl (show 4 + 1 ≤ _ ∧ 8 + (3 + 11) + 72 ≤ _ from ⟨Nat.le_of_ble_eq_true rfl, Nat.le_of_ble_eq_true rfl⟩) (show t5 + t12 ≤ iT ∧ t6 + t13 ≤ jT from ⟨ar_1 hci ei, ar_1 hcj ej⟩) hl.1.1 (by simp [rf_cat, ic_cat]) rfl dd_xP_callFrom_40 (sk := [(va_rf (some t4))]) rfl (fun H locs hw => ?_)
      have hci : t5 + t12 + t14 = iT := ar_2 hci ei
      have hcj : t6 + t13 + t15 = jT := ar_2 hcj ej
      clear ei ej
      generalize t5 + t12 = t16 at hci ⊢
      generalize t6 + t13 = t17 at hcj ⊢
      refine rr_astn (lv' := [(3, (va_rf (some t4))), (0, (va_rf v0)), (1, (va_rf v1)), (2, (va_rf v2))]) X dd_xP_callFrom_43 rfl hl (by decide) rfl (fun ls hl => ?_)
      refine rr_aldn X dd_xP_callFrom_44 rfl (lv_at hl.1 1 rfl) ?_
      obtain ⟨t18, ht18, h⟩ := st_g_some h
      refine rr_getq X hw ff_0_2 ht18 tw_64 (Or.inl rfl) dd_xP_callFrom_45 ?_
      refine rr_aldn X dd_xP_callFrom_48 rfl (lv_at hl.1 0 rfl) ?_
      obtain ⟨t19, ht19, h⟩ := st_g_some h
      refine rr_geti X hw ff_4_3 ht19 tw_262 (Or.inr tw_261) dd_xP_callFrom_49 ?_
      refine rr_aldn X dd_xP_callFrom_52 rfl (lv_at hl.1 0 rfl) ?_
      obtain ⟨t20, hp53, h⟩ := st_w_some h
      refine rr_aast X hw (ta_6 hKs) hp53 dd_xP_callFrom_53 (fun H locs hw => ?_)
      obtain ⟨t60, t61, h, ei, ej⟩ := st_n_some h
      refine rr_new (fs := cd_8) X hw cf_8 cb_8 tw_223 tw_224 tw_219 (show t16 + 1 ≤ iT ∧ t17 + 4 ≤ jT from ⟨ar_1 hci ei, ar_1 hcj ej⟩) dd_xP_callFrom_54 (fun H hw => ?_)
      have hci : t16 + 1 + t60 = iT := ar_2 hci ei
      have hcj : t17 + 4 + t61 = jT := ar_2 hcj ej
      clear ei ej
      generalize t16 + 1 = t22 at hci ⊢
      generalize t17 + 4 = t23 at hcj ⊢
      generalize t20.2 = t21 at h ⊢
      have h := h
      generalize (st_ad t20 (.inr (.inr (8, cd_8)))) = t24 at h hw
      refine lv_dup X.1 X.2.1 dd_xP_callFrom_57 (rf_cat _) ?_
      refine rr_aldn X dd_xP_callFrom_58 rfl (lv_at hl.1 3 rfl) ?_
      refine rr_aldn X dd_xP_callFrom_59 rfl (lv_at hl.1 2 rfl) ?_
      obtain ⟨t25, ht25, h⟩ := st_g_some h
      refine rr_geti X hw ff_1_1 ht25 tw_248 (Or.inl rfl) dd_xP_callFrom_60 ?_
      refine rr_aldn X dd_xP_callFrom_63 rfl (lv_at hl.1 2 rfl) ?_
      obtain ⟨t26, ht26, h⟩ := st_g_some h
      refine rr_getq X hw ff_1_2 ht26 tw_246 (Or.inl rfl) dd_xP_callFrom_64 ?_
      refine rr_aldn X dd_xP_callFrom_67 rfl (lv_at hl.1 0 rfl) ?_
      obtain ⟨t27, t28, t29, t30, t31, t32, ht27, h, ei, ej⟩ := st_b_some h
      refine rr_callI (n := 4) (b := t21) (As := [(va_rf v2), (.int t25), (va_rf t26), (va_rf (some t4))]) (rest := [(va_rf (some t21))]) X hw (kn_ok D ac a0 gl) hKs (kc_xC_init l D ac a0 gl (some t21) v2 t25 t26 (some t4) _ _ _ _ _ ht27) tb_good tw_220 tw_219 tw_221 tw_222 rfl (by decide +kernel) rfl (show 1 + 1 ≤ _ ∧ 8 + (5 + 11) + 12 ≤ _ from ⟨Nat.le_of_ble_eq_true rfl, Nat.le_of_ble_eq_true rfl⟩) (show t22 + t29 ≤ iT ∧ t23 + t30 ≤ jT from ⟨ar_1 hci ei, ar_1 hcj ej⟩) hl.1.1 (by simp [rf_cat, ic_cat]) rfl dd_xP_callFrom_68 (sk := [(va_rf (some t21))]) rfl (fun H locs hw => ?_)
      have hci : t22 + t29 + t31 = iT := ar_2 hci ei
      have hcj : t23 + t30 + t32 = jT := ar_2 hcj ej
      clear ei ej
      generalize t22 + t29 = t33 at hci ⊢
      generalize t23 + t30 = t34 at hcj ⊢
      refine rr_ast (lv' := [(4, (va_rf (some t21))), (3, (va_rf (some t4))), (0, (va_rf v0)), (1, (va_rf v1)), (2, (va_rf v2))]) X dd_xP_callFrom_71 hl (by decide) rfl (fun ls hl => ?_)
      refine rr_aldn X dd_xP_callFrom_73 rfl (lv_at hl.1 3 rfl) ?_
      obtain ⟨t35, ht35, h⟩ := st_g_some h
      refine rr_getq X hw ff_1_0 ht35 tw_251 (Or.inl rfl) dd_xP_callFrom_74 ?_
      obtain ⟨t36, ht36, h⟩ := st_g_some h
      refine rr_geti X hw ff_3_4 ht36 tw_250 (Or.inr tw_249) dd_xP_callFrom_77 ?_
      refine rr_ist (lv' := [(5, (.int t36)), (4, (va_rf (some t21))), (3, (va_rf (some t4))), (0, (va_rf v0)), (1, (va_rf v1)), (2, (va_rf v2))]) X dd_xP_callFrom_80 hl (by decide) rfl (fun ls hl => ?_)
      refine rr_aldn X dd_xP_callFrom_82 rfl (lv_at hl.1 5 rfl) ?_
      obtain ⟨t37, ht37, h⟩ := st_g_some h
      refine rr_geti X hw ff_3_4_4 ht37 tw_196 (Or.inl rfl) dd_xP_callFrom_83 ?_
      refine lv_iload X.1 X.2.1 dd_xP_callFrom_86 (lv_at hl.1 0 rfl) ?_
      by_cases hc88 : t37 = t36
      · rw [if_pos hc88] at h
        refine lv_icmp_ne (tgt := 102) X.1 X.2.1 dd_xP_callFrom_88 (by decide) (fun z => absurd hc88 z) (fun _ => ?_)
        refine rr_aldn X dd_xP_callFrom_91 rfl (lv_at hl.1 3 rfl) ?_
        refine rr_ald X dd_xP_callFrom_92 (lv_at hl.1 1 rfl) ?_
        refine lv_iload X.1 X.2.1 dd_xP_callFrom_94 (lv_at hl.1 0 rfl) ?_
        obtain ⟨t46, ht46, h⟩ := st_g_some h
        obtain ⟨t38, t39, t40, t41, t42, t43, ht38, h, ei, ej⟩ := st_b_some h
        refine rr_callV (n := 2) (As := [(va_rf (some t21)), (.int t36)]) (rest := []) X hw (kn_ok D ac a0 gl) hKs (kc_xP_arrive l D ac a0 gl v0 (some t21) t36 _ _ _ _ _ ht38) tb_good tw_215 tw_91 tw_216 tw_217 se_11 ht46 (by decide +kernel) rfl (show 10 + 1 ≤ _ ∧ 8 + (6 + 11) + 261 ≤ _ from ⟨Nat.le_of_ble_eq_true rfl, Nat.le_of_ble_eq_true rfl⟩) (show t33 + t40 ≤ iT ∧ t34 + t41 ≤ jT from ⟨ar_1 hci ei, ar_1 hcj ej⟩) hl.1.1 (by simp [rf_cat, ic_cat]) rfl dd_xP_callFrom_96 (sk := []) rfl (fun H locs hw => ?_)
        have hci : t33 + t40 + t42 = iT := ar_2 hci ei
        have hcj : t34 + t41 + t43 = jT := ar_2 hcj ej
        clear ei ej
        generalize t33 + t40 = t44 at hci ⊢
        generalize t34 + t41 = t45 at hcj ⊢
        refine lv_goto (tgt := 126) X.1 X.2.1 dd_xP_callFrom_99 (by decide) ?_
        exact (kb_xP_callFrom_b126 X hKs hlk hret hnm) (some t4) _ _ _ _ _ _ _ _ hw (lh_pk hl [2] rfl) h hci hcj
      · rw [if_neg hc88] at h
        refine lv_icmp_ne (tgt := 102) X.1 X.2.1 dd_xP_callFrom_88 (by decide) (fun _ => ?_) (fun z => absurd z hc88)
        refine rr_aldn X dd_xP_callFrom_102 rfl (lv_at hl.1 3 rfl) ?_
        refine rr_ald X dd_xP_callFrom_103 (lv_at hl.1 1 rfl) ?_
        refine lv_iload X.1 X.2.1 dd_xP_callFrom_105 (lv_at hl.1 0 rfl) ?_
        obtain ⟨t59, ht59, h⟩ := st_g_some h
        obtain ⟨t47, t48, t49, t50, t51, t52, ht47, h, ei, ej⟩ := st_b_some h
        refine rr_callV (n := 2) (As := [(va_rf (some t21)), (.int t36)]) (rest := []) X hw (kn_ok D ac a0 gl) hKs (kc_xP_postCall l D ac a0 gl v0 (some t21) t36 _ _ _ _ _ ht47) tb_good tw_205 tw_91 tw_206 tw_207 se_9 ht59 (by decide +kernel) rfl (show 9 + 1 ≤ _ ∧ 8 + (5 + 11) + 237 ≤ _ from ⟨Nat.le_of_ble_eq_true rfl, Nat.le_of_ble_eq_true rfl⟩) (show t33 + t49 ≤ iT ∧ t34 + t50 ≤ jT from ⟨ar_1 hci ei, ar_1 hcj ej⟩) hl.1.1 (by simp [rf_cat, ic_cat]) rfl dd_xP_callFrom_107 (sk := []) rfl (fun H locs hw => ?_)
        have hci : t33 + t49 + t51 = iT := ar_2 hci ei
        have hcj : t34 + t50 + t52 = jT := ar_2 hcj ej
        clear ei ej
        generalize t33 + t49 = t53 at hci ⊢
        generalize t34 + t50 = t54 at hcj ⊢
        refine rr_aldn X dd_xP_callFrom_110 rfl (lv_at hl.1 2 rfl) ?_
        obtain ⟨t55, ht55, h⟩ := st_g_some h
        refine rr_getq X hw ff_4_7 ht55 tw_260 (Or.inr tw_259) dd_xP_callFrom_111 ?_
        refine lv_iload X.1 X.2.1 dd_xP_callFrom_114 (lv_at hl.1 0 rfl) ?_
        refine lv_iconst (v := (1 : Int32)) X.1 X.2.1 dd_xP_callFrom_116 (by decide) ?_
        obtain ⟨t56, hp117, h⟩ := st_w_some h
        refine rr_iast (t := 0) X hw rfl hp117 dd_xP_callFrom_117 (fun H locs hw => ?_)
        refine rr_aldn X dd_xP_callFrom_118 rfl (lv_at hl.1 2 rfl) ?_
        obtain ⟨t57, ht57, h⟩ := st_g_some h
        refine rr_getq X hw ff_4_8 ht57 tw_258 (Or.inr tw_257) dd_xP_callFrom_119 ?_
        refine lv_iload X.1 X.2.1 dd_xP_callFrom_122 (lv_at hl.1 0 rfl) ?_
        refine lv_iconst (v := (1 : Int32)) X.1 X.2.1 dd_xP_callFrom_124 (by decide) ?_
        obtain ⟨t58, hp125, h⟩ := st_w_some h
        refine rr_iast (t := 0) X hw rfl hp125 dd_xP_callFrom_125 (fun H locs hw => ?_)
        exact (kb_xP_callFrom_b126 X hKs hlk hret hnm) (some t4) _ _ _ _ _ _ _ _ hw (lh_pk hl [2] rfl) h hci hcj
    · rw [if_neg hc10] at h
      refine lv_icmp_lt (tgt := 15) X.1 X.2.1 dd_xP_callFrom_10 (by decide) (fun z => absurd z hc10) (fun _ => ?_)
      exact (kb_xP_callFrom_b13 X hKs hlk hret hnm) () _ _ _ _ _ _ _ _ hw (lh_pk hl [] rfl) h hci hcj
/-! PromiseVats$Vat.putOut(I)V -/
theorem dd_xV_putOut_0 : decode prog_9_method_2_code 0 = .ok (.aload_n 0, 1) := by decide +kernel
theorem dd_xV_putOut_1 : decode prog_9_method_2_code 1 = .ok (.getfield 18, 3) := by decide +kernel
theorem dd_xV_putOut_4 : decode prog_9_method_2_code 4 = .ok (.iconst 0, 1) := by decide +kernel
theorem dd_xV_putOut_5 : decode prog_9_method_2_code 5 = .ok (.aload_n 0, 1) := by decide +kernel
theorem dd_xV_putOut_6 : decode prog_9_method_2_code 6 = .ok (.getfield 18, 3) := by decide +kernel
theorem dd_xV_putOut_9 : decode prog_9_method_2_code 9 = .ok (.iconst 1, 1) := by decide +kernel
theorem dd_xV_putOut_10 : decode prog_9_method_2_code 10 = .ok (.bipush 9, 2) := by decide +kernel
theorem dd_xV_putOut_12 : decode prog_9_method_2_code 12 = .ok (.invokestatic 33, 3) := by decide +kernel
theorem dd_xV_putOut_15 : decode prog_9_method_2_code 15 = .ok (.aload_n 0, 1) := by decide +kernel
theorem dd_xV_putOut_16 : decode prog_9_method_2_code 16 = .ok (.getfield 18, 3) := by decide +kernel
theorem dd_xV_putOut_19 : decode prog_9_method_2_code 19 = .ok (.iconst 0, 1) := by decide +kernel
theorem dd_xV_putOut_20 : decode prog_9_method_2_code 20 = .ok (.iload_n 1, 1) := by decide +kernel
theorem dd_xV_putOut_21 : decode prog_9_method_2_code 21 = .ok (.iastore, 1) := by decide +kernel
theorem dd_xV_putOut_22 : decode prog_9_method_2_code 22 = .ok (.aload_n 0, 1) := by decide +kernel
theorem dd_xV_putOut_23 : decode prog_9_method_2_code 23 = .ok (.dup, 1) := by decide +kernel
theorem dd_xV_putOut_24 : decode prog_9_method_2_code 24 = .ok (.getfield 39, 3) := by decide +kernel
theorem dd_xV_putOut_27 : decode prog_9_method_2_code 27 = .ok (.iconst 1, 1) := by decide +kernel
theorem dd_xV_putOut_28 : decode prog_9_method_2_code 28 = .ok (.iadd, 1) := by decide +kernel
theorem dd_xV_putOut_29 : decode prog_9_method_2_code 29 = .ok (.putfield 39, 3) := by decide +kernel
theorem dd_xV_putOut_32 : decode prog_9_method_2_code 32 = .ok (.return_, 1) := by decide +kernel
set_option maxHeartbeats 4000000 in
set_option maxRecDepth 100000 in
theorem kc_xV_putOut (l : Launch) (D : va_G) (ac : Nat → ClassId) (a0 : Nat) (gl : gl_T) (v0 : Option Nat) (v1 : Int32) (st : st_S) (rF : Unit) (stF : st_S) (iT jT : Nat) (h : xV_putOut gl v0 v1 st = some (rF, stF, iT, jT)) :
    ct_ l ⟨"PromiseVats$Vat", "putOut", "(I)V"⟩ (Cond.code ⟨"PromiseVats$Vat", "putOut", "(I)V"⟩ prog_9_method_2_code 2 (Option.none : Option FieldType) :: tb_) 1 60 D cl_ ac a0 (kn_ D ac a0 gl) [(va_rf v0), (.int v1)] st (vb_u rF) stF iT jT := by
  refine ct_of (kn_ok D ac a0 gl) (plainFor_of_name (by decide +kernel)) (by simp [rf_cat, ic_cat]) (by simp) ?_
  intro p e s m args below meth c ls X hw hKs hlk hret hnm hl
  unfold xV_putOut at h
  have hl : lh_ ls 2 [(0, (va_rf v0)), (1, (.int v1))] := hl
  obtain ⟨z0, hz0⟩ : ∃ z : Nat, 0 = z := ⟨0, rfl⟩
  obtain ⟨z1, hz1⟩ : ∃ z : Nat, 0 = z := ⟨0, rfl⟩
  refine W.cs hz0 hz1 ?_
  have hci : z0 + iT = iT := by omega
  have hcj : z1 + jT = jT := by omega
  refine rr_aldn X dd_xV_putOut_0 rfl (lv_at hl.1 0 rfl) ?_
  obtain ⟨t1, ht1, h⟩ := st_g_some h
  refine rr_getq X hw ff_5_3 ht1 tw_43 (Or.inl rfl) dd_xV_putOut_1 ?_
  refine lv_iconst (v := (0 : Int32)) X.1 X.2.1 dd_xV_putOut_4 (by decide) ?_
  refine rr_aldn X dd_xV_putOut_5 rfl (lv_at hl.1 0 rfl) ?_
  obtain ⟨t2, ht2, h⟩ := st_g_some h
  refine rr_getq X hw ff_5_3 ht2 tw_43 (Or.inl rfl) dd_xV_putOut_6 ?_
  refine lv_iconst (v := (1 : Int32)) X.1 X.2.1 dd_xV_putOut_9 (by decide) ?_
  refine lv_bipush (v := (9 : Int32)) X.1 X.2.1 dd_xV_putOut_10 (by decide) ?_
  obtain ⟨t3, hp12, h⟩ := st_w_some h
  refine rr_cpi X hKs hw hp12 hl.1.1 tw_270 tw_131 tw_132 tw_133 (Nat.le_of_ble_eq_true rfl) (by simp [rf_cat, ic_cat]; decide) dd_xV_putOut_12 (fun H locs hw => ?_)
  refine rr_aldn X dd_xV_putOut_15 rfl (lv_at hl.1 0 rfl) ?_
  obtain ⟨t4, ht4, h⟩ := st_g_some h
  refine rr_getq X hw ff_5_3 ht4 tw_43 (Or.inl rfl) dd_xV_putOut_16 ?_
  refine lv_iconst (v := (0 : Int32)) X.1 X.2.1 dd_xV_putOut_19 (by decide) ?_
  refine lv_iload_n X.1 X.2.1 dd_xV_putOut_20 rfl (lv_at hl.1 1 rfl) ?_
  obtain ⟨t5, hp21, h⟩ := st_w_some h
  refine rr_iast (t := 0) X hw rfl hp21 dd_xV_putOut_21 (fun H locs hw => ?_)
  refine rr_aldn X dd_xV_putOut_22 rfl (lv_at hl.1 0 rfl) ?_
  refine lv_dup X.1 X.2.1 dd_xV_putOut_23 (rf_cat _) ?_
  obtain ⟨t6, ht6, h⟩ := st_g_some h
  refine rr_geti X hw ff_5_4 ht6 tw_269 (Or.inl rfl) dd_xV_putOut_24 ?_
  refine lv_iconst (v := (1 : Int32)) X.1 X.2.1 dd_xV_putOut_27 (by decide) ?_
  refine lv_iadd X.1 X.2.1 dd_xV_putOut_28 ?_
  obtain ⟨t7, hp29, h⟩ := st_w_some h
  refine rr_put (ty := .int) X hw ff_5_4 hp29 tw_269 (Or.inl rfl) (by decide +kernel) rfl rfl dd_xV_putOut_29 (fun H locs hw => ?_)
  obtain ⟨rfl, rfl, rfl, rfl⟩ := st_r_some h
  exact rr_vret X hw hlk hret hci hcj dd_xV_putOut_32
