/-! PromiseVatsModel.unrest(I)V -/
theorem dd_mm_unrest_0 : decode prog_12_method_15_code 0 = .ok (.aload_n 0, 1) := by decide +kernel
theorem dd_mm_unrest_1 : decode prog_12_method_15_code 1 = .ok (.dup, 1) := by decide +kernel
theorem dd_mm_unrest_2 : decode prog_12_method_15_code 2 = .ok (.getfield 144, 3) := by decide +kernel
theorem dd_mm_unrest_5 : decode prog_12_method_15_code 5 = .ok (.iconst 1, 1) := by decide +kernel
theorem dd_mm_unrest_6 : decode prog_12_method_15_code 6 = .ok (.isub, 1) := by decide +kernel
theorem dd_mm_unrest_7 : decode prog_12_method_15_code 7 = .ok (.putfield 144, 3) := by decide +kernel
theorem dd_mm_unrest_10 : decode prog_12_method_15_code 10 = .ok (.iload_n 1, 1) := by decide +kernel
theorem dd_mm_unrest_11 : decode prog_12_method_15_code 11 = .ok (.istore_n 2, 1) := by decide +kernel
theorem dd_mm_unrest_12 : decode prog_12_method_15_code 12 = .ok (.iload_n 2, 1) := by decide +kernel
theorem dd_mm_unrest_13 : decode prog_12_method_15_code 13 = .ok (.aload_n 0, 1) := by decide +kernel
theorem dd_mm_unrest_14 : decode prog_12_method_15_code 14 = .ok (.getfield 144, 3) := by decide +kernel
theorem dd_mm_unrest_17 : decode prog_12_method_15_code 17 = .ok (.if_icmp .ge 79, 3) := by decide +kernel
theorem dd_mm_unrest_20 : decode prog_12_method_15_code 20 = .ok (.aload_n 0, 1) := by decide +kernel
theorem dd_mm_unrest_21 : decode prog_12_method_15_code 21 = .ok (.getfield 54, 3) := by decide +kernel
theorem dd_mm_unrest_24 : decode prog_12_method_15_code 24 = .ok (.iload_n 2, 1) := by decide +kernel
theorem dd_mm_unrest_25 : decode prog_12_method_15_code 25 = .ok (.aload_n 0, 1) := by decide +kernel
theorem dd_mm_unrest_26 : decode prog_12_method_15_code 26 = .ok (.getfield 54, 3) := by decide +kernel
theorem dd_mm_unrest_29 : decode prog_12_method_15_code 29 = .ok (.iload_n 2, 1) := by decide +kernel
theorem dd_mm_unrest_30 : decode prog_12_method_15_code 30 = .ok (.iconst 1, 1) := by decide +kernel
theorem dd_mm_unrest_31 : decode prog_12_method_15_code 31 = .ok (.iadd, 1) := by decide +kernel
theorem dd_mm_unrest_32 : decode prog_12_method_15_code 32 = .ok (.iaload, 1) := by decide +kernel
theorem dd_mm_unrest_33 : decode prog_12_method_15_code 33 = .ok (.iastore, 1) := by decide +kernel
theorem dd_mm_unrest_34 : decode prog_12_method_15_code 34 = .ok (.aload_n 0, 1) := by decide +kernel
theorem dd_mm_unrest_35 : decode prog_12_method_15_code 35 = .ok (.getfield 57, 3) := by decide +kernel
theorem dd_mm_unrest_38 : decode prog_12_method_15_code 38 = .ok (.iload_n 2, 1) := by decide +kernel
theorem dd_mm_unrest_39 : decode prog_12_method_15_code 39 = .ok (.aload_n 0, 1) := by decide +kernel
theorem dd_mm_unrest_40 : decode prog_12_method_15_code 40 = .ok (.getfield 57, 3) := by decide +kernel
theorem dd_mm_unrest_43 : decode prog_12_method_15_code 43 = .ok (.iload_n 2, 1) := by decide +kernel
theorem dd_mm_unrest_44 : decode prog_12_method_15_code 44 = .ok (.iconst 1, 1) := by decide +kernel
theorem dd_mm_unrest_45 : decode prog_12_method_15_code 45 = .ok (.iadd, 1) := by decide +kernel
theorem dd_mm_unrest_46 : decode prog_12_method_15_code 46 = .ok (.iaload, 1) := by decide +kernel
theorem dd_mm_unrest_47 : decode prog_12_method_15_code 47 = .ok (.iastore, 1) := by decide +kernel
theorem dd_mm_unrest_48 : decode prog_12_method_15_code 48 = .ok (.aload_n 0, 1) := by decide +kernel
theorem dd_mm_unrest_49 : decode prog_12_method_15_code 49 = .ok (.getfield 60, 3) := by decide +kernel
theorem dd_mm_unrest_52 : decode prog_12_method_15_code 52 = .ok (.iload_n 2, 1) := by decide +kernel
theorem dd_mm_unrest_53 : decode prog_12_method_15_code 53 = .ok (.aload_n 0, 1) := by decide +kernel
theorem dd_mm_unrest_54 : decode prog_12_method_15_code 54 = .ok (.getfield 60, 3) := by decide +kernel
theorem dd_mm_unrest_57 : decode prog_12_method_15_code 57 = .ok (.iload_n 2, 1) := by decide +kernel
theorem dd_mm_unrest_58 : decode prog_12_method_15_code 58 = .ok (.iconst 1, 1) := by decide +kernel
theorem dd_mm_unrest_59 : decode prog_12_method_15_code 59 = .ok (.iadd, 1) := by decide +kernel
theorem dd_mm_unrest_60 : decode prog_12_method_15_code 60 = .ok (.iaload, 1) := by decide +kernel
theorem dd_mm_unrest_61 : decode prog_12_method_15_code 61 = .ok (.iastore, 1) := by decide +kernel
theorem dd_mm_unrest_62 : decode prog_12_method_15_code 62 = .ok (.aload_n 0, 1) := by decide +kernel
theorem dd_mm_unrest_63 : decode prog_12_method_15_code 63 = .ok (.getfield 63, 3) := by decide +kernel
theorem dd_mm_unrest_66 : decode prog_12_method_15_code 66 = .ok (.iload_n 2, 1) := by decide +kernel
theorem dd_mm_unrest_67 : decode prog_12_method_15_code 67 = .ok (.aload_n 0, 1) := by decide +kernel
theorem dd_mm_unrest_68 : decode prog_12_method_15_code 68 = .ok (.getfield 63, 3) := by decide +kernel
theorem dd_mm_unrest_71 : decode prog_12_method_15_code 71 = .ok (.iload_n 2, 1) := by decide +kernel
theorem dd_mm_unrest_72 : decode prog_12_method_15_code 72 = .ok (.iconst 1, 1) := by decide +kernel
theorem dd_mm_unrest_73 : decode prog_12_method_15_code 73 = .ok (.iadd, 1) := by decide +kernel
theorem dd_mm_unrest_74 : decode prog_12_method_15_code 74 = .ok (.iaload, 1) := by decide +kernel
theorem dd_mm_unrest_75 : decode prog_12_method_15_code 75 = .ok (.iastore, 1) := by decide +kernel
theorem dd_mm_unrest_76 : decode prog_12_method_15_code 76 = .ok (.aload_n 0, 1) := by decide +kernel
theorem dd_mm_unrest_77 : decode prog_12_method_15_code 77 = .ok (.getfield 66, 3) := by decide +kernel
theorem dd_mm_unrest_80 : decode prog_12_method_15_code 80 = .ok (.iload_n 2, 1) := by decide +kernel
theorem dd_mm_unrest_81 : decode prog_12_method_15_code 81 = .ok (.aload_n 0, 1) := by decide +kernel
theorem dd_mm_unrest_82 : decode prog_12_method_15_code 82 = .ok (.getfield 66, 3) := by decide +kernel
theorem dd_mm_unrest_85 : decode prog_12_method_15_code 85 = .ok (.iload_n 2, 1) := by decide +kernel
theorem dd_mm_unrest_86 : decode prog_12_method_15_code 86 = .ok (.iconst 1, 1) := by decide +kernel
theorem dd_mm_unrest_87 : decode prog_12_method_15_code 87 = .ok (.iadd, 1) := by decide +kernel
theorem dd_mm_unrest_88 : decode prog_12_method_15_code 88 = .ok (.iaload, 1) := by decide +kernel
theorem dd_mm_unrest_89 : decode prog_12_method_15_code 89 = .ok (.iastore, 1) := by decide +kernel
theorem dd_mm_unrest_90 : decode prog_12_method_15_code 90 = .ok (.iinc 2 1, 3) := by decide +kernel
theorem dd_mm_unrest_93 : decode prog_12_method_15_code 93 = .ok (.goto (-81), 3) := by decide +kernel
theorem dd_mm_unrest_96 : decode prog_12_method_15_code 96 = .ok (.return_, 1) := by decide +kernel
set_option maxHeartbeats 4000000 in
set_option maxRecDepth 100000 in
theorem kb_mm_unrest_b12 {p : Program} {l : Launch} {e : Env} {s : State} {m : MethodId} {args : Array Value} {below : List Frame} {meth : Method} {c : Code} {D : va_G} {ac : Nat → ClassId} {a0 : Nat} {gl : gl_T} {rF : Unit} {stF : st_S} {iT jT : Nat}
    (X : cx_ p s m args c prog_12_method_15_code 3 "PromiseVatsModel" tb_ D cl_ (ty_ ac)) (hKs : kn_ D ac a0 gl s) (hlk : meth.locks = false) (hret : meth.sig.returnType = (Option.none : Option FieldType)) (hnm : meth.name = "unrest") : wk_ p l e 0 0 s m args below meth c D cl_ ac a0 3 vb_u rF stF iT jT 12 (fun x : Option Nat × Int32 => [(0, (va_rf x.1)), (2, (.int x.2))]) (fun x : Option Nat × Int32 => []) (st_it (fun rec12 => (fun x : Option Nat × Int32 => mm_unrest_b12 gl rec12 x.1 x.2)) fu_) := by
  refine wk_it ?_ _
  intro rec12 hr12 x st H locs cells slots i j ls hw hl h hci hcj
  obtain ⟨p0, p2⟩ := x
  have h : mm_unrest_b12 gl rec12 p0 p2 st = some (rF, stF, i, j) := h
  unfold mm_unrest_b12 at h
  have hl : lh_ ls 3 [(0, (va_rf p0)), (2, (.int p2))] := hl
  refine W.eq (g2 := F0 m 12 ls []) rfl ?_
  refine lv_iload_n X.1 X.2.1 dd_mm_unrest_12 rfl (lv_at hl.1 1 rfl) ?_
  refine rr_aldn X dd_mm_unrest_13 rfl (lv_at hl.1 0 rfl) ?_
  obtain ⟨t3, ht3, h⟩ := st_g_some h
  refine rr_geti X hw ff_10_18 ht3 tw_474 (Or.inl rfl) dd_mm_unrest_14 ?_
  by_cases hc17 : t3 ≤ p2
  · rw [if_pos hc17] at h
    refine lv_icmp_ge (tgt := 96) X.1 X.2.1 dd_mm_unrest_17 (by decide) (fun _ => ?_) (fun z => absurd hc17 z)
    obtain ⟨rfl, rfl, rfl, rfl⟩ := st_r_some h
    exact rr_vret X hw hlk hret hci hcj dd_mm_unrest_96
  · rw [if_neg hc17] at h
    refine lv_icmp_ge (tgt := 96) X.1 X.2.1 dd_mm_unrest_17 (by decide) (fun z => absurd z hc17) (fun _ => ?_)
    refine rr_aldn X dd_mm_unrest_20 rfl (lv_at hl.1 0 rfl) ?_
    obtain ⟨t4, ht4, h⟩ := st_g_some h
    refine rr_getq X hw ff_10_19 ht4 tw_450 (Or.inl rfl) dd_mm_unrest_21 ?_
    refine lv_iload_n X.1 X.2.1 dd_mm_unrest_24 rfl (lv_at hl.1 1 rfl) ?_
    refine rr_aldn X dd_mm_unrest_25 rfl (lv_at hl.1 0 rfl) ?_
    obtain ⟨t5, ht5, h⟩ := st_g_some h
    refine rr_getq X hw ff_10_19 ht5 tw_450 (Or.inl rfl) dd_mm_unrest_26 ?_
    refine lv_iload_n X.1 X.2.1 dd_mm_unrest_29 rfl (lv_at hl.1 1 rfl) ?_
    refine lv_iconst (v := (1 : Int32)) X.1 X.2.1 dd_mm_unrest_30 (by decide) ?_
    refine lv_iadd X.1 X.2.1 dd_mm_unrest_31 ?_
    obtain ⟨t6, ht6, h⟩ := st_g_some h
    refine rr_iald (t := 0) X hw rfl ht6 dd_mm_unrest_32 ?_
    obtain ⟨t7, hp33, h⟩ := st_w_some h
    refine rr_iast (t := 0) X hw rfl hp33 dd_mm_unrest_33 (fun H locs hw => ?_)
    refine rr_aldn X dd_mm_unrest_34 rfl (lv_at hl.1 0 rfl) ?_
    obtain ⟨t8, ht8, h⟩ := st_g_some h
    refine rr_getq X hw ff_10_20 ht8 tw_449 (Or.inl rfl) dd_mm_unrest_35 ?_
    refine lv_iload_n X.1 X.2.1 dd_mm_unrest_38 rfl (lv_at hl.1 1 rfl) ?_
    refine rr_aldn X dd_mm_unrest_39 rfl (lv_at hl.1 0 rfl) ?_
    obtain ⟨t9, ht9, h⟩ := st_g_some h
    refine rr_getq X hw ff_10_20 ht9 tw_449 (Or.inl rfl) dd_mm_unrest_40 ?_
    refine lv_iload_n X.1 X.2.1 dd_mm_unrest_43 rfl (lv_at hl.1 1 rfl) ?_
    refine lv_iconst (v := (1 : Int32)) X.1 X.2.1 dd_mm_unrest_44 (by decide) ?_
    refine lv_iadd X.1 X.2.1 dd_mm_unrest_45 ?_
    obtain ⟨t10, ht10, h⟩ := st_g_some h
    refine rr_iald (t := 0) X hw rfl ht10 dd_mm_unrest_46 ?_
    obtain ⟨t11, hp47, h⟩ := st_w_some h
    refine rr_iast (t := 0) X hw rfl hp47 dd_mm_unrest_47 (fun H locs hw => ?_)
    refine rr_aldn X dd_mm_unrest_48 rfl (lv_at hl.1 0 rfl) ?_
    obtain ⟨t12, ht12, h⟩ := st_g_some h
    refine rr_getq X hw ff_10_21 ht12 tw_448 (Or.inl rfl) dd_mm_unrest_49 ?_
    refine lv_iload_n X.1 X.2.1 dd_mm_unrest_52 rfl (lv_at hl.1 1 rfl) ?_
    refine rr_aldn X dd_mm_unrest_53 rfl (lv_at hl.1 0 rfl) ?_
    obtain ⟨t13, ht13, h⟩ := st_g_some h
    refine rr_getq X hw ff_10_21 ht13 tw_448 (Or.inl rfl) dd_mm_unrest_54 ?_
    refine lv_iload_n X.1 X.2.1 dd_mm_unrest_57 rfl (lv_at hl.1 1 rfl) ?_
    refine lv_iconst (v := (1 : Int32)) X.1 X.2.1 dd_mm_unrest_58 (by decide) ?_
    refine lv_iadd X.1 X.2.1 dd_mm_unrest_59 ?_
    obtain ⟨t14, ht14, h⟩ := st_g_some h
    refine rr_iald (t := 0) X hw rfl ht14 dd_mm_unrest_60 ?_
    obtain ⟨t15, hp61, h⟩ := st_w_some h
    refine rr_iast (t := 0) X hw rfl hp61 dd_mm_unrest_61 (fun H locs hw => ?_)
    refine rr_aldn X dd_mm_unrest_62 rfl (lv_at hl.1 0 rfl) ?_
    obtain ⟨t16, ht16, h⟩ := st_g_some h
    refine rr_getq X hw ff_10_22 ht16 tw_447 (Or.inl rfl) dd_mm_unrest_63 ?_
    refine lv_iload_n X.1 X.2.1 dd_mm_unrest_66 rfl (lv_at hl.1 1 rfl) ?_
    refine rr_aldn X dd_mm_unrest_67 rfl (lv_at hl.1 0 rfl) ?_
    obtain ⟨t17, ht17, h⟩ := st_g_some h
    refine rr_getq X hw ff_10_22 ht17 tw_447 (Or.inl rfl) dd_mm_unrest_68 ?_
    refine lv_iload_n X.1 X.2.1 dd_mm_unrest_71 rfl (lv_at hl.1 1 rfl) ?_
    refine lv_iconst (v := (1 : Int32)) X.1 X.2.1 dd_mm_unrest_72 (by decide) ?_
    refine lv_iadd X.1 X.2.1 dd_mm_unrest_73 ?_
    obtain ⟨t18, ht18, h⟩ := st_g_some h
    refine rr_iald (t := 0) X hw rfl ht18 dd_mm_unrest_74 ?_
    obtain ⟨t19, hp75, h⟩ := st_w_some h
    refine rr_iast (t := 0) X hw rfl hp75 dd_mm_unrest_75 (fun H locs hw => ?_)
    refine rr_aldn X dd_mm_unrest_76 rfl (lv_at hl.1 0 rfl) ?_
    obtain ⟨t20, ht20, h⟩ := st_g_some h
    refine rr_getq X hw ff_10_23 ht20 tw_446 (Or.inl rfl) dd_mm_unrest_77 ?_
    refine lv_iload_n X.1 X.2.1 dd_mm_unrest_80 rfl (lv_at hl.1 1 rfl) ?_
    refine rr_aldn X dd_mm_unrest_81 rfl (lv_at hl.1 0 rfl) ?_
    obtain ⟨t21, ht21, h⟩ := st_g_some h
    refine rr_getq X hw ff_10_23 ht21 tw_446 (Or.inl rfl) dd_mm_unrest_82 ?_
    refine lv_iload_n X.1 X.2.1 dd_mm_unrest_85 rfl (lv_at hl.1 1 rfl) ?_
    refine lv_iconst (v := (1 : Int32)) X.1 X.2.1 dd_mm_unrest_86 (by decide) ?_
    refine lv_iadd X.1 X.2.1 dd_mm_unrest_87 ?_
    obtain ⟨t22, ht22, h⟩ := st_g_some h
    refine rr_iald (t := 0) X hw rfl ht22 dd_mm_unrest_88 ?_
    obtain ⟨t23, hp89, h⟩ := st_w_some h
    refine rr_iast (t := 0) X hw rfl hp89 dd_mm_unrest_89 (fun H locs hw => ?_)
    refine rr_iinc (k := 1) (v := (p2 + (1 : Int32))) (lv' := [(2, (.int (p2 + (1 : Int32)))), (0, (va_rf p0))]) X dd_mm_unrest_90 hl rfl (by rw [show Int32.ofInt (1) = (1 : Int32) from by decide]) (by decide) rfl (fun ls hl => ?_)
    refine lv_goto (tgt := 12) X.1 X.2.1 dd_mm_unrest_93 (by decide) ?_
    exact hr12 (p0, (p2 + (1 : Int32))) _ _ _ _ _ _ _ _ hw (lh_pk hl [1, 0] rfl) h hci hcj
set_option maxHeartbeats 4000000 in
set_option maxRecDepth 100000 in
theorem kc_mm_unrest (l : Launch) (D : va_G) (ac : Nat → ClassId) (a0 : Nat) (gl : gl_T) (v0 : Option Nat) (v1 : Int32) (st : st_S) (rF : Unit) (stF : st_S) (iT jT : Nat) (h : mm_unrest gl v0 v1 st = some (rF, stF, iT, jT)) :
    ct_ l ⟨"PromiseVatsModel", "unrest", "(I)V"⟩ (Cond.code ⟨"PromiseVatsModel", "unrest", "(I)V"⟩ prog_12_method_15_code 3 (Option.none : Option FieldType) :: tb_) 0 0 D cl_ ac a0 (kn_ D ac a0 gl) [(va_rf v0), (.int v1)] st (vb_u rF) stF iT jT := by
  refine ct_of (kn_ok D ac a0 gl) (plainFor_of_name (by decide +kernel)) (by simp [rf_cat, ic_cat]) (by simp) ?_
  intro p e s m args below meth c ls X hw hKs hlk hret hnm hl
  unfold mm_unrest at h
  have hl : lh_ ls 3 [(0, (va_rf v0)), (1, (.int v1))] := hl
  obtain ⟨z0, hz0⟩ : ∃ z : Nat, 0 = z := ⟨0, rfl⟩
  obtain ⟨z1, hz1⟩ : ∃ z : Nat, 0 = z := ⟨0, rfl⟩
  refine W.cs hz0 hz1 ?_
  have hci : z0 + iT = iT := by omega
  have hcj : z1 + jT = jT := by omega
  refine rr_aldn X dd_mm_unrest_0 rfl (lv_at hl.1 0 rfl) ?_
  refine lv_dup X.1 X.2.1 dd_mm_unrest_1 (rf_cat _) ?_
  obtain ⟨t1, ht1, h⟩ := st_g_some h
  refine rr_geti X hw ff_10_18 ht1 tw_474 (Or.inl rfl) dd_mm_unrest_2 ?_
  refine lv_iconst (v := (1 : Int32)) X.1 X.2.1 dd_mm_unrest_5 (by decide) ?_
  refine lv_isub X.1 X.2.1 dd_mm_unrest_6 ?_
  obtain ⟨t2, hp7, h⟩ := st_w_some h
  refine rr_put (ty := .int) X hw ff_10_18 hp7 tw_474 (Or.inl rfl) (by decide +kernel) rfl rfl dd_mm_unrest_7 (fun H locs hw => ?_)
  refine lv_iload_n X.1 X.2.1 dd_mm_unrest_10 rfl (lv_at hl.1 1 rfl) ?_
  refine rr_istn (lv' := [(2, (.int v1)), (0, (va_rf v0)), (1, (.int v1))]) X dd_mm_unrest_11 rfl hl (by decide) rfl (fun ls hl => ?_)
  exact (kb_mm_unrest_b12 X hKs hlk hret hnm) (v0, v1) _ _ _ _ _ _ _ _ hw (lh_pk hl [1, 0] rfl) h hci hcj
