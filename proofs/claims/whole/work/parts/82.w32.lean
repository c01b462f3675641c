/-! PromiseVatsModel.fresh(II)I -/
theorem dd_mm_fresh_0 : decode prog_12_method_24_code 0 = .ok (.aload_n 0, 1) := by decide +kernel
theorem dd_mm_fresh_1 : decode prog_12_method_24_code 1 = .ok (.getfield 98, 3) := by decide +kernel
theorem dd_mm_fresh_4 : decode prog_12_method_24_code 4 = .ok (.bipush 60, 2) := by decide +kernel
theorem dd_mm_fresh_6 : decode prog_12_method_24_code 6 = .ok (.if_icmp .lt 5, 3) := by decide +kernel
theorem dd_mm_fresh_9 : decode prog_12_method_24_code 9 = .ok (.iconst 0, 1) := by decide +kernel
theorem dd_mm_fresh_10 : decode prog_12_method_24_code 10 = .ok (.ireturn, 1) := by decide +kernel
theorem dd_mm_fresh_11 : decode prog_12_method_24_code 11 = .ok (.aload_n 0, 1) := by decide +kernel
theorem dd_mm_fresh_12 : decode prog_12_method_24_code 12 = .ok (.dup, 1) := by decide +kernel
theorem dd_mm_fresh_13 : decode prog_12_method_24_code 13 = .ok (.getfield 98, 3) := by decide +kernel
theorem dd_mm_fresh_16 : decode prog_12_method_24_code 16 = .ok (.iconst 1, 1) := by decide +kernel
theorem dd_mm_fresh_17 : decode prog_12_method_24_code 17 = .ok (.iadd, 1) := by decide +kernel
theorem dd_mm_fresh_18 : decode prog_12_method_24_code 18 = .ok (.putfield 98, 3) := by decide +kernel
theorem dd_mm_fresh_21 : decode prog_12_method_24_code 21 = .ok (.aload_n 0, 1) := by decide +kernel
theorem dd_mm_fresh_22 : decode prog_12_method_24_code 22 = .ok (.getfield 19, 3) := by decide +kernel
theorem dd_mm_fresh_25 : decode prog_12_method_24_code 25 = .ok (.aload_n 0, 1) := by decide +kernel
theorem dd_mm_fresh_26 : decode prog_12_method_24_code 26 = .ok (.getfield 98, 3) := by decide +kernel
theorem dd_mm_fresh_29 : decode prog_12_method_24_code 29 = .ok (.iload_n 1, 1) := by decide +kernel
theorem dd_mm_fresh_30 : decode prog_12_method_24_code 30 = .ok (.i2b, 1) := by decide +kernel
theorem dd_mm_fresh_31 : decode prog_12_method_24_code 31 = .ok (.bastore, 1) := by decide +kernel
theorem dd_mm_fresh_32 : decode prog_12_method_24_code 32 = .ok (.aload_n 0, 1) := by decide +kernel
theorem dd_mm_fresh_33 : decode prog_12_method_24_code 33 = .ok (.getfield 36, 3) := by decide +kernel
theorem dd_mm_fresh_36 : decode prog_12_method_24_code 36 = .ok (.aload_n 0, 1) := by decide +kernel
theorem dd_mm_fresh_37 : decode prog_12_method_24_code 37 = .ok (.getfield 98, 3) := by decide +kernel
theorem dd_mm_fresh_40 : decode prog_12_method_24_code 40 = .ok (.iload_n 2, 1) := by decide +kernel
theorem dd_mm_fresh_41 : decode prog_12_method_24_code 41 = .ok (.i2b, 1) := by decide +kernel
theorem dd_mm_fresh_42 : decode prog_12_method_24_code 42 = .ok (.bastore, 1) := by decide +kernel
theorem dd_mm_fresh_43 : decode prog_12_method_24_code 43 = .ok (.aload_n 0, 1) := by decide +kernel
theorem dd_mm_fresh_44 : decode prog_12_method_24_code 44 = .ok (.getfield 39, 3) := by decide +kernel
theorem dd_mm_fresh_47 : decode prog_12_method_24_code 47 = .ok (.aload_n 0, 1) := by decide +kernel
theorem dd_mm_fresh_48 : decode prog_12_method_24_code 48 = .ok (.getfield 98, 3) := by decide +kernel
theorem dd_mm_fresh_51 : decode prog_12_method_24_code 51 = .ok (.aload_n 0, 1) := by decide +kernel
theorem dd_mm_fresh_52 : decode prog_12_method_24_code 52 = .ok (.getfield 169, 3) := by decide +kernel
theorem dd_mm_fresh_55 : decode prog_12_method_24_code 55 = .ok (.iastore, 1) := by decide +kernel
theorem dd_mm_fresh_56 : decode prog_12_method_24_code 56 = .ok (.aload_n 0, 1) := by decide +kernel
theorem dd_mm_fresh_57 : decode prog_12_method_24_code 57 = .ok (.getfield 42, 3) := by decide +kernel
theorem dd_mm_fresh_60 : decode prog_12_method_24_code 60 = .ok (.iconst 4, 1) := by decide +kernel
theorem dd_mm_fresh_61 : decode prog_12_method_24_code 61 = .ok (.aload_n 0, 1) := by decide +kernel
theorem dd_mm_fresh_62 : decode prog_12_method_24_code 62 = .ok (.getfield 98, 3) := by decide +kernel
theorem dd_mm_fresh_65 : decode prog_12_method_24_code 65 = .ok (.imul, 1) := by decide +kernel
theorem dd_mm_fresh_66 : decode prog_12_method_24_code 66 = .ok (.aload_n 0, 1) := by decide +kernel
theorem dd_mm_fresh_67 : decode prog_12_method_24_code 67 = .ok (.getfield 172, 3) := by decide +kernel
theorem dd_mm_fresh_70 : decode prog_12_method_24_code 70 = .ok (.iastore, 1) := by decide +kernel
theorem dd_mm_fresh_71 : decode prog_12_method_24_code 71 = .ok (.aload_n 0, 1) := by decide +kernel
theorem dd_mm_fresh_72 : decode prog_12_method_24_code 72 = .ok (.getfield 98, 3) := by decide +kernel
theorem dd_mm_fresh_75 : decode prog_12_method_24_code 75 = .ok (.ireturn, 1) := by decide +kernel
set_option maxHeartbeats 4000000 in
set_option maxRecDepth 100000 in
theorem kc_mm_fresh (l : Launch) (D : va_G) (ac : Nat → ClassId) (a0 : Nat) (gl : gl_T) (v0 : Option Nat) (v1 : Int32) (v2 : Int32) (st : st_S) (rF : Int32) (stF : st_S) (iT jT : Nat) (h : mm_fresh gl v0 v1 v2 st = some (rF, stF, iT, jT)) :
    ct_ l ⟨"PromiseVatsModel", "fresh", "(II)I"⟩ (Cond.code ⟨"PromiseVatsModel", "fresh", "(II)I"⟩ prog_12_method_24_code 3 (Option.some FieldType.int) :: tb_) 0 0 D cl_ ac a0 (kn_ D ac a0 gl) [(va_rf v0), (.int v1), (.int v2)] st (vb_i rF) stF iT jT := by
  refine ct_of (kn_ok D ac a0 gl) (plainFor_of_name (by decide +kernel)) (by simp [rf_cat, ic_cat]) (by simp) ?_
  intro p e s m args below meth c ls X hw hKs hlk hret hnm hl
  unfold mm_fresh at h
  have hl : lh_ ls 3 [(0, (va_rf v0)), (1, (.int v1)), (2, (.int v2))] := hl
  obtain ⟨z0, hz0⟩ : ∃ z : Nat, 0 = z := ⟨0, rfl⟩
  obtain ⟨z1, hz1⟩ : ∃ z : Nat, 0 = z := ⟨0, rfl⟩
  refine W.cs hz0 hz1 ?_
  have hci : z0 + iT = iT := by omega
  have hcj : z1 + jT = jT := by omega
  refine rr_aldn X dd_mm_fresh_0 rfl (lv_at hl.1 0 rfl) ?_
  obtain ⟨t1, ht1, h⟩ := st_g_some h
  refine rr_geti X hw ff_10_1 ht1 tw_467 (Or.inl rfl) dd_mm_fresh_1 ?_
  refine lv_bipush (v := (60 : Int32)) X.1 X.2.1 dd_mm_fresh_4 (by decide) ?_
  by_cases hc6 : t1 < (60 : Int32)
  · rw [if_pos hc6] at h
    refine lv_icmp_lt (tgt := 11) X.1 X.2.1 dd_mm_fresh_6 (by decide) (fun _ => ?_) (fun z => absurd hc6 z)
    refine rr_aldn X dd_mm_fresh_11 rfl (lv_at hl.1 0 rfl) ?_
    refine lv_dup X.1 X.2.1 dd_mm_fresh_12 (rf_cat _) ?_
    obtain ⟨t2, ht2, h⟩ := st_g_some h
    refine rr_geti X hw ff_10_1 ht2 tw_467 (Or.inl rfl) dd_mm_fresh_13 ?_
    refine lv_iconst (v := (1 : Int32)) X.1 X.2.1 dd_mm_fresh_16 (by decide) ?_
    refine lv_iadd X.1 X.2.1 dd_mm_fresh_17 ?_
    obtain ⟨t3, hp18, h⟩ := st_w_some h
    refine rr_put (ty := .int) X hw ff_10_1 hp18 tw_467 (Or.inl rfl) (by decide +kernel) rfl rfl dd_mm_fresh_18 (fun H locs hw => ?_)
    refine rr_aldn X dd_mm_fresh_21 rfl (lv_at hl.1 0 rfl) ?_
    obtain ⟨t4, ht4, h⟩ := st_g_some h
    refine rr_getq X hw ff_10_6 ht4 tw_461 (Or.inl rfl) dd_mm_fresh_22 ?_
    refine rr_aldn X dd_mm_fresh_25 rfl (lv_at hl.1 0 rfl) ?_
    obtain ⟨t5, ht5, h⟩ := st_g_some h
    refine rr_geti X hw ff_10_1 ht5 tw_467 (Or.inl rfl) dd_mm_fresh_26 ?_
    refine lv_iload_n X.1 X.2.1 dd_mm_fresh_29 rfl (lv_at hl.1 1 rfl) ?_
    refine lv_i2b (v := (v1.toInt8.toInt32)) X.1 X.2.1 dd_mm_fresh_30 rfl ?_
    obtain ⟨t6, hp31, h⟩ := st_w_some h
    refine rr_bast (t := 1) X hw rfl hp31 dd_mm_fresh_31 (fun H locs hw => ?_)
    refine rr_aldn X dd_mm_fresh_32 rfl (lv_at hl.1 0 rfl) ?_
    obtain ⟨t7, ht7, h⟩ := st_g_some h
    refine rr_getq X hw ff_10_11 ht7 tw_456 (Or.inl rfl) dd_mm_fresh_33 ?_
    refine rr_aldn X dd_mm_fresh_36 rfl (lv_at hl.1 0 rfl) ?_
    obtain ⟨t8, ht8, h⟩ := st_g_some h
    refine rr_geti X hw ff_10_1 ht8 tw_467 (Or.inl rfl) dd_mm_fresh_37 ?_
    refine lv_iload_n X.1 X.2.1 dd_mm_fresh_40 rfl (lv_at hl.1 2 rfl) ?_
    refine lv_i2b (v := (v2.toInt8.toInt32)) X.1 X.2.1 dd_mm_fresh_41 rfl ?_
    obtain ⟨t9, hp42, h⟩ := st_w_some h
    refine rr_bast (t := 1) X hw rfl hp42 dd_mm_fresh_42 (fun H locs hw => ?_)
    refine rr_aldn X dd_mm_fresh_43 rfl (lv_at hl.1 0 rfl) ?_
    obtain ⟨t10, ht10, h⟩ := st_g_some h
    refine rr_getq X hw ff_10_12 ht10 tw_455 (Or.inl rfl) dd_mm_fresh_44 ?_
    refine rr_aldn X dd_mm_fresh_47 rfl (lv_at hl.1 0 rfl) ?_
    obtain ⟨t11, ht11, h⟩ := st_g_some h
    refine rr_geti X hw ff_10_1 ht11 tw_467 (Or.inl rfl) dd_mm_fresh_48 ?_
    refine rr_aldn X dd_mm_fresh_51 rfl (lv_at hl.1 0 rfl) ?_
    obtain ⟨t12, ht12, h⟩ := st_g_some h
    refine rr_geti X hw ff_10_34 ht12 tw_533 (Or.inl rfl) dd_mm_fresh_52 ?_
    obtain ⟨t13, hp55, h⟩ := st_w_some h
    refine rr_iast (t := 0) X hw rfl hp55 dd_mm_fresh_55 (fun H locs hw => ?_)
    refine rr_aldn X dd_mm_fresh_56 rfl (lv_at hl.1 0 rfl) ?_
    obtain ⟨t14, ht14, h⟩ := st_g_some h
    refine rr_getq X hw ff_10_13 ht14 tw_454 (Or.inl rfl) dd_mm_fresh_57 ?_
    refine lv_iconst (v := (4 : Int32)) X.1 X.2.1 dd_mm_fresh_60 (by decide) ?_
    refine rr_aldn X dd_mm_fresh_61 rfl (lv_at hl.1 0 rfl) ?_
    obtain ⟨t15, ht15, h⟩ := st_g_some h
    refine rr_geti X hw ff_10_1 ht15 tw_467 (Or.inl rfl) dd_mm_fresh_62 ?_
    refine lv_imul X.1 X.2.1 dd_mm_fresh_65 ?_
    refine rr_aldn X dd_mm_fresh_66 rfl (lv_at hl.1 0 rfl) ?_
    obtain ⟨t16, ht16, h⟩ := st_g_some h
    refine rr_geti X hw ff_10_35 ht16 tw_532 (Or.inl rfl) dd_mm_fresh_67 ?_
    obtain ⟨t17, hp70, h⟩ := st_w_some h
    refine rr_iast (t := 0) X hw rfl hp70 dd_mm_fresh_70 (fun H locs hw => ?_)
    refine rr_aldn X dd_mm_fresh_71 rfl (lv_at hl.1 0 rfl) ?_
    obtain ⟨t18, ht18, h⟩ := st_g_some h
    refine rr_geti X hw ff_10_1 ht18 tw_467 (Or.inl rfl) dd_mm_fresh_72 ?_
    obtain ⟨rfl, rfl, rfl, rfl⟩ := st_r_some h
    exact rr_iret X hw hlk hret rfl hci hcj dd_mm_fresh_75
  · rw [if_neg hc6] at h
    refine lv_icmp_lt (tgt := 11) X.1 X.2.1 dd_mm_fresh_6 (by decide) (fun z => absurd z hc6) (fun _ => ?_)
    refine lv_iconst (v := (0 : Int32)) X.1 X.2.1 dd_mm_fresh_9 (by decide) ?_
    obtain ⟨rfl, rfl, rfl, rfl⟩ := st_r_some h
    exact rr_iret X hw hlk hret rfl hci hcj dd_mm_fresh_10
/-! PromiseVatsModel.send(II)I -/
theorem dd_mm_send_0 : decode prog_12_method_25_code 0 = .ok (.iload_n 2, 1) := by decide +kernel
theorem dd_mm_send_1 : decode prog_12_method_25_code 1 = .ok (.ifCond .eq 12, 3) := by decide +kernel
theorem dd_mm_send_4 : decode prog_12_method_25_code 4 = .ok (.aload_n 0, 1) := by decide +kernel
theorem dd_mm_send_5 : decode prog_12_method_25_code 5 = .ok (.getfield 101, 3) := by decide +kernel
theorem dd_mm_send_8 : decode prog_12_method_25_code 8 = .ok (.bipush 100, 2) := by decide +kernel
theorem dd_mm_send_10 : decode prog_12_method_25_code 10 = .ok (.if_icmp .lt 5, 3) := by decide +kernel
theorem dd_mm_send_13 : decode prog_12_method_25_code 13 = .ok (.iconst 0, 1) := by decide +kernel
theorem dd_mm_send_14 : decode prog_12_method_25_code 14 = .ok (.ireturn, 1) := by decide +kernel
theorem dd_mm_send_15 : decode prog_12_method_25_code 15 = .ok (.aload_n 0, 1) := by decide +kernel
theorem dd_mm_send_16 : decode prog_12_method_25_code 16 = .ok (.dup, 1) := by decide +kernel
theorem dd_mm_send_17 : decode prog_12_method_25_code 17 = .ok (.getfield 101, 3) := by decide +kernel
theorem dd_mm_send_20 : decode prog_12_method_25_code 20 = .ok (.iconst 1, 1) := by decide +kernel
theorem dd_mm_send_21 : decode prog_12_method_25_code 21 = .ok (.iadd, 1) := by decide +kernel
theorem dd_mm_send_22 : decode prog_12_method_25_code 22 = .ok (.putfield 101, 3) := by decide +kernel
theorem dd_mm_send_25 : decode prog_12_method_25_code 25 = .ok (.bipush 100, 2) := by decide +kernel
theorem dd_mm_send_27 : decode prog_12_method_25_code 27 = .ok (.aload_n 0, 1) := by decide +kernel
theorem dd_mm_send_28 : decode prog_12_method_25_code 28 = .ok (.getfield 101, 3) := by decide +kernel
theorem dd_mm_send_31 : decode prog_12_method_25_code 31 = .ok (.iadd, 1) := by decide +kernel
theorem dd_mm_send_32 : decode prog_12_method_25_code 32 = .ok (.istore_n 3, 1) := by decide +kernel
theorem dd_mm_send_33 : decode prog_12_method_25_code 33 = .ok (.aload_n 0, 1) := by decide +kernel
theorem dd_mm_send_34 : decode prog_12_method_25_code 34 = .ok (.getfield 19, 3) := by decide +kernel
theorem dd_mm_send_37 : decode prog_12_method_25_code 37 = .ok (.iload_n 2, 1) := by decide +kernel
theorem dd_mm_send_38 : decode prog_12_method_25_code 38 = .ok (.baload, 1) := by decide +kernel
theorem dd_mm_send_39 : decode prog_12_method_25_code 39 = .ok (.istore 4, 2) := by decide +kernel
theorem dd_mm_send_41 : decode prog_12_method_25_code 41 = .ok (.aload_n 0, 1) := by decide +kernel
theorem dd_mm_send_42 : decode prog_12_method_25_code 42 = .ok (.getfield 19, 3) := by decide +kernel
theorem dd_mm_send_45 : decode prog_12_method_25_code 45 = .ok (.iload_n 3, 1) := by decide +kernel
theorem dd_mm_send_46 : decode prog_12_method_25_code 46 = .ok (.iload 4, 2) := by decide +kernel
theorem dd_mm_send_48 : decode prog_12_method_25_code 48 = .ok (.i2b, 1) := by decide +kernel
theorem dd_mm_send_49 : decode prog_12_method_25_code 49 = .ok (.bastore, 1) := by decide +kernel
theorem dd_mm_send_50 : decode prog_12_method_25_code 50 = .ok (.iload 4, 2) := by decide +kernel
theorem dd_mm_send_52 : decode prog_12_method_25_code 52 = .ok (.iload_n 1, 1) := by decide +kernel
theorem dd_mm_send_53 : decode prog_12_method_25_code 53 = .ok (.if_icmp .ne 25, 3) := by decide +kernel
theorem dd_mm_send_56 : decode prog_12_method_25_code 56 = .ok (.aload_n 0, 1) := by decide +kernel
theorem dd_mm_send_57 : decode prog_12_method_25_code 57 = .ok (.iload_n 1, 1) := by decide +kernel
theorem dd_mm_send_58 : decode prog_12_method_25_code 58 = .ok (.iload_n 2, 1) := by decide +kernel
theorem dd_mm_send_59 : decode prog_12_method_25_code 59 = .ok (.aload_n 0, 1) := by decide +kernel
theorem dd_mm_send_60 : decode prog_12_method_25_code 60 = .ok (.getfield 169, 3) := by decide +kernel
theorem dd_mm_send_63 : decode prog_12_method_25_code 63 = .ok (.aload_n 0, 1) := by decide +kernel
theorem dd_mm_send_64 : decode prog_12_method_25_code 64 = .ok (.getfield 172, 3) := by decide +kernel
theorem dd_mm_send_67 : decode prog_12_method_25_code 67 = .ok (.iload_n 3, 1) := by decide +kernel
theorem dd_mm_send_68 : decode prog_12_method_25_code 68 = .ok (.invokevirtual 130, 3) := by decide +kernel
theorem dd_mm_send_71 : decode prog_12_method_25_code 71 = .ok (.aload_n 0, 1) := by decide +kernel
theorem dd_mm_send_72 : decode prog_12_method_25_code 72 = .ok (.iload_n 1, 1) := by decide +kernel
theorem dd_mm_send_73 : decode prog_12_method_25_code 73 = .ok (.invokevirtual 141, 3) := by decide +kernel
theorem dd_mm_send_76 : decode prog_12_method_25_code 76 = .ok (.iload_n 3, 1) := by decide +kernel
theorem dd_mm_send_77 : decode prog_12_method_25_code 77 = .ok (.ireturn, 1) := by decide +kernel
theorem dd_mm_send_78 : decode prog_12_method_25_code 78 = .ok (.aload_n 0, 1) := by decide +kernel
theorem dd_mm_send_79 : decode prog_12_method_25_code 79 = .ok (.iload_n 1, 1) := by decide +kernel
theorem dd_mm_send_80 : decode prog_12_method_25_code 80 = .ok (.iload 4, 2) := by decide +kernel
theorem dd_mm_send_82 : decode prog_12_method_25_code 82 = .ok (.aload_n 0, 1) := by decide +kernel
theorem dd_mm_send_83 : decode prog_12_method_25_code 83 = .ok (.getfield 172, 3) := by decide +kernel
theorem dd_mm_send_86 : decode prog_12_method_25_code 86 = .ok (.invokevirtual 157, 3) := by decide +kernel
theorem dd_mm_send_89 : decode prog_12_method_25_code 89 = .ok (.aload_n 0, 1) := by decide +kernel
theorem dd_mm_send_90 : decode prog_12_method_25_code 90 = .ok (.iconst 1, 1) := by decide +kernel
theorem dd_mm_send_91 : decode prog_12_method_25_code 91 = .ok (.iconst 4, 1) := by decide +kernel
theorem dd_mm_send_92 : decode prog_12_method_25_code 92 = .ok (.iload_n 1, 1) := by decide +kernel
theorem dd_mm_send_93 : decode prog_12_method_25_code 93 = .ok (.imul, 1) := by decide +kernel
theorem dd_mm_send_94 : decode prog_12_method_25_code 94 = .ok (.iload 4, 2) := by decide +kernel
theorem dd_mm_send_96 : decode prog_12_method_25_code 96 = .ok (.iadd, 1) := by decide +kernel
theorem dd_mm_send_97 : decode prog_12_method_25_code 97 = .ok (.iload_n 2, 1) := by decide +kernel
theorem dd_mm_send_98 : decode prog_12_method_25_code 98 = .ok (.aload_n 0, 1) := by decide +kernel
theorem dd_mm_send_99 : decode prog_12_method_25_code 99 = .ok (.getfield 169, 3) := by decide +kernel
theorem dd_mm_send_102 : decode prog_12_method_25_code 102 = .ok (.aload_n 0, 1) := by decide +kernel
theorem dd_mm_send_103 : decode prog_12_method_25_code 103 = .ok (.getfield 172, 3) := by decide +kernel
theorem dd_mm_send_106 : decode prog_12_method_25_code 106 = .ok (.iload_n 3, 1) := by decide +kernel
theorem dd_mm_send_107 : decode prog_12_method_25_code 107 = .ok (.invokevirtual 111, 3) := by decide +kernel
theorem dd_mm_send_110 : decode prog_12_method_25_code 110 = .ok (.aload_n 0, 1) := by decide +kernel
theorem dd_mm_send_111 : decode prog_12_method_25_code 111 = .ok (.getfield 45, 3) := by decide +kernel
theorem dd_mm_send_114 : decode prog_12_method_25_code 114 = .ok (.iconst 4, 1) := by decide +kernel
theorem dd_mm_send_115 : decode prog_12_method_25_code 115 = .ok (.iload_n 3, 1) := by decide +kernel
theorem dd_mm_send_116 : decode prog_12_method_25_code 116 = .ok (.imul, 1) := by decide +kernel
theorem dd_mm_send_117 : decode prog_12_method_25_code 117 = .ok (.iload_n 1, 1) := by decide +kernel
theorem dd_mm_send_118 : decode prog_12_method_25_code 118 = .ok (.iadd, 1) := by decide +kernel
theorem dd_mm_send_119 : decode prog_12_method_25_code 119 = .ok (.iconst 1, 1) := by decide +kernel
theorem dd_mm_send_120 : decode prog_12_method_25_code 120 = .ok (.iastore, 1) := by decide +kernel
theorem dd_mm_send_121 : decode prog_12_method_25_code 121 = .ok (.aload_n 0, 1) := by decide +kernel
theorem dd_mm_send_122 : decode prog_12_method_25_code 122 = .ok (.getfield 48, 3) := by decide +kernel
theorem dd_mm_send_125 : decode prog_12_method_25_code 125 = .ok (.iconst 4, 1) := by decide +kernel
theorem dd_mm_send_126 : decode prog_12_method_25_code 126 = .ok (.iload_n 3, 1) := by decide +kernel
theorem dd_mm_send_127 : decode prog_12_method_25_code 127 = .ok (.imul, 1) := by decide +kernel
theorem dd_mm_send_128 : decode prog_12_method_25_code 128 = .ok (.iload_n 1, 1) := by decide +kernel
theorem dd_mm_send_129 : decode prog_12_method_25_code 129 = .ok (.iadd, 1) := by decide +kernel
theorem dd_mm_send_130 : decode prog_12_method_25_code 130 = .ok (.iconst 1, 1) := by decide +kernel
theorem dd_mm_send_131 : decode prog_12_method_25_code 131 = .ok (.iastore, 1) := by decide +kernel
theorem dd_mm_send_132 : decode prog_12_method_25_code 132 = .ok (.iload_n 3, 1) := by decide +kernel
theorem dd_mm_send_133 : decode prog_12_method_25_code 133 = .ok (.ireturn, 1) := by decide +kernel
set_option maxHeartbeats 4000000 in
set_option maxRecDepth 100000 in
theorem kb_mm_send_b13 {p : Program} {l : Launch} {e : Env} {s : State} {m : MethodId} {args : Array Value} {below : List Frame} {meth : Method} {c : Code} {D : va_G} {ac : Nat → ClassId} {a0 : Nat} {gl : gl_T} {rF : Int32} {stF : st_S} {iT jT : Nat}
    (X : cx_ p s m args c prog_12_method_25_code 5 "PromiseVatsModel" tb_ D cl_ (ty_ ac)) (hKs : kn_ D ac a0 gl s) (hlk : meth.locks = false) (hret : meth.sig.returnType = (Option.some FieldType.int)) (hnm : meth.name = "send") : wk_ p l e 5 127 s m args below meth c D cl_ ac a0 5 vb_i rF stF iT jT 13 (fun x : Unit => []) (fun x : Unit => []) (fun _ : Unit => mm_send_b13 gl) := by
  intro x st H locs cells slots i j ls hw hl h hci hcj
  have h : mm_send_b13 gl  st = some (rF, stF, i, j) := h
  unfold mm_send_b13 at h
  have hl : lh_ ls 5 [] := hl
  refine W.eq (g2 := F0 m 13 ls []) rfl ?_
  refine lv_iconst (v := (0 : Int32)) X.1 X.2.1 dd_mm_send_13 (by decide) ?_
  obtain ⟨rfl, rfl, rfl, rfl⟩ := st_r_some h
  exact rr_iret X hw hlk hret rfl hci hcj dd_mm_send_14
set_option maxHeartbeats 4000000 in
set_option maxRecDepth 100000 in
theorem kc_mm_send (l : Launch) (D : va_G) (ac : Nat → ClassId) (a0 : Nat) (gl : gl_T) (v0 : Option Nat) (v1 : Int32) (v2 : Int32) (st : st_S) (rF : Int32) (stF : st_S) (iT jT : Nat) (h : mm_send gl v0 v1 v2 st = some (rF, stF, iT, jT)) :
    ct_ l ⟨"PromiseVatsModel", "send", "(II)I"⟩ (Cond.code ⟨"PromiseVatsModel", "send", "(II)I"⟩ prog_12_method_25_code 5 (Option.some FieldType.int) :: tb_) 5 127 D cl_ ac a0 (kn_ D ac a0 gl) [(va_rf v0), (.int v1), (.int v2)] st (vb_i rF) stF iT jT := by
  refine ct_of (kn_ok D ac a0 gl) (plainFor_of_name (by decide +kernel)) (by simp [rf_cat, ic_cat]) (by simp) ?_
  intro p e s m args below meth c ls X hw hKs hlk hret hnm hl
  unfold mm_send at h
  have hl : lh_ ls 5 [(0, (va_rf v0)), (1, (.int v1)), (2, (.int v2))] := hl
  obtain ⟨z0, hz0⟩ : ∃ z : Nat, 0 = z := ⟨0, rfl⟩
  obtain ⟨z1, hz1⟩ : ∃ z : Nat, 0 = z := ⟨0, rfl⟩
  refine W.cs hz0 hz1 ?_
  have hci : z0 + iT = iT := by omega
  have hcj : z1 + jT = jT := by omega
  refine lv_iload_n X.1 X.2.1 dd_mm_send_0 rfl (lv_at hl.1 2 rfl) ?_
  by_cases hc1 : v2 = 0
  · rw [if_pos hc1] at h
    refine lv_if_eq (tgt := 13) X.1 X.2.1 dd_mm_send_1 (by decide) (fun _ => ?_) (fun z => absurd hc1 z)
    exact (kb_mm_send_b13 X hKs hlk hret hnm) () _ _ _ _ _ _ _ _ hw (lh_pk hl [] rfl) h hci hcj
  · rw [if_neg hc1] at h
    refine lv_if_eq (tgt := 13) X.1 X.2.1 dd_mm_send_1 (by decide) (fun z => absurd z hc1) (fun _ => ?_)
    refine rr_aldn X dd_mm_send_4 rfl (lv_at hl.1 0 rfl) ?_
    obtain ⟨t1, ht1, h⟩ := st_g_some h
    refine rr_geti X hw ff_10_2 ht1 tw_534 (Or.inl rfl) dd_mm_send_5 ?_
    refine lv_bipush (v := (100 : Int32)) X.1 X.2.1 dd_mm_send_8 (by decide) ?_
    by_cases hc10 : t1 < (100 : Int32)
    · rw [if_pos hc10] at h
      refine lv_icmp_lt (tgt := 15) X.1 X.2.1 dd_mm_send_10 (by decide) (fun _ => ?_) (fun z => absurd hc10 z)
      refine rr_aldn X dd_mm_send_15 rfl (lv_at hl.1 0 rfl) ?_
      refine lv_dup X.1 X.2.1 dd_mm_send_16 (rf_cat _) ?_
      obtain ⟨t2, ht2, h⟩ := st_g_some h
      refine rr_geti X hw ff_10_2 ht2 tw_534 (Or.inl rfl) dd_mm_send_17 ?_
      refine lv_iconst (v := (1 : Int32)) X.1 X.2.1 dd_mm_send_20 (by decide) ?_
      refine lv_iadd X.1 X.2.1 dd_mm_send_21 ?_
      obtain ⟨t3, hp22, h⟩ := st_w_some h
      refine rr_put (ty := .int) X hw ff_10_2 hp22 tw_534 (Or.inl rfl) (by decide +kernel) rfl rfl dd_mm_send_22 (fun H locs hw => ?_)
      refine lv_bipush (v := (100 : Int32)) X.1 X.2.1 dd_mm_send_25 (by decide) ?_
      refine rr_aldn X dd_mm_send_27 rfl (lv_at hl.1 0 rfl) ?_
      obtain ⟨t4, ht4, h⟩ := st_g_some h
      refine rr_geti X hw ff_10_2 ht4 tw_534 (Or.inl rfl) dd_mm_send_28 ?_
      refine lv_iadd X.1 X.2.1 dd_mm_send_31 ?_
      refine rr_istn (lv' := [(3, (.int ((100 : Int32) + t4))), (0, (va_rf v0)), (1, (.int v1)), (2, (.int v2))]) X dd_mm_send_32 rfl hl (by decide) rfl (fun ls hl => ?_)
      refine rr_aldn X dd_mm_send_33 rfl (lv_at hl.1 1 rfl) ?_
      obtain ⟨t5, ht5, h⟩ := st_g_some h
      refine rr_getq X hw ff_10_6 ht5 tw_461 (Or.inl rfl) dd_mm_send_34 ?_
      refine lv_iload_n X.1 X.2.1 dd_mm_send_37 rfl (lv_at hl.1 3 rfl) ?_
      obtain ⟨t6, ht6, h⟩ := st_g_some h
      refine rr_bald (t := 1) X hw rfl ht6 dd_mm_send_38 ?_
      refine rr_ist (lv' := [(4, (.int t6)), (3, (.int ((100 : Int32) + t4))), (0, (va_rf v0)), (1, (.int v1)), (2, (.int v2))]) X dd_mm_send_39 hl (by decide) rfl (fun ls hl => ?_)
      refine rr_aldn X dd_mm_send_41 rfl (lv_at hl.1 2 rfl) ?_
      obtain ⟨t7, ht7, h⟩ := st_g_some h
      refine rr_getq X hw ff_10_6 ht7 tw_461 (Or.inl rfl) dd_mm_send_42 ?_
      refine lv_iload_n X.1 X.2.1 dd_mm_send_45 rfl (lv_at hl.1 1 rfl) ?_
      refine lv_iload X.1 X.2.1 dd_mm_send_46 (lv_at hl.1 0 rfl) ?_
      refine lv_i2b (v := (t6.toInt8.toInt32)) X.1 X.2.1 dd_mm_send_48 rfl ?_
      obtain ⟨t8, hp49, h⟩ := st_w_some h
      refine rr_bast (t := 1) X hw rfl hp49 dd_mm_send_49 (fun H locs hw => ?_)
      refine lv_iload X.1 X.2.1 dd_mm_send_50 (lv_at hl.1 0 rfl) ?_
      refine lv_iload_n X.1 X.2.1 dd_mm_send_52 rfl (lv_at hl.1 3 rfl) ?_
      by_cases hc53 : t6 = v1
      · rw [if_pos hc53] at h
        refine lv_icmp_ne (tgt := 78) X.1 X.2.1 dd_mm_send_53 (by decide) (fun z => absurd hc53 z) (fun _ => ?_)
        refine rr_aldn X dd_mm_send_56 rfl (lv_at hl.1 2 rfl) ?_
        refine lv_iload_n X.1 X.2.1 dd_mm_send_57 rfl (lv_at hl.1 3 rfl) ?_
        refine lv_iload_n X.1 X.2.1 dd_mm_send_58 rfl (lv_at hl.1 4 rfl) ?_
        refine rr_aldn X dd_mm_send_59 rfl (lv_at hl.1 2 rfl) ?_
        obtain ⟨t9, ht9, h⟩ := st_g_some h
        refine rr_geti X hw ff_10_34 ht9 tw_533 (Or.inl rfl) dd_mm_send_60 ?_
        refine rr_aldn X dd_mm_send_63 rfl (lv_at hl.1 2 rfl) ?_
        obtain ⟨t10, ht10, h⟩ := st_g_some h
        refine rr_geti X hw ff_10_35 ht10 tw_532 (Or.inl rfl) dd_mm_send_64 ?_
        refine lv_iload_n X.1 X.2.1 dd_mm_send_67 rfl (lv_at hl.1 1 rfl) ?_
        obtain ⟨t28, ht28, h⟩ := st_g_some h
        obtain ⟨t11, t12, t13, t14, t15, t16, ht11, h, ei, ej⟩ := st_b_some h
        refine rr_callV (n := 5) (As := [(.int v1), (.int v2), (.int t9), (.int t10), (.int ((100 : Int32) + t4))]) (rest := []) X hw (kn_ok D ac a0 gl) hKs (kc_mm_go l D ac a0 gl v0 v1 v2 t9 t10 ((100 : Int32) + t4) _ _ _ _ _ ht11) tb_good tw_492 tw_469 tw_493 tw_494 se_48 ht28 (by decide +kernel) rfl (show 2 + 1 ≤ _ ∧ 8 + (8 + 11) + 50 ≤ _ from ⟨Nat.le_of_ble_eq_true rfl, Nat.le_of_ble_eq_true rfl⟩) (show z0 + t13 ≤ iT ∧ z1 + t14 ≤ jT from ⟨ar_1 hci ei, ar_1 hcj ej⟩) hl.1.1 (by simp [rf_cat, ic_cat]) rfl dd_mm_send_68 (sk := []) rfl (fun H locs hw => ?_)
        have hci : z0 + t13 + t15 = iT := ar_2 hci ei
        have hcj : z1 + t14 + t16 = jT := ar_2 hcj ej
        clear ei ej
        generalize z0 + t13 = t17 at hci ⊢
        generalize z1 + t14 = t18 at hcj ⊢
        refine rr_aldn X dd_mm_send_71 rfl (lv_at hl.1 2 rfl) ?_
        refine lv_iload_n X.1 X.2.1 dd_mm_send_72 rfl (lv_at hl.1 3 rfl) ?_
        obtain ⟨t27, ht27, h⟩ := st_g_some h
        obtain ⟨t19, t20, t21, t22, t23, t24, ht19, h, ei, ej⟩ := st_b_some h
        refine rr_callV (n := 1) (As := [(.int v1)]) (rest := []) X hw (kn_ok D ac a0 gl) hKs (kc_mm_mourn l D ac a0 gl v0 v1 _ _ _ _ _ ht19) tb_good tw_524 tw_469 tw_525 tw_526 se_56 ht27 (by decide +kernel) rfl (show 4 + 1 ≤ _ ∧ 8 + (3 + 11) + 105 ≤ _ from ⟨Nat.le_of_ble_eq_true rfl, Nat.le_of_ble_eq_true rfl⟩) (show t17 + t21 ≤ iT ∧ t18 + t22 ≤ jT from ⟨ar_1 hci ei, ar_1 hcj ej⟩) hl.1.1 (by simp [rf_cat, ic_cat]) rfl dd_mm_send_73 (sk := []) rfl (fun H locs hw => ?_)
        have hci : t17 + t21 + t23 = iT := ar_2 hci ei
        have hcj : t18 + t22 + t24 = jT := ar_2 hcj ej
        clear ei ej
        generalize t17 + t21 = t25 at hci ⊢
        generalize t18 + t22 = t26 at hcj ⊢
        refine lv_iload_n X.1 X.2.1 dd_mm_send_76 rfl (lv_at hl.1 1 rfl) ?_
        obtain ⟨rfl, rfl, rfl, rfl⟩ := st_r_some h
        exact rr_iret X hw hlk hret rfl hci hcj dd_mm_send_77
      · rw [if_neg hc53] at h
        refine lv_icmp_ne (tgt := 78) X.1 X.2.1 dd_mm_send_53 (by decide) (fun _ => ?_) (fun z => absurd z hc53)
        refine rr_aldn X dd_mm_send_78 rfl (lv_at hl.1 2 rfl) ?_
        refine lv_iload_n X.1 X.2.1 dd_mm_send_79 rfl (lv_at hl.1 3 rfl) ?_
        refine lv_iload X.1 X.2.1 dd_mm_send_80 (lv_at hl.1 0 rfl) ?_
        refine rr_aldn X dd_mm_send_82 rfl (lv_at hl.1 2 rfl) ?_
        obtain ⟨t29, ht29, h⟩ := st_g_some h
        refine rr_geti X hw ff_10_35 ht29 tw_532 (Or.inl rfl) dd_mm_send_83 ?_
        obtain ⟨t53, ht53, h⟩ := st_g_some h
        obtain ⟨t30, t31, t32, t33, t34, t35, ht30, h, ei, ej⟩ := st_b_some h
        refine rr_callV (n := 3) (As := [(.int v1), (.int t6), (.int t29)]) (rest := []) X hw (kn_ok D ac a0 gl) hKs (kc_mm_pack l D ac a0 gl v0 v1 t6 t29 _ _ _ _ _ ht30) tb_good tw_483 tw_469 tw_484 tw_485 se_46 ht53 (by decide +kernel) rfl (show 1 + 1 ≤ _ ∧ 8 + (5 + 11) + 26 ≤ _ from ⟨Nat.le_of_ble_eq_true rfl, Nat.le_of_ble_eq_true rfl⟩) (show z0 + t32 ≤ iT ∧ z1 + t33 ≤ jT from ⟨ar_1 hci ei, ar_1 hcj ej⟩) hl.1.1 (by simp [rf_cat, ic_cat]) rfl dd_mm_send_86 (sk := []) rfl (fun H locs hw => ?_)
        have hci : z0 + t32 + t34 = iT := ar_2 hci ei
        have hcj : z1 + t33 + t35 = jT := ar_2 hcj ej
        clear ei ej
        generalize z0 + t32 = t36 at hci ⊢
        generalize z1 + t33 = t37 at hcj ⊢
        refine rr_aldn X dd_mm_send_89 rfl (lv_at hl.1 2 rfl) ?_
        refine lv_iconst (v := (1 : Int32)) X.1 X.2.1 dd_mm_send_90 (by decide) ?_
        refine lv_iconst (v := (4 : Int32)) X.1 X.2.1 dd_mm_send_91 (by decide) ?_
        refine lv_iload_n X.1 X.2.1 dd_mm_send_92 rfl (lv_at hl.1 3 rfl) ?_
        refine lv_imul X.1 X.2.1 dd_mm_send_93 ?_
        refine lv_iload X.1 X.2.1 dd_mm_send_94 (lv_at hl.1 0 rfl) ?_
        refine lv_iadd X.1 X.2.1 dd_mm_send_96 ?_
        refine lv_iload_n X.1 X.2.1 dd_mm_send_97 rfl (lv_at hl.1 4 rfl) ?_
        refine rr_aldn X dd_mm_send_98 rfl (lv_at hl.1 2 rfl) ?_
        obtain ⟨t38, ht38, h⟩ := st_g_some h
        refine rr_geti X hw ff_10_34 ht38 tw_533 (Or.inl rfl) dd_mm_send_99 ?_
        refine rr_aldn X dd_mm_send_102 rfl (lv_at hl.1 2 rfl) ?_
        obtain ⟨t39, ht39, h⟩ := st_g_some h
        refine rr_geti X hw ff_10_35 ht39 tw_532 (Or.inl rfl) dd_mm_send_103 ?_
        refine lv_iload_n X.1 X.2.1 dd_mm_send_106 rfl (lv_at hl.1 1 rfl) ?_
        obtain ⟨t52, ht52, h⟩ := st_g_some h
        obtain ⟨t40, t41, t42, t43, t44, t45, ht40, h, ei, ej⟩ := st_b_some h
        refine rr_callV (n := 6) (As := [(.int (1 : Int32)), (.int (((4 : Int32) * v1) + t6)), (.int v2), (.int t38), (.int t39), (.int ((100 : Int32) + t4))]) (rest := []) X hw (kn_ok D ac a0 gl) hKs (kc_mm_post l D ac a0 gl v0 (1 : Int32) (((4 : Int32) * v1) + t6) v2 t38 t39 ((100 : Int32) + t4) _ _ _ _ _ ht40) tb_good tw_470 tw_469 tw_471 tw_472 se_43 ht52 (by decide +kernel) rfl (show 0 + 1 ≤ _ ∧ 8 + (7 + 11) + 0 ≤ _ from ⟨Nat.le_of_ble_eq_true rfl, Nat.le_of_ble_eq_true rfl⟩) (show t36 + t42 ≤ iT ∧ t37 + t43 ≤ jT from ⟨ar_1 hci ei, ar_1 hcj ej⟩) hl.1.1 (by simp [rf_cat, ic_cat]) rfl dd_mm_send_107 (sk := []) rfl (fun H locs hw => ?_)
        have hci : t36 + t42 + t44 = iT := ar_2 hci ei
        have hcj : t37 + t43 + t45 = jT := ar_2 hcj ej
        clear ei ej
        generalize t36 + t42 = t46 at hci ⊢
        generalize t37 + t43 = t47 at hcj ⊢
        refine rr_aldn X dd_mm_send_110 rfl (lv_at hl.1 2 rfl) ?_
        obtain ⟨t48, ht48, h⟩ := st_g_some h
        refine rr_getq X hw ff_10_15 ht48 tw_453 (Or.inl rfl) dd_mm_send_111 ?_
        refine lv_iconst (v := (4 : Int32)) X.1 X.2.1 dd_mm_send_114 (by decide) ?_
        refine lv_iload_n X.1 X.2.1 dd_mm_send_115 rfl (lv_at hl.1 1 rfl) ?_
        refine lv_imul X.1 X.2.1 dd_mm_send_116 ?_
        refine lv_iload_n X.1 X.2.1 dd_mm_send_117 rfl (lv_at hl.1 3 rfl) ?_
        refine lv_iadd X.1 X.2.1 dd_mm_send_118 ?_
        refine lv_iconst (v := (1 : Int32)) X.1 X.2.1 dd_mm_send_119 (by decide) ?_
        obtain ⟨t49, hp120, h⟩ := st_w_some h
        refine rr_iast (t := 0) X hw rfl hp120 dd_mm_send_120 (fun H locs hw => ?_)
        refine rr_aldn X dd_mm_send_121 rfl (lv_at hl.1 2 rfl) ?_
        obtain ⟨t50, ht50, h⟩ := st_g_some h
        refine rr_getq X hw ff_10_16 ht50 tw_452 (Or.inl rfl) dd_mm_send_122 ?_
        refine lv_iconst (v := (4 : Int32)) X.1 X.2.1 dd_mm_send_125 (by decide) ?_
        refine lv_iload_n X.1 X.2.1 dd_mm_send_126 rfl (lv_at hl.1 1 rfl) ?_
        refine lv_imul X.1 X.2.1 dd_mm_send_127 ?_
        refine lv_iload_n X.1 X.2.1 dd_mm_send_128 rfl (lv_at hl.1 3 rfl) ?_
        refine lv_iadd X.1 X.2.1 dd_mm_send_129 ?_
        refine lv_iconst (v := (1 : Int32)) X.1 X.2.1 dd_mm_send_130 (by decide) ?_
        obtain ⟨t51, hp131, h⟩ := st_w_some h
        refine rr_iast (t := 0) X hw rfl hp131 dd_mm_send_131 (fun H locs hw => ?_)
        refine lv_iload_n X.1 X.2.1 dd_mm_send_132 rfl (lv_at hl.1 1 rfl) ?_
        obtain ⟨rfl, rfl, rfl, rfl⟩ := st_r_some h
        exact rr_iret X hw hlk hret rfl hci hcj dd_mm_send_133
    · rw [if_neg hc10] at h
      refine lv_icmp_lt (tgt := 15) X.1 X.2.1 dd_mm_send_10 (by decide) (fun z => absurd z hc10) (fun _ => ?_)
      exact (kb_mm_send_b13 X hKs hlk hret hnm) () _ _ _ _ _ _ _ _ hw (lh_pk hl [] rfl) h hci hcj
/-! PromiseVatsModel.put(I)V -/
theorem dd_mm_put_0 : decode prog_12_method_26_code 0 = .ok (.aload_n 0, 1) := by decide +kernel
theorem dd_mm_put_1 : decode prog_12_method_26_code 1 = .ok (.getfield 91, 3) := by decide +kernel
theorem dd_mm_put_4 : decode prog_12_method_26_code 4 = .ok (.bipush 10, 2) := by decide +kernel
theorem dd_mm_put_6 : decode prog_12_method_26_code 6 = .ok (.iload_n 1, 1) := by decide +kernel
theorem dd_mm_put_7 : decode prog_12_method_26_code 7 = .ok (.imul, 1) := by decide +kernel
theorem dd_mm_put_8 : decode prog_12_method_26_code 8 = .ok (.aload_n 0, 1) := by decide +kernel
theorem dd_mm_put_9 : decode prog_12_method_26_code 9 = .ok (.getfield 88, 3) := by decide +kernel
theorem dd_mm_put_12 : decode prog_12_method_26_code 12 = .ok (.iload_n 1, 1) := by decide +kernel
theorem dd_mm_put_13 : decode prog_12_method_26_code 13 = .ok (.iaload, 1) := by decide +kernel
theorem dd_mm_put_14 : decode prog_12_method_26_code 14 = .ok (.bipush 10, 2) := by decide +kernel
theorem dd_mm_put_16 : decode prog_12_method_26_code 16 = .ok (.irem, 1) := by decide +kernel
theorem dd_mm_put_17 : decode prog_12_method_26_code 17 = .ok (.iadd, 1) := by decide +kernel
theorem dd_mm_put_18 : decode prog_12_method_26_code 18 = .ok (.aload_n 0, 1) := by decide +kernel
theorem dd_mm_put_19 : decode prog_12_method_26_code 19 = .ok (.getfield 169, 3) := by decide +kernel
theorem dd_mm_put_22 : decode prog_12_method_26_code 22 = .ok (.iastore, 1) := by decide +kernel
theorem dd_mm_put_23 : decode prog_12_method_26_code 23 = .ok (.aload_n 0, 1) := by decide +kernel
theorem dd_mm_put_24 : decode prog_12_method_26_code 24 = .ok (.getfield 88, 3) := by decide +kernel
theorem dd_mm_put_27 : decode prog_12_method_26_code 27 = .ok (.iload_n 1, 1) := by decide +kernel
theorem dd_mm_put_28 : decode prog_12_method_26_code 28 = .ok (.dup2, 1) := by decide +kernel
theorem dd_mm_put_29 : decode prog_12_method_26_code 29 = .ok (.iaload, 1) := by decide +kernel
theorem dd_mm_put_30 : decode prog_12_method_26_code 30 = .ok (.iconst 1, 1) := by decide +kernel
theorem dd_mm_put_31 : decode prog_12_method_26_code 31 = .ok (.iadd, 1) := by decide +kernel
theorem dd_mm_put_32 : decode prog_12_method_26_code 32 = .ok (.iastore, 1) := by decide +kernel
theorem dd_mm_put_33 : decode prog_12_method_26_code 33 = .ok (.return_, 1) := by decide +kernel
set_option maxHeartbeats 4000000 in
set_option maxRecDepth 100000 in
theorem kc_mm_put (l : Launch) (D : va_G) (ac : Nat → ClassId) (a0 : Nat) (gl : gl_T) (v0 : Option Nat) (v1 : Int32) (st : st_S) (rF : Unit) (stF : st_S) (iT jT : Nat) (h : mm_put gl v0 v1 st = some (rF, stF, iT, jT)) :
    ct_ l ⟨"PromiseVatsModel", "put", "(I)V"⟩ (Cond.code ⟨"PromiseVatsModel", "put", "(I)V"⟩ prog_12_method_26_code 2 (Option.none : Option FieldType) :: tb_) 0 0 D cl_ ac a0 (kn_ D ac a0 gl) [(va_rf v0), (.int v1)] st (vb_u rF) stF iT jT := by
  refine ct_of (kn_ok D ac a0 gl) (plainFor_of_name (by decide +kernel)) (by simp [rf_cat, ic_cat]) (by simp) ?_
  intro p e s m args below meth c ls X hw hKs hlk hret hnm hl
  unfold mm_put at h
  have hl : lh_ ls 2 [(0, (va_rf v0)), (1, (.int v1))] := hl
  obtain ⟨z0, hz0⟩ : ∃ z : Nat, 0 = z := ⟨0, rfl⟩
  obtain ⟨z1, hz1⟩ : ∃ z : Nat, 0 = z := ⟨0, rfl⟩
  refine W.cs hz0 hz1 ?_
  have hci : z0 + iT = iT := by omega
  have hcj : z1 + jT = jT := by omega
  refine rr_aldn X dd_mm_put_0 rfl (lv_at hl.1 0 rfl) ?_
  obtain ⟨t1, ht1, h⟩ := st_g_some h
  refine rr_getq X hw ff_10_33 ht1 tw_438 (Or.inl rfl) dd_mm_put_1 ?_
  refine lv_bipush (v := (10 : Int32)) X.1 X.2.1 dd_mm_put_4 (by decide) ?_
  refine lv_iload_n X.1 X.2.1 dd_mm_put_6 rfl (lv_at hl.1 1 rfl) ?_
  refine lv_imul X.1 X.2.1 dd_mm_put_7 ?_
  refine rr_aldn X dd_mm_put_8 rfl (lv_at hl.1 0 rfl) ?_
  obtain ⟨t2, ht2, h⟩ := st_g_some h
  refine rr_getq X hw ff_10_32 ht2 tw_439 (Or.inl rfl) dd_mm_put_9 ?_
  refine lv_iload_n X.1 X.2.1 dd_mm_put_12 rfl (lv_at hl.1 1 rfl) ?_
  obtain ⟨t3, ht3, h⟩ := st_g_some h
  refine rr_iald (t := 0) X hw rfl ht3 dd_mm_put_13 ?_
  refine lv_bipush (v := (10 : Int32)) X.1 X.2.1 dd_mm_put_14 (by decide) ?_
  refine lv_irem X.1 X.2.1 dd_mm_put_16 (by decide) ?_
  refine lv_iadd X.1 X.2.1 dd_mm_put_17 ?_
  refine rr_aldn X dd_mm_put_18 rfl (lv_at hl.1 0 rfl) ?_
  obtain ⟨t4, ht4, h⟩ := st_g_some h
  refine rr_geti X hw ff_10_34 ht4 tw_533 (Or.inl rfl) dd_mm_put_19 ?_
  obtain ⟨t5, hp22, h⟩ := st_w_some h
  refine rr_iast (t := 0) X hw rfl hp22 dd_mm_put_22 (fun H locs hw => ?_)
  refine rr_aldn X dd_mm_put_23 rfl (lv_at hl.1 0 rfl) ?_
  obtain ⟨t6, ht6, h⟩ := st_g_some h
  refine rr_getq X hw ff_10_32 ht6 tw_439 (Or.inl rfl) dd_mm_put_24 ?_
  refine lv_iload_n X.1 X.2.1 dd_mm_put_27 rfl (lv_at hl.1 1 rfl) ?_
  refine lv_dup2_11 X.1 X.2.1 dd_mm_put_28 rfl (rf_cat _) ?_
  obtain ⟨t7, ht7, h⟩ := st_g_some h
  refine rr_iald (t := 0) X hw rfl ht7 dd_mm_put_29 ?_
  refine lv_iconst (v := (1 : Int32)) X.1 X.2.1 dd_mm_put_30 (by decide) ?_
  refine lv_iadd X.1 X.2.1 dd_mm_put_31 ?_
  obtain ⟨t8, hp32, h⟩ := st_w_some h
  refine rr_iast (t := 0) X hw rfl hp32 dd_mm_put_32 (fun H locs hw => ?_)
  obtain ⟨rfl, rfl, rfl, rfl⟩ := st_r_some h
  exact rr_vret X hw hlk hret hci hcj dd_mm_put_33
