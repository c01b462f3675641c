/-! PromiseVatsModel.rest(IIIII)V -/
theorem dd_mm_rest_0 : decode prog_12_method_14_code 0 = .ok (.aload_n 0, 1) := by decide +kernel
theorem dd_mm_rest_1 : decode prog_12_method_14_code 1 = .ok (.getfield 54, 3) := by decide +kernel
theorem dd_mm_rest_4 : decode prog_12_method_14_code 4 = .ok (.aload_n 0, 1) := by decide +kernel
theorem dd_mm_rest_5 : decode prog_12_method_14_code 5 = .ok (.getfield 144, 3) := by decide +kernel
theorem dd_mm_rest_8 : decode prog_12_method_14_code 8 = .ok (.iload_n 1, 1) := by decide +kernel
theorem dd_mm_rest_9 : decode prog_12_method_14_code 9 = .ok (.iastore, 1) := by decide +kernel
theorem dd_mm_rest_10 : decode prog_12_method_14_code 10 = .ok (.aload_n 0, 1) := by decide +kernel
theorem dd_mm_rest_11 : decode prog_12_method_14_code 11 = .ok (.getfield 57, 3) := by decide +kernel
theorem dd_mm_rest_14 : decode prog_12_method_14_code 14 = .ok (.aload_n 0, 1) := by decide +kernel
theorem dd_mm_rest_15 : decode prog_12_method_14_code 15 = .ok (.getfield 144, 3) := by decide +kernel
theorem dd_mm_rest_18 : decode prog_12_method_14_code 18 = .ok (.iload_n 2, 1) := by decide +kernel
theorem dd_mm_rest_19 : decode prog_12_method_14_code 19 = .ok (.iastore, 1) := by decide +kernel
theorem dd_mm_rest_20 : decode prog_12_method_14_code 20 = .ok (.aload_n 0, 1) := by decide +kernel
theorem dd_mm_rest_21 : decode prog_12_method_14_code 21 = .ok (.getfield 60, 3) := by decide +kernel
theorem dd_mm_rest_24 : decode prog_12_method_14_code 24 = .ok (.aload_n 0, 1) := by decide +kernel
theorem dd_mm_rest_25 : decode prog_12_method_14_code 25 = .ok (.getfield 144, 3) := by decide +kernel
theorem dd_mm_rest_28 : decode prog_12_method_14_code 28 = .ok (.iload_n 3, 1) := by decide +kernel
theorem dd_mm_rest_29 : decode prog_12_method_14_code 29 = .ok (.iastore, 1) := by decide +kernel
theorem dd_mm_rest_30 : decode prog_12_method_14_code 30 = .ok (.aload_n 0, 1) := by decide +kernel
theorem dd_mm_rest_31 : decode prog_12_method_14_code 31 = .ok (.getfield 63, 3) := by decide +kernel
theorem dd_mm_rest_34 : decode prog_12_method_14_code 34 = .ok (.aload_n 0, 1) := by decide +kernel
theorem dd_mm_rest_35 : decode prog_12_method_14_code 35 = .ok (.getfield 144, 3) := by decide +kernel
theorem dd_mm_rest_38 : decode prog_12_method_14_code 38 = .ok (.iload 4, 2) := by decide +kernel
theorem dd_mm_rest_40 : decode prog_12_method_14_code 40 = .ok (.iastore, 1) := by decide +kernel
theorem dd_mm_rest_41 : decode prog_12_method_14_code 41 = .ok (.aload_n 0, 1) := by decide +kernel
theorem dd_mm_rest_42 : decode prog_12_method_14_code 42 = .ok (.getfield 66, 3) := by decide +kernel
theorem dd_mm_rest_45 : decode prog_12_method_14_code 45 = .ok (.aload_n 0, 1) := by decide +kernel
theorem dd_mm_rest_46 : decode prog_12_method_14_code 46 = .ok (.getfield 144, 3) := by decide +kernel
theorem dd_mm_rest_49 : decode prog_12_method_14_code 49 = .ok (.iload 5, 2) := by decide +kernel
theorem dd_mm_rest_51 : decode prog_12_method_14_code 51 = .ok (.iastore, 1) := by decide +kernel
theorem dd_mm_rest_52 : decode prog_12_method_14_code 52 = .ok (.aload_n 0, 1) := by decide +kernel
theorem dd_mm_rest_53 : decode prog_12_method_14_code 53 = .ok (.dup, 1) := by decide +kernel
theorem dd_mm_rest_54 : decode prog_12_method_14_code 54 = .ok (.getfield 144, 3) := by decide +kernel
theorem dd_mm_rest_57 : decode prog_12_method_14_code 57 = .ok (.iconst 1, 1) := by decide +kernel
theorem dd_mm_rest_58 : decode prog_12_method_14_code 58 = .ok (.iadd, 1) := by decide +kernel
theorem dd_mm_rest_59 : decode prog_12_method_14_code 59 = .ok (.putfield 144, 3) := by decide +kernel
theorem dd_mm_rest_62 : decode prog_12_method_14_code 62 = .ok (.return_, 1) := by decide +kernel
set_option maxHeartbeats 4000000 in
set_option maxRecDepth 100000 in
theorem kc_mm_rest (l : Launch) (D : va_G) (ac : Nat → ClassId) (a0 : Nat) (gl : gl_T) (v0 : Option Nat) (v1 : Int32) (v2 : Int32) (v3 : Int32) (v4 : Int32) (v5 : Int32) (st : st_S) (rF : Unit) (stF : st_S) (iT jT : Nat) (h : mm_rest gl v0 v1 v2 v3 v4 v5 st = some (rF, stF, iT, jT)) :
    ct_ l ⟨"PromiseVatsModel", "rest", "(IIIII)V"⟩ (Cond.code ⟨"PromiseVatsModel", "rest", "(IIIII)V"⟩ prog_12_method_14_code 6 (Option.none : Option FieldType) :: tb_) 0 0 D cl_ ac a0 (kn_ D ac a0 gl) [(va_rf v0), (.int v1), (.int v2), (.int v3), (.int v4), (.int v5)] st (vb_u rF) stF iT jT := by
  refine ct_of (kn_ok D ac a0 gl) (plainFor_of_name (by decide +kernel)) (by simp [rf_cat, ic_cat]) (by simp) ?_
  intro p e s m args below meth c ls X hw hKs hlk hret hnm hl
  unfold mm_rest at h
  have hl : lh_ ls 6 [(0, (va_rf v0)), (1, (.int v1)), (2, (.int v2)), (3, (.int v3)), (4, (.int v4)), (5, (.int v5))] := hl
  obtain ⟨z0, hz0⟩ : ∃ z : Nat, 0 = z := ⟨0, rfl⟩
  obtain ⟨z1, hz1⟩ : ∃ z : Nat, 0 = z := ⟨0, rfl⟩
  refine W.cs hz0 hz1 ?_
  have hci : z0 + iT = iT := by omega
  have hcj : z1 + jT = jT := by omega
  refine rr_aldn X dd_mm_rest_0 rfl (lv_at hl.1 0 rfl) ?_
  obtain ⟨t1, ht1, h⟩ := st_g_some h
  refine rr_getq X hw ff_10_19 ht1 tw_450 (Or.inl rfl) dd_mm_rest_1 ?_
  refine rr_aldn X dd_mm_rest_4 rfl (lv_at hl.1 0 rfl) ?_
  obtain ⟨t2, ht2, h⟩ := st_g_some h
  refine rr_geti X hw ff_10_18 ht2 tw_474 (Or.inl rfl) dd_mm_rest_5 ?_
  refine lv_iload_n X.1 X.2.1 dd_mm_rest_8 rfl (lv_at hl.1 1 rfl) ?_
  obtain ⟨t3, hp9, h⟩ := st_w_some h
  refine rr_iast (t := 0) X hw rfl hp9 dd_mm_rest_9 (fun H locs hw => ?_)
  refine rr_aldn X dd_mm_rest_10 rfl (lv_at hl.1 0 rfl) ?_
  obtain ⟨t4, ht4, h⟩ := st_g_some h
  refine rr_getq X hw ff_10_20 ht4 tw_449 (Or.inl rfl) dd_mm_rest_11 ?_
  refine rr_aldn X dd_mm_rest_14 rfl (lv_at hl.1 0 rfl) ?_
  obtain ⟨t5, ht5, h⟩ := st_g_some h
  refine rr_geti X hw ff_10_18 ht5 tw_474 (Or.inl rfl) dd_mm_rest_15 ?_
  refine lv_iload_n X.1 X.2.1 dd_mm_rest_18 rfl (lv_at hl.1 2 rfl) ?_
  obtain ⟨t6, hp19, h⟩ := st_w_some h
  refine rr_iast (t := 0) X hw rfl hp19 dd_mm_rest_19 (fun H locs hw => ?_)
  refine rr_aldn X dd_mm_rest_20 rfl (lv_at hl.1 0 rfl) ?_
  obtain ⟨t7, ht7, h⟩ := st_g_some h
  refine rr_getq X hw ff_10_21 ht7 tw_448 (Or.inl rfl) dd_mm_rest_21 ?_
  refine rr_aldn X dd_mm_rest_24 rfl (lv_at hl.1 0 rfl) ?_
  obtain ⟨t8, ht8, h⟩ := st_g_some h
  refine rr_geti X hw ff_10_18 ht8 tw_474 (Or.inl rfl) dd_mm_rest_25 ?_
  refine lv_iload_n X.1 X.2.1 dd_mm_rest_28 rfl (lv_at hl.1 3 rfl) ?_
  obtain ⟨t9, hp29, h⟩ := st_w_some h
  refine rr_iast (t := 0) X hw rfl hp29 dd_mm_rest_29 (fun H locs hw => ?_)
  refine rr_aldn X dd_mm_rest_30 rfl (lv_at hl.1 0 rfl) ?_
  obtain ⟨t10, ht10, h⟩ := st_g_some h
  refine rr_getq X hw ff_10_22 ht10 tw_447 (Or.inl rfl) dd_mm_rest_31 ?_
  refine rr_aldn X dd_mm_rest_34 rfl (lv_at hl.1 0 rfl) ?_
  obtain ⟨t11, ht11, h⟩ := st_g_some h
  refine rr_geti X hw ff_10_18 ht11 tw_474 (Or.inl rfl) dd_mm_rest_35 ?_
  refine lv_iload X.1 X.2.1 dd_mm_rest_38 (lv_at hl.1 4 rfl) ?_
  obtain ⟨t12, hp40, h⟩ := st_w_some h
  refine rr_iast (t := 0) X hw rfl hp40 dd_mm_rest_40 (fun H locs hw => ?_)
  refine rr_aldn X dd_mm_rest_41 rfl (lv_at hl.1 0 rfl) ?_
  obtain ⟨t13, ht13, h⟩ := st_g_some h
  refine rr_getq X hw ff_10_23 ht13 tw_446 (Or.inl rfl) dd_mm_rest_42 ?_
  refine rr_aldn X dd_mm_rest_45 rfl (lv_at hl.1 0 rfl) ?_
  obtain ⟨t14, ht14, h⟩ := st_g_some h
  refine rr_geti X hw ff_10_18 ht14 tw_474 (Or.inl rfl) dd_mm_rest_46 ?_
  refine lv_iload X.1 X.2.1 dd_mm_rest_49 (lv_at hl.1 5 rfl) ?_
  obtain ⟨t15, hp51, h⟩ := st_w_some h
  refine rr_iast (t := 0) X hw rfl hp51 dd_mm_rest_51 (fun H locs hw => ?_)
  refine rr_aldn X dd_mm_rest_52 rfl (lv_at hl.1 0 rfl) ?_
  refine lv_dup X.1 X.2.1 dd_mm_rest_53 (rf_cat _) ?_
  obtain ⟨t16, ht16, h⟩ := st_g_some h
  refine rr_geti X hw ff_10_18 ht16 tw_474 (Or.inl rfl) dd_mm_rest_54 ?_
  refine lv_iconst (v := (1 : Int32)) X.1 X.2.1 dd_mm_rest_57 (by decide) ?_
  refine lv_iadd X.1 X.2.1 dd_mm_rest_58 ?_
  obtain ⟨t17, hp59, h⟩ := st_w_some h
  refine rr_put (ty := .int) X hw ff_10_18 hp59 tw_474 (Or.inl rfl) (by decide +kernel) rfl rfl dd_mm_rest_59 (fun H locs hw => ?_)
  obtain ⟨rfl, rfl, rfl, rfl⟩ := st_r_some h
  exact rr_vret X hw hlk hret hci hcj dd_mm_rest_62
/-! PromiseVatsModel.go(IIIII)V -/
theorem dd_mm_go_0 : decode prog_12_method_18_code 0 = .ok (.iload_n 2, 1) := by decide +kernel
theorem dd_mm_go_1 : decode prog_12_method_18_code 1 = .ok (.istore 6, 2) := by decide +kernel
theorem dd_mm_go_3 : decode prog_12_method_18_code 3 = .ok (.iconst 0, 1) := by decide +kernel
theorem dd_mm_go_4 : decode prog_12_method_18_code 4 = .ok (.istore 7, 2) := by decide +kernel
theorem dd_mm_go_6 : decode prog_12_method_18_code 6 = .ok (.iload 7, 2) := by decide +kernel
theorem dd_mm_go_8 : decode prog_12_method_18_code 8 = .ok (.bipush 100, 2) := by decide +kernel
theorem dd_mm_go_10 : decode prog_12_method_18_code 10 = .ok (.if_icmp .gt 28, 3) := by decide +kernel
theorem dd_mm_go_13 : decode prog_12_method_18_code 13 = .ok (.aload_n 0, 1) := by decide +kernel
theorem dd_mm_go_14 : decode prog_12_method_18_code 14 = .ok (.iload_n 1, 1) := by decide +kernel
theorem dd_mm_go_15 : decode prog_12_method_18_code 15 = .ok (.iload 6, 2) := by decide +kernel
theorem dd_mm_go_17 : decode prog_12_method_18_code 17 = .ok (.invokevirtual 147, 3) := by decide +kernel
theorem dd_mm_go_20 : decode prog_12_method_18_code 20 = .ok (.ifCond .eq 18, 3) := by decide +kernel
theorem dd_mm_go_23 : decode prog_12_method_18_code 23 = .ok (.aload_n 0, 1) := by decide +kernel
theorem dd_mm_go_24 : decode prog_12_method_18_code 24 = .ok (.getfield 30, 3) := by decide +kernel
theorem dd_mm_go_27 : decode prog_12_method_18_code 27 = .ok (.iload 6, 2) := by decide +kernel
theorem dd_mm_go_29 : decode prog_12_method_18_code 29 = .ok (.iaload, 1) := by decide +kernel
theorem dd_mm_go_30 : decode prog_12_method_18_code 30 = .ok (.istore 6, 2) := by decide +kernel
theorem dd_mm_go_32 : decode prog_12_method_18_code 32 = .ok (.iinc 7 1, 3) := by decide +kernel
theorem dd_mm_go_35 : decode prog_12_method_18_code 35 = .ok (.goto (-29), 3) := by decide +kernel
theorem dd_mm_go_38 : decode prog_12_method_18_code 38 = .ok (.iload 6, 2) := by decide +kernel
theorem dd_mm_go_40 : decode prog_12_method_18_code 40 = .ok (.ifCond .eq 32, 3) := by decide +kernel
theorem dd_mm_go_43 : decode prog_12_method_18_code 43 = .ok (.iload 6, 2) := by decide +kernel
theorem dd_mm_go_45 : decode prog_12_method_18_code 45 = .ok (.bipush 100, 2) := by decide +kernel
theorem dd_mm_go_47 : decode prog_12_method_18_code 47 = .ok (.if_icmp .le 61, 3) := by decide +kernel
theorem dd_mm_go_50 : decode prog_12_method_18_code 50 = .ok (.aload_n 0, 1) := by decide +kernel
theorem dd_mm_go_51 : decode prog_12_method_18_code 51 = .ok (.getfield 19, 3) := by decide +kernel
theorem dd_mm_go_54 : decode prog_12_method_18_code 54 = .ok (.iload 6, 2) := by decide +kernel
theorem dd_mm_go_56 : decode prog_12_method_18_code 56 = .ok (.baload, 1) := by decide +kernel
theorem dd_mm_go_57 : decode prog_12_method_18_code 57 = .ok (.iload_n 1, 1) := by decide +kernel
theorem dd_mm_go_58 : decode prog_12_method_18_code 58 = .ok (.if_icmp .ne 50, 3) := by decide +kernel
theorem dd_mm_go_61 : decode prog_12_method_18_code 61 = .ok (.aload_n 0, 1) := by decide +kernel
theorem dd_mm_go_62 : decode prog_12_method_18_code 62 = .ok (.iload 6, 2) := by decide +kernel
theorem dd_mm_go_64 : decode prog_12_method_18_code 64 = .ok (.invokevirtual 151, 3) := by decide +kernel
theorem dd_mm_go_67 : decode prog_12_method_18_code 67 = .ok (.bipush 8, 2) := by decide +kernel
theorem dd_mm_go_69 : decode prog_12_method_18_code 69 = .ok (.if_icmp .lt 39, 3) := by decide +kernel
theorem dd_mm_go_72 : decode prog_12_method_18_code 72 = .ok (.aload_n 0, 1) := by decide +kernel
theorem dd_mm_go_73 : decode prog_12_method_18_code 73 = .ok (.getfield 85, 3) := by decide +kernel
theorem dd_mm_go_76 : decode prog_12_method_18_code 76 = .ok (.aload_n 0, 1) := by decide +kernel
theorem dd_mm_go_77 : decode prog_12_method_18_code 77 = .ok (.getfield 154, 3) := by decide +kernel
theorem dd_mm_go_80 : decode prog_12_method_18_code 80 = .ok (.iload 5, 2) := by decide +kernel
theorem dd_mm_go_82 : decode prog_12_method_18_code 82 = .ok (.iastore, 1) := by decide +kernel
theorem dd_mm_go_83 : decode prog_12_method_18_code 83 = .ok (.aload_n 0, 1) := by decide +kernel
theorem dd_mm_go_84 : decode prog_12_method_18_code 84 = .ok (.iload 5, 2) := by decide +kernel
theorem dd_mm_go_86 : decode prog_12_method_18_code 86 = .ok (.ifCond .le 12, 3) := by decide +kernel
theorem dd_mm_go_89 : decode prog_12_method_18_code 89 = .ok (.aload_n 0, 1) := by decide +kernel
theorem dd_mm_go_90 : decode prog_12_method_18_code 90 = .ok (.getfield 154, 3) := by decide +kernel
theorem dd_mm_go_93 : decode prog_12_method_18_code 93 = .ok (.iconst 1, 1) := by decide +kernel
theorem dd_mm_go_94 : decode prog_12_method_18_code 94 = .ok (.iadd, 1) := by decide +kernel
theorem dd_mm_go_95 : decode prog_12_method_18_code 95 = .ok (.goto 7, 3) := by decide +kernel
theorem dd_mm_go_98 : decode prog_12_method_18_code 98 = .ok (.aload_n 0, 1) := by decide +kernel
theorem dd_mm_go_99 : decode prog_12_method_18_code 99 = .ok (.getfield 154, 3) := by decide +kernel
theorem dd_mm_go_102 : decode prog_12_method_18_code 102 = .ok (.putfield 154, 3) := by decide +kernel
theorem dd_mm_go_105 : decode prog_12_method_18_code 105 = .ok (.goto 78, 3) := by decide +kernel
theorem dd_mm_go_108 : decode prog_12_method_18_code 108 = .ok (.aload_n 0, 1) := by decide +kernel
theorem dd_mm_go_109 : decode prog_12_method_18_code 109 = .ok (.getfield 19, 3) := by decide +kernel
theorem dd_mm_go_112 : decode prog_12_method_18_code 112 = .ok (.iload 6, 2) := by decide +kernel
theorem dd_mm_go_114 : decode prog_12_method_18_code 114 = .ok (.baload, 1) := by decide +kernel
theorem dd_mm_go_115 : decode prog_12_method_18_code 115 = .ok (.iload_n 1, 1) := by decide +kernel
theorem dd_mm_go_116 : decode prog_12_method_18_code 116 = .ok (.if_icmp .eq 43, 3) := by decide +kernel
theorem dd_mm_go_119 : decode prog_12_method_18_code 119 = .ok (.aload_n 0, 1) := by decide +kernel
theorem dd_mm_go_120 : decode prog_12_method_18_code 120 = .ok (.iload_n 1, 1) := by decide +kernel
theorem dd_mm_go_121 : decode prog_12_method_18_code 121 = .ok (.aload_n 0, 1) := by decide +kernel
theorem dd_mm_go_122 : decode prog_12_method_18_code 122 = .ok (.getfield 19, 3) := by decide +kernel
theorem dd_mm_go_125 : decode prog_12_method_18_code 125 = .ok (.iload 6, 2) := by decide +kernel
theorem dd_mm_go_127 : decode prog_12_method_18_code 127 = .ok (.baload, 1) := by decide +kernel
theorem dd_mm_go_128 : decode prog_12_method_18_code 128 = .ok (.iload 4, 2) := by decide +kernel
theorem dd_mm_go_130 : decode prog_12_method_18_code 130 = .ok (.invokevirtual 157, 3) := by decide +kernel
theorem dd_mm_go_133 : decode prog_12_method_18_code 133 = .ok (.aload_n 0, 1) := by decide +kernel
theorem dd_mm_go_134 : decode prog_12_method_18_code 134 = .ok (.iconst 1, 1) := by decide +kernel
theorem dd_mm_go_135 : decode prog_12_method_18_code 135 = .ok (.iconst 4, 1) := by decide +kernel
theorem dd_mm_go_136 : decode prog_12_method_18_code 136 = .ok (.iload_n 1, 1) := by decide +kernel
theorem dd_mm_go_137 : decode prog_12_method_18_code 137 = .ok (.imul, 1) := by decide +kernel
theorem dd_mm_go_138 : decode prog_12_method_18_code 138 = .ok (.aload_n 0, 1) := by decide +kernel
theorem dd_mm_go_139 : decode prog_12_method_18_code 139 = .ok (.getfield 19, 3) := by decide +kernel
theorem dd_mm_go_142 : decode prog_12_method_18_code 142 = .ok (.iload 6, 2) := by decide +kernel
theorem dd_mm_go_144 : decode prog_12_method_18_code 144 = .ok (.baload, 1) := by decide +kernel
theorem dd_mm_go_145 : decode prog_12_method_18_code 145 = .ok (.iadd, 1) := by decide +kernel
theorem dd_mm_go_146 : decode prog_12_method_18_code 146 = .ok (.iload 6, 2) := by decide +kernel
theorem dd_mm_go_148 : decode prog_12_method_18_code 148 = .ok (.iload_n 3, 1) := by decide +kernel
theorem dd_mm_go_149 : decode prog_12_method_18_code 149 = .ok (.iload 4, 2) := by decide +kernel
theorem dd_mm_go_151 : decode prog_12_method_18_code 151 = .ok (.iload 5, 2) := by decide +kernel
theorem dd_mm_go_153 : decode prog_12_method_18_code 153 = .ok (.invokevirtual 111, 3) := by decide +kernel
theorem dd_mm_go_156 : decode prog_12_method_18_code 156 = .ok (.goto 27, 3) := by decide +kernel
theorem dd_mm_go_159 : decode prog_12_method_18_code 159 = .ok (.aload_n 0, 1) := by decide +kernel
theorem dd_mm_go_160 : decode prog_12_method_18_code 160 = .ok (.iload 6, 2) := by decide +kernel
theorem dd_mm_go_162 : decode prog_12_method_18_code 162 = .ok (.bipush 100, 2) := by decide +kernel
theorem dd_mm_go_164 : decode prog_12_method_18_code 164 = .ok (.if_icmp .le 8, 3) := by decide +kernel
theorem dd_mm_go_167 : decode prog_12_method_18_code 167 = .ok (.iload 6, 2) := by decide +kernel
theorem dd_mm_go_169 : decode prog_12_method_18_code 169 = .ok (.goto 4, 3) := by decide +kernel
theorem dd_mm_go_172 : decode prog_12_method_18_code 172 = .ok (.iload_n 1, 1) := by decide +kernel
theorem dd_mm_go_173 : decode prog_12_method_18_code 173 = .ok (.iload 6, 2) := by decide +kernel
theorem dd_mm_go_175 : decode prog_12_method_18_code 175 = .ok (.iload_n 3, 1) := by decide +kernel
theorem dd_mm_go_176 : decode prog_12_method_18_code 176 = .ok (.iload 4, 2) := by decide +kernel
theorem dd_mm_go_178 : decode prog_12_method_18_code 178 = .ok (.iload 5, 2) := by decide +kernel
theorem dd_mm_go_180 : decode prog_12_method_18_code 180 = .ok (.invokevirtual 160, 3) := by decide +kernel
theorem dd_mm_go_183 : decode prog_12_method_18_code 183 = .ok (.return_, 1) := by decide +kernel
set_option maxHeartbeats 4000000 in
set_option maxRecDepth 100000 in
theorem kb_mm_go_b102 {p : Program} {l : Launch} {e : Env} {s : State} {m : MethodId} {args : Array Value} {below : List Frame} {meth : Method} {c : Code} {D : va_G} {ac : Nat → ClassId} {a0 : Nat} {gl : gl_T} {rF : Unit} {stF : st_S} {iT jT : Nat}
    (X : cx_ p s m args c prog_12_method_18_code 8 "PromiseVatsModel" tb_ D cl_ (ty_ ac)) (hKs : kn_ D ac a0 gl s) (hlk : meth.locks = false) (hret : meth.sig.returnType = (Option.none : Option FieldType)) (hnm : meth.name = "go") : wk_ p l e 2 50 s m args below meth c D cl_ ac a0 8 vb_u rF stF iT jT 102 (fun x : Int32 × Option Nat => []) (fun x : Int32 × Option Nat => [(.int x.1), (va_rf x.2)]) (fun x : Int32 × Option Nat => mm_go_b102 gl x.1 x.2) := by
  intro x st H locs cells slots i j ls hw hl h hci hcj
  obtain ⟨q0, q1⟩ := x
  have h : mm_go_b102 gl q0 q1 st = some (rF, stF, i, j) := h
  unfold mm_go_b102 at h
  have hl : lh_ ls 8 [] := hl
  refine W.eq (g2 := F0 m 102 ls [(.int q0), (va_rf q1)]) rfl ?_
  obtain ⟨t61, hp102, h⟩ := st_w_some h
  refine rr_put (ty := .int) X hw ff_10_30 hp102 tw_491 (Or.inl rfl) (by decide +kernel) rfl rfl dd_mm_go_102 (fun H locs hw => ?_)
  refine lv_goto (tgt := 183) X.1 X.2.1 dd_mm_go_105 (by decide) ?_
  obtain ⟨rfl, rfl, rfl, rfl⟩ := st_r_some h
  exact rr_vret X hw hlk hret hci hcj dd_mm_go_183
set_option maxHeartbeats 4000000 in
set_option maxRecDepth 100000 in
theorem kb_mm_go_b72 {p : Program} {l : Launch} {e : Env} {s : State} {m : MethodId} {args : Array Value} {below : List Frame} {meth : Method} {c : Code} {D : va_G} {ac : Nat → ClassId} {a0 : Nat} {gl : gl_T} {rF : Unit} {stF : st_S} {iT jT : Nat}
    (X : cx_ p s m args c prog_12_method_18_code 8 "PromiseVatsModel" tb_ D cl_ (ty_ ac)) (hKs : kn_ D ac a0 gl s) (hlk : meth.locks = false) (hret : meth.sig.returnType = (Option.none : Option FieldType)) (hnm : meth.name = "go") : wk_ p l e 2 50 s m args below meth c D cl_ ac a0 8 vb_u rF stF iT jT 72 (fun x : Option Nat × Int32 => [(0, (va_rf x.1)), (5, (.int x.2))]) (fun x : Option Nat × Int32 => []) (fun x : Option Nat × Int32 => mm_go_b72 gl x.1 x.2) := by
  intro x st H locs cells slots i j ls hw hl h hci hcj
  obtain ⟨p0, p5⟩ := x
  have h : mm_go_b72 gl p0 p5 st = some (rF, stF, i, j) := h
  unfold mm_go_b72 at h
  have hl : lh_ ls 8 [(0, (va_rf p0)), (5, (.int p5))] := hl
  refine W.eq (g2 := F0 m 72 ls []) rfl ?_
  refine rr_aldn X dd_mm_go_72 rfl (lv_at hl.1 0 rfl) ?_
  obtain ⟨t56, ht56, h⟩ := st_g_some h
  refine rr_getq X hw ff_10_31 ht56 tw_440 (Or.inl rfl) dd_mm_go_73 ?_
  refine rr_aldn X dd_mm_go_76 rfl (lv_at hl.1 0 rfl) ?_
  obtain ⟨t57, ht57, h⟩ := st_g_some h
  refine rr_geti X hw ff_10_30 ht57 tw_491 (Or.inl rfl) dd_mm_go_77 ?_
  refine lv_iload X.1 X.2.1 dd_mm_go_80 (lv_at hl.1 1 rfl) ?_
  obtain ⟨t58, hp82, h⟩ := st_w_some h
  refine rr_iast (t := 0) X hw rfl hp82 dd_mm_go_82 (fun H locs hw => ?_)
  refine rr_aldn X dd_mm_go_83 rfl (lv_at hl.1 0 rfl) ?_
  refine lv_iload X.1 X.2.1 dd_mm_go_84 (lv_at hl.1 1 rfl) ?_
  by_cases hc86 : p5 ≤ 0
  · rw [if_pos hc86] at h
    refine lv_if_le (tgt := 98) X.1 X.2.1 dd_mm_go_86 (by decide) (fun _ => ?_) (fun z => absurd hc86 z)
    refine rr_aldn X dd_mm_go_98 rfl (lv_at hl.1 0 rfl) ?_
    obtain ⟨t59, ht59, h⟩ := st_g_some h
    refine rr_geti X hw ff_10_30 ht59 tw_491 (Or.inl rfl) dd_mm_go_99 ?_
    exact (kb_mm_go_b102 X hKs hlk hret hnm) (t59, p0) _ _ _ _ _ _ _ _ hw (lh_pk hl [] rfl) h hci hcj
  · rw [if_neg hc86] at h
    refine lv_if_le (tgt := 98) X.1 X.2.1 dd_mm_go_86 (by decide) (fun z => absurd z hc86) (fun _ => ?_)
    refine rr_aldn X dd_mm_go_89 rfl (lv_at hl.1 0 rfl) ?_
    obtain ⟨t60, ht60, h⟩ := st_g_some h
    refine rr_geti X hw ff_10_30 ht60 tw_491 (Or.inl rfl) dd_mm_go_90 ?_
    refine lv_iconst (v := (1 : Int32)) X.1 X.2.1 dd_mm_go_93 (by decide) ?_
    refine lv_iadd X.1 X.2.1 dd_mm_go_94 ?_
    refine lv_goto (tgt := 102) X.1 X.2.1 dd_mm_go_95 (by decide) ?_
    exact (kb_mm_go_b102 X hKs hlk hret hnm) ((t60 + (1 : Int32)), p0) _ _ _ _ _ _ _ _ hw (lh_pk hl [] rfl) h hci hcj
set_option maxHeartbeats 4000000 in
set_option maxRecDepth 100000 in
theorem kb_mm_go_b173 {p : Program} {l : Launch} {e : Env} {s : State} {m : MethodId} {args : Array Value} {below : List Frame} {meth : Method} {c : Code} {D : va_G} {ac : Nat → ClassId} {a0 : Nat} {gl : gl_T} {rF : Unit} {stF : st_S} {iT jT : Nat}
    (X : cx_ p s m args c prog_12_method_18_code 8 "PromiseVatsModel" tb_ D cl_ (ty_ ac)) (hKs : kn_ D ac a0 gl s) (hlk : meth.locks = false) (hret : meth.sig.returnType = (Option.none : Option FieldType)) (hnm : meth.name = "go") : wk_ p l e 2 50 s m args below meth c D cl_ ac a0 8 vb_u rF stF iT jT 173 (fun x : Int32 × Int32 × Int32 × Int32 × Int32 × Option Nat => [(3, (.int x.1)), (4, (.int x.2.1)), (5, (.int x.2.2.1)), (6, (.int x.2.2.2.1))]) (fun x : Int32 × Int32 × Int32 × Int32 × Int32 × Option Nat => [(.int x.2.2.2.2.1), (va_rf x.2.2.2.2.2)]) (fun x : Int32 × Int32 × Int32 × Int32 × Int32 × Option Nat => mm_go_b173 gl x.1 x.2.1 x.2.2.1 x.2.2.2.1 x.2.2.2.2.1 x.2.2.2.2.2) := by
  intro x st H locs cells slots i j ls hw hl h hci hcj
  obtain ⟨p3, p4, p5, p6, q0, q1⟩ := x
  have h : mm_go_b173 gl p3 p4 p5 p6 q0 q1 st = some (rF, stF, i, j) := h
  unfold mm_go_b173 at h
  have hl : lh_ ls 8 [(3, (.int p3)), (4, (.int p4)), (5, (.int p5)), (6, (.int p6))] := hl
  refine W.eq (g2 := F0 m 173 ls [(.int q0), (va_rf q1)]) rfl ?_
  refine lv_iload X.1 X.2.1 dd_mm_go_173 (lv_at hl.1 3 rfl) ?_
  refine lv_iload_n X.1 X.2.1 dd_mm_go_175 rfl (lv_at hl.1 0 rfl) ?_
  refine lv_iload X.1 X.2.1 dd_mm_go_176 (lv_at hl.1 1 rfl) ?_
  refine lv_iload X.1 X.2.1 dd_mm_go_178 (lv_at hl.1 2 rfl) ?_
  obtain ⟨t55, ht55, h⟩ := st_g_some h
  obtain ⟨t47, t48, t49, t50, t51, t52, ht47, h, ei, ej⟩ := st_b_some h
  refine rr_callV (n := 5) (As := [(.int q0), (.int p6), (.int p3), (.int p4), (.int p5)]) (rest := []) X hw (kn_ok D ac a0 gl) hKs (kc_mm_rest l D ac a0 gl q1 q0 p6 p3 p4 p5 _ _ _ _ _ ht47) tb_good tw_487 tw_469 tw_488 tw_489 se_47 ht55 (by decide +kernel) rfl (show 0 + 1 ≤ _ ∧ 8 + (6 + 11) + 0 ≤ _ from ⟨Nat.le_of_ble_eq_true rfl, Nat.le_of_ble_eq_true rfl⟩) (show cells + t49 ≤ iT ∧ slots + t50 ≤ jT from ⟨ar_1 hci ei, ar_1 hcj ej⟩) hl.1.1 (by simp [rf_cat, ic_cat]) rfl dd_mm_go_180 (sk := []) rfl (fun H locs hw => ?_)
  have hci : cells + t49 + t51 = iT := ar_2 hci ei
  have hcj : slots + t50 + t52 = jT := ar_2 hcj ej
  clear ei ej
  generalize cells + t49 = t53 at hci ⊢
  generalize slots + t50 = t54 at hcj ⊢
  obtain ⟨rfl, rfl, rfl, rfl⟩ := st_r_some h
  exact rr_vret X hw hlk hret hci hcj dd_mm_go_183
set_option maxHeartbeats 4000000 in
set_option maxRecDepth 100000 in
theorem kb_mm_go_b108 {p : Program} {l : Launch} {e : Env} {s : State} {m : MethodId} {args : Array Value} {below : List Frame} {meth : Method} {c : Code} {D : va_G} {ac : Nat → ClassId} {a0 : Nat} {gl : gl_T} {rF : Unit} {stF : st_S} {iT jT : Nat}
    (X : cx_ p s m args c prog_12_method_18_code 8 "PromiseVatsModel" tb_ D cl_ (ty_ ac)) (hKs : kn_ D ac a0 gl s) (hlk : meth.locks = false) (hret : meth.sig.returnType = (Option.none : Option FieldType)) (hnm : meth.name = "go") : wk_ p l e 2 50 s m args below meth c D cl_ ac a0 8 vb_u rF stF iT jT 108 (fun x : Option Nat × Int32 × Int32 × Int32 × Int32 × Int32 => [(0, (va_rf x.1)), (1, (.int x.2.1)), (3, (.int x.2.2.1)), (4, (.int x.2.2.2.1)), (5, (.int x.2.2.2.2.1)), (6, (.int x.2.2.2.2.2))]) (fun x : Option Nat × Int32 × Int32 × Int32 × Int32 × Int32 => []) (fun x : Option Nat × Int32 × Int32 × Int32 × Int32 × Int32 => mm_go_b108 gl x.1 x.2.1 x.2.2.1 x.2.2.2.1 x.2.2.2.2.1 x.2.2.2.2.2) := by
  intro x st H locs cells slots i j ls hw hl h hci hcj
  obtain ⟨p0, p1, p3, p4, p5, p6⟩ := x
  have h : mm_go_b108 gl p0 p1 p3 p4 p5 p6 st = some (rF, stF, i, j) := h
  unfold mm_go_b108 at h
  have hl : lh_ ls 8 [(0, (va_rf p0)), (1, (.int p1)), (3, (.int p3)), (4, (.int p4)), (5, (.int p5)), (6, (.int p6))] := hl
  refine W.eq (g2 := F0 m 108 ls []) rfl ?_
  refine rr_aldn X dd_mm_go_108 rfl (lv_at hl.1 0 rfl) ?_
  obtain ⟨t23, ht23, h⟩ := st_g_some h
  refine rr_getq X hw ff_10_6 ht23 tw_461 (Or.inl rfl) dd_mm_go_109 ?_
  refine lv_iload X.1 X.2.1 dd_mm_go_112 (lv_at hl.1 5 rfl) ?_
  obtain ⟨t24, ht24, h⟩ := st_g_some h
  refine rr_bald (t := 1) X hw rfl ht24 dd_mm_go_114 ?_
  refine lv_iload_n X.1 X.2.1 dd_mm_go_115 rfl (lv_at hl.1 1 rfl) ?_
  by_cases hc116 : t24 = p1
  · rw [if_pos hc116] at h
    refine lv_icmp_eq (tgt := 159) X.1 X.2.1 dd_mm_go_116 (by decide) (fun _ => ?_) (fun z => absurd hc116 z)
    refine rr_aldn X dd_mm_go_159 rfl (lv_at hl.1 0 rfl) ?_
    refine lv_iload X.1 X.2.1 dd_mm_go_160 (lv_at hl.1 5 rfl) ?_
    refine lv_bipush (v := (100 : Int32)) X.1 X.2.1 dd_mm_go_162 (by decide) ?_
    by_cases hc164 : p6 ≤ (100 : Int32)
    · rw [if_pos hc164] at h
      refine lv_icmp_le (tgt := 172) X.1 X.2.1 dd_mm_go_164 (by decide) (fun _ => ?_) (fun z => absurd hc164 z)
      refine lv_iload_n X.1 X.2.1 dd_mm_go_172 rfl (lv_at hl.1 1 rfl) ?_
      exact (kb_mm_go_b173 X hKs hlk hret hnm) (p3, p4, p5, p6, p1, p0) _ _ _ _ _ _ _ _ hw (lh_pk hl [2, 3, 4, 5] rfl) h hci hcj
    · rw [if_neg hc164] at h
      refine lv_icmp_le (tgt := 172) X.1 X.2.1 dd_mm_go_164 (by decide) (fun z => absurd z hc164) (fun _ => ?_)
      refine lv_iload X.1 X.2.1 dd_mm_go_167 (lv_at hl.1 5 rfl) ?_
      refine lv_goto (tgt := 173) X.1 X.2.1 dd_mm_go_169 (by decide) ?_
      exact (kb_mm_go_b173 X hKs hlk hret hnm) (p3, p4, p5, p6, p6, p0) _ _ _ _ _ _ _ _ hw (lh_pk hl [2, 3, 4, 5] rfl) h hci hcj
  · rw [if_neg hc116] at h
    refine lv_icmp_eq (tgt := 159) X.1 X.2.1 dd_mm_go_116 (by decide) (fun z => absurd z hc116) (fun _ => ?_)
    refine rr_aldn X dd_mm_go_119 rfl (lv_at hl.1 0 rfl) ?_
    refine lv_iload_n X.1 X.2.1 dd_mm_go_120 rfl (lv_at hl.1 1 rfl) ?_
    refine rr_aldn X dd_mm_go_121 rfl (lv_at hl.1 0 rfl) ?_
    obtain ⟨t25, ht25, h⟩ := st_g_some h
    refine rr_getq X hw ff_10_6 ht25 tw_461 (Or.inl rfl) dd_mm_go_122 ?_
    refine lv_iload X.1 X.2.1 dd_mm_go_125 (lv_at hl.1 5 rfl) ?_
    obtain ⟨t26, ht26, h⟩ := st_g_some h
    refine rr_bald (t := 1) X hw rfl ht26 dd_mm_go_127 ?_
    refine lv_iload X.1 X.2.1 dd_mm_go_128 (lv_at hl.1 3 rfl) ?_
    obtain ⟨t46, ht46, h⟩ := st_g_some h
    obtain ⟨t27, t28, t29, t30, t31, t32, ht27, h, ei, ej⟩ := st_b_some h
    refine rr_callV (n := 3) (As := [(.int p1), (.int t26), (.int p4)]) (rest := []) X hw (kn_ok D ac a0 gl) hKs (kc_mm_pack l D ac a0 gl p0 p1 t26 p4 _ _ _ _ _ ht27) tb_good tw_483 tw_469 tw_484 tw_485 se_46 ht46 (by decide +kernel) rfl (show 1 + 1 ≤ _ ∧ 8 + (5 + 11) + 26 ≤ _ from ⟨Nat.le_of_ble_eq_true rfl, Nat.le_of_ble_eq_true rfl⟩) (show cells + t29 ≤ iT ∧ slots + t30 ≤ jT from ⟨ar_1 hci ei, ar_1 hcj ej⟩) hl.1.1 (by simp [rf_cat, ic_cat]) rfl dd_mm_go_130 (sk := []) rfl (fun H locs hw => ?_)
    have hci : cells + t29 + t31 = iT := ar_2 hci ei
    have hcj : slots + t30 + t32 = jT := ar_2 hcj ej
    clear ei ej
    generalize cells + t29 = t33 at hci ⊢
    generalize slots + t30 = t34 at hcj ⊢
    refine rr_aldn X dd_mm_go_133 rfl (lv_at hl.1 0 rfl) ?_
    refine lv_iconst (v := (1 : Int32)) X.1 X.2.1 dd_mm_go_134 (by decide) ?_
    refine lv_iconst (v := (4 : Int32)) X.1 X.2.1 dd_mm_go_135 (by decide) ?_
    refine lv_iload_n X.1 X.2.1 dd_mm_go_136 rfl (lv_at hl.1 1 rfl) ?_
    refine lv_imul X.1 X.2.1 dd_mm_go_137 ?_
    refine rr_aldn X dd_mm_go_138 rfl (lv_at hl.1 0 rfl) ?_
    obtain ⟨t35, ht35, h⟩ := st_g_some h
    refine rr_getq X hw ff_10_6 ht35 tw_461 (Or.inl rfl) dd_mm_go_139 ?_
    refine lv_iload X.1 X.2.1 dd_mm_go_142 (lv_at hl.1 5 rfl) ?_
    obtain ⟨t36, ht36, h⟩ := st_g_some h
    refine rr_bald (t := 1) X hw rfl ht36 dd_mm_go_144 ?_
    refine lv_iadd X.1 X.2.1 dd_mm_go_145 ?_
    refine lv_iload X.1 X.2.1 dd_mm_go_146 (lv_at hl.1 5 rfl) ?_
    refine lv_iload_n X.1 X.2.1 dd_mm_go_148 rfl (lv_at hl.1 2 rfl) ?_
    refine lv_iload X.1 X.2.1 dd_mm_go_149 (lv_at hl.1 3 rfl) ?_
    refine lv_iload X.1 X.2.1 dd_mm_go_151 (lv_at hl.1 4 rfl) ?_
    obtain ⟨t45, ht45, h⟩ := st_g_some h
    obtain ⟨t37, t38, t39, t40, t41, t42, ht37, h, ei, ej⟩ := st_b_some h
    refine rr_callV (n := 6) (As := [(.int (1 : Int32)), (.int (((4 : Int32) * p1) + t36)), (.int p6), (.int p3), (.int p4), (.int p5)]) (rest := []) X hw (kn_ok D ac a0 gl) hKs (kc_mm_post l D ac a0 gl p0 (1 : Int32) (((4 : Int32) * p1) + t36) p6 p3 p4 p5 _ _ _ _ _ ht37) tb_good tw_470 tw_469 tw_471 tw_472 se_43 ht45 (by decide +kernel) rfl (show 0 + 1 ≤ _ ∧ 8 + (7 + 11) + 0 ≤ _ from ⟨Nat.le_of_ble_eq_true rfl, Nat.le_of_ble_eq_true rfl⟩) (show t33 + t39 ≤ iT ∧ t34 + t40 ≤ jT from ⟨ar_1 hci ei, ar_1 hcj ej⟩) hl.1.1 (by simp [rf_cat, ic_cat]) rfl dd_mm_go_153 (sk := []) rfl (fun H locs hw => ?_)
    have hci : t33 + t39 + t41 = iT := ar_2 hci ei
    have hcj : t34 + t40 + t42 = jT := ar_2 hcj ej
    clear ei ej
    generalize t33 + t39 = t43 at hci ⊢
    generalize t34 + t40 = t44 at hcj ⊢
    refine lv_goto (tgt := 183) X.1 X.2.1 dd_mm_go_156 (by decide) ?_
    obtain ⟨rfl, rfl, rfl, rfl⟩ := st_r_some h
    exact rr_vret X hw hlk hret hci hcj dd_mm_go_183
set_option maxHeartbeats 4000000 in
set_option maxRecDepth 100000 in
theorem kb_mm_go_b38 {p : Program} {l : Launch} {e : Env} {s : State} {m : MethodId} {args : Array Value} {below : List Frame} {meth : Method} {c : Code} {D : va_G} {ac : Nat → ClassId} {a0 : Nat} {gl : gl_T} {rF : Unit} {stF : st_S} {iT jT : Nat}
    (X : cx_ p s m args c prog_12_method_18_code 8 "PromiseVatsModel" tb_ D cl_ (ty_ ac)) (hKs : kn_ D ac a0 gl s) (hlk : meth.locks = false) (hret : meth.sig.returnType = (Option.none : Option FieldType)) (hnm : meth.name = "go") : wk_ p l e 2 50 s m args below meth c D cl_ ac a0 8 vb_u rF stF iT jT 38 (fun x : Option Nat × Int32 × Int32 × Int32 × Int32 × Int32 => [(0, (va_rf x.1)), (1, (.int x.2.1)), (3, (.int x.2.2.1)), (4, (.int x.2.2.2.1)), (5, (.int x.2.2.2.2.1)), (6, (.int x.2.2.2.2.2))]) (fun x : Option Nat × Int32 × Int32 × Int32 × Int32 × Int32 => []) (fun x : Option Nat × Int32 × Int32 × Int32 × Int32 × Int32 => mm_go_b38 gl x.1 x.2.1 x.2.2.1 x.2.2.2.1 x.2.2.2.2.1 x.2.2.2.2.2) := by
  intro x st H locs cells slots i j ls hw hl h hci hcj
  obtain ⟨p0, p1, p3, p4, p5, p6⟩ := x
  have h : mm_go_b38 gl p0 p1 p3 p4 p5 p6 st = some (rF, stF, i, j) := h
  unfold mm_go_b38 at h
  have hl : lh_ ls 8 [(0, (va_rf p0)), (1, (.int p1)), (3, (.int p3)), (4, (.int p4)), (5, (.int p5)), (6, (.int p6))] := hl
  refine W.eq (g2 := F0 m 38 ls []) rfl ?_
  refine lv_iload X.1 X.2.1 dd_mm_go_38 (lv_at hl.1 5 rfl) ?_
  by_cases hc40 : p6 = 0
  · rw [if_pos hc40] at h
    refine lv_if_eq (tgt := 72) X.1 X.2.1 dd_mm_go_40 (by decide) (fun _ => ?_) (fun z => absurd hc40 z)
    exact (kb_mm_go_b72 X hKs hlk hret hnm) (p0, p5) _ _ _ _ _ _ _ _ hw (lh_pk hl [0, 4] rfl) h hci hcj
  · rw [if_neg hc40] at h
    refine lv_if_eq (tgt := 72) X.1 X.2.1 dd_mm_go_40 (by decide) (fun z => absurd z hc40) (fun _ => ?_)
    refine lv_iload X.1 X.2.1 dd_mm_go_43 (lv_at hl.1 5 rfl) ?_
    refine lv_bipush (v := (100 : Int32)) X.1 X.2.1 dd_mm_go_45 (by decide) ?_
    by_cases hc47 : p6 ≤ (100 : Int32)
    · rw [if_pos hc47] at h
      refine lv_icmp_le (tgt := 108) X.1 X.2.1 dd_mm_go_47 (by decide) (fun _ => ?_) (fun z => absurd hc47 z)
      exact (kb_mm_go_b108 X hKs hlk hret hnm) (p0, p1, p3, p4, p5, p6) _ _ _ _ _ _ _ _ hw (lh_pk hl [0, 1, 2, 3, 4, 5] rfl) h hci hcj
    · rw [if_neg hc47] at h
      refine lv_icmp_le (tgt := 108) X.1 X.2.1 dd_mm_go_47 (by decide) (fun z => absurd z hc47) (fun _ => ?_)
      refine rr_aldn X dd_mm_go_50 rfl (lv_at hl.1 0 rfl) ?_
      obtain ⟨t12, ht12, h⟩ := st_g_some h
      refine rr_getq X hw ff_10_6 ht12 tw_461 (Or.inl rfl) dd_mm_go_51 ?_
      refine lv_iload X.1 X.2.1 dd_mm_go_54 (lv_at hl.1 5 rfl) ?_
      obtain ⟨t13, ht13, h⟩ := st_g_some h
      refine rr_bald (t := 1) X hw rfl ht13 dd_mm_go_56 ?_
      refine lv_iload_n X.1 X.2.1 dd_mm_go_57 rfl (lv_at hl.1 1 rfl) ?_
      by_cases hc58 : t13 = p1
      · rw [if_pos hc58] at h
        refine lv_icmp_ne (tgt := 108) X.1 X.2.1 dd_mm_go_58 (by decide) (fun z => absurd hc58 z) (fun _ => ?_)
        refine rr_aldn X dd_mm_go_61 rfl (lv_at hl.1 0 rfl) ?_
        refine lv_iload X.1 X.2.1 dd_mm_go_62 (lv_at hl.1 5 rfl) ?_
        obtain ⟨t22, ht22, h⟩ := st_g_some h
        obtain ⟨t14, t15, t16, t17, t18, t19, ht14, h, ei, ej⟩ := st_b_some h
        refine rr_callV (n := 1) (As := [(.int p6)]) (rest := []) X hw (kn_ok D ac a0 gl) hKs (kc_mm_waits l D ac a0 gl p0 p6 _ _ _ _ _ ht14) tb_good tw_479 tw_469 tw_480 tw_481 se_45 ht22 (by decide +kernel) rfl (show 0 + 1 ≤ _ ∧ 8 + (4 + 11) + 0 ≤ _ from ⟨Nat.le_of_ble_eq_true rfl, Nat.le_of_ble_eq_true rfl⟩) (show cells + t16 ≤ iT ∧ slots + t17 ≤ jT from ⟨ar_1 hci ei, ar_1 hcj ej⟩) hl.1.1 (by simp [rf_cat, ic_cat]) rfl dd_mm_go_64 (sk := [(.int t14)]) rfl (fun H locs hw => ?_)
        have hci : cells + t16 + t18 = iT := ar_2 hci ei
        have hcj : slots + t17 + t19 = jT := ar_2 hcj ej
        clear ei ej
        generalize cells + t16 = t20 at hci ⊢
        generalize slots + t17 = t21 at hcj ⊢
        refine lv_bipush (v := (8 : Int32)) X.1 X.2.1 dd_mm_go_67 (by decide) ?_
        by_cases hc69 : t14 < (8 : Int32)
        · rw [if_pos hc69] at h
          refine lv_icmp_lt (tgt := 108) X.1 X.2.1 dd_mm_go_69 (by decide) (fun _ => ?_) (fun z => absurd hc69 z)
          exact (kb_mm_go_b108 X hKs hlk hret hnm) (p0, p1, p3, p4, p5, p6) _ _ _ _ _ _ _ _ hw (lh_pk hl [0, 1, 2, 3, 4, 5] rfl) h hci hcj
        · rw [if_neg hc69] at h
          refine lv_icmp_lt (tgt := 108) X.1 X.2.1 dd_mm_go_69 (by decide) (fun z => absurd z hc69) (fun _ => ?_)
          exact (kb_mm_go_b72 X hKs hlk hret hnm) (p0, p5) _ _ _ _ _ _ _ _ hw (lh_pk hl [0, 4] rfl) h hci hcj
      · rw [if_neg hc58] at h
        refine lv_icmp_ne (tgt := 108) X.1 X.2.1 dd_mm_go_58 (by decide) (fun _ => ?_) (fun z => absurd z hc58)
        exact (kb_mm_go_b108 X hKs hlk hret hnm) (p0, p1, p3, p4, p5, p6) _ _ _ _ _ _ _ _ hw (lh_pk hl [0, 1, 2, 3, 4, 5] rfl) h hci hcj
set_option maxHeartbeats 4000000 in
set_option maxRecDepth 100000 in
theorem kb_mm_go_b6 {p : Program} {l : Launch} {e : Env} {s : State} {m : MethodId} {args : Array Value} {below : List Frame} {meth : Method} {c : Code} {D : va_G} {ac : Nat → ClassId} {a0 : Nat} {gl : gl_T} {rF : Unit} {stF : st_S} {iT jT : Nat}
    (X : cx_ p s m args c prog_12_method_18_code 8 "PromiseVatsModel" tb_ D cl_ (ty_ ac)) (hKs : kn_ D ac a0 gl s) (hlk : meth.locks = false) (hret : meth.sig.returnType = (Option.none : Option FieldType)) (hnm : meth.name = "go") : wk_ p l e 2 50 s m args below meth c D cl_ ac a0 8 vb_u rF stF iT jT 6 (fun x : Option Nat × Int32 × Int32 × Int32 × Int32 × Int32 × Int32 => [(0, (va_rf x.1)), (1, (.int x.2.1)), (3, (.int x.2.2.1)), (4, (.int x.2.2.2.1)), (5, (.int x.2.2.2.2.1)), (6, (.int x.2.2.2.2.2.1)), (7, (.int x.2.2.2.2.2.2))]) (fun x : Option Nat × Int32 × Int32 × Int32 × Int32 × Int32 × Int32 => []) (st_it (fun rec6 => (fun x : Option Nat × Int32 × Int32 × Int32 × Int32 × Int32 × Int32 => mm_go_b6 gl rec6 x.1 x.2.1 x.2.2.1 x.2.2.2.1 x.2.2.2.2.1 x.2.2.2.2.2.1 x.2.2.2.2.2.2)) fu_) := by
  refine wk_it ?_ _
  intro rec6 hr6 x st H locs cells slots i j ls hw hl h hci hcj
  obtain ⟨p0, p1, p3, p4, p5, p6, p7⟩ := x
  have h : mm_go_b6 gl rec6 p0 p1 p3 p4 p5 p6 p7 st = some (rF, stF, i, j) := h
  unfold mm_go_b6 at h
  have hl : lh_ ls 8 [(0, (va_rf p0)), (1, (.int p1)), (3, (.int p3)), (4, (.int p4)), (5, (.int p5)), (6, (.int p6)), (7, (.int p7))] := hl
  refine W.eq (g2 := F0 m 6 ls []) rfl ?_
  refine lv_iload X.1 X.2.1 dd_mm_go_6 (lv_at hl.1 6 rfl) ?_
  refine lv_bipush (v := (100 : Int32)) X.1 X.2.1 dd_mm_go_8 (by decide) ?_
  by_cases hc10 : (100 : Int32) < p7
  · rw [if_pos hc10] at h
    refine lv_icmp_gt (tgt := 38) X.1 X.2.1 dd_mm_go_10 (by decide) (fun _ => ?_) (fun z => absurd hc10 z)
    exact (kb_mm_go_b38 X hKs hlk hret hnm) (p0, p1, p3, p4, p5, p6) _ _ _ _ _ _ _ _ hw (lh_pk hl [0, 1, 2, 3, 4, 5] rfl) h hci hcj
  · rw [if_neg hc10] at h
    refine lv_icmp_gt (tgt := 38) X.1 X.2.1 dd_mm_go_10 (by decide) (fun z => absurd z hc10) (fun _ => ?_)
    refine rr_aldn X dd_mm_go_13 rfl (lv_at hl.1 0 rfl) ?_
    refine lv_iload_n X.1 X.2.1 dd_mm_go_14 rfl (lv_at hl.1 1 rfl) ?_
    refine lv_iload X.1 X.2.1 dd_mm_go_15 (lv_at hl.1 5 rfl) ?_
    obtain ⟨t11, ht11, h⟩ := st_g_some h
    obtain ⟨t1, t2, t3, t4, t5, t6, ht1, h, ei, ej⟩ := st_b_some h
    refine rr_callV (n := 2) (As := [(.int p1), (.int p6)]) (rest := []) X hw (kn_ok D ac a0 gl) hKs (kc_mm_passes l D ac a0 gl p0 p1 p6 _ _ _ _ _ ht1) tb_good tw_475 tw_469 tw_476 tw_477 se_44 ht11 (by decide +kernel) rfl (show 0 + 1 ≤ _ ∧ 8 + (3 + 11) + 0 ≤ _ from ⟨Nat.le_of_ble_eq_true rfl, Nat.le_of_ble_eq_true rfl⟩) (show cells + t3 ≤ iT ∧ slots + t4 ≤ jT from ⟨ar_1 hci ei, ar_1 hcj ej⟩) hl.1.1 (by simp [rf_cat, ic_cat]) rfl dd_mm_go_17 (sk := [(.int t1)]) rfl (fun H locs hw => ?_)
    have hci : cells + t3 + t5 = iT := ar_2 hci ei
    have hcj : slots + t4 + t6 = jT := ar_2 hcj ej
    clear ei ej
    generalize cells + t3 = t7 at hci ⊢
    generalize slots + t4 = t8 at hcj ⊢
    by_cases hc20 : t1 = 0
    · rw [if_pos hc20] at h
      refine lv_if_eq (tgt := 38) X.1 X.2.1 dd_mm_go_20 (by decide) (fun _ => ?_) (fun z => absurd hc20 z)
      exact (kb_mm_go_b38 X hKs hlk hret hnm) (p0, p1, p3, p4, p5, p6) _ _ _ _ _ _ _ _ hw (lh_pk hl [0, 1, 2, 3, 4, 5] rfl) h hci hcj
    · rw [if_neg hc20] at h
      refine lv_if_eq (tgt := 38) X.1 X.2.1 dd_mm_go_20 (by decide) (fun z => absurd z hc20) (fun _ => ?_)
      refine rr_aldn X dd_mm_go_23 rfl (lv_at hl.1 0 rfl) ?_
      obtain ⟨t9, ht9, h⟩ := st_g_some h
      refine rr_getq X hw ff_10_9 ht9 tw_458 (Or.inl rfl) dd_mm_go_24 ?_
      refine lv_iload X.1 X.2.1 dd_mm_go_27 (lv_at hl.1 5 rfl) ?_
      obtain ⟨t10, ht10, h⟩ := st_g_some h
      refine rr_iald (t := 0) X hw rfl ht10 dd_mm_go_29 ?_
      refine rr_ist (lv' := [(6, (.int t10)), (0, (va_rf p0)), (1, (.int p1)), (3, (.int p3)), (4, (.int p4)), (5, (.int p5)), (7, (.int p7))]) X dd_mm_go_30 hl (by decide) rfl (fun ls hl => ?_)
      refine rr_iinc (k := 6) (v := (p7 + (1 : Int32))) (lv' := [(7, (.int (p7 + (1 : Int32)))), (6, (.int t10)), (0, (va_rf p0)), (1, (.int p1)), (3, (.int p3)), (4, (.int p4)), (5, (.int p5))]) X dd_mm_go_32 hl rfl (by rw [show Int32.ofInt (1) = (1 : Int32) from by decide]) (by decide) rfl (fun ls hl => ?_)
      refine lv_goto (tgt := 6) X.1 X.2.1 dd_mm_go_35 (by decide) ?_
      exact hr6 (p0, p1, p3, p4, p5, t10, (p7 + (1 : Int32))) _ _ _ _ _ _ _ _ hw (lh_pk hl [2, 3, 4, 5, 6, 1, 0] rfl) h hci hcj
set_option maxHeartbeats 4000000 in
set_option maxRecDepth 100000 in
theorem kc_mm_go (l : Launch) (D : va_G) (ac : Nat → ClassId) (a0 : Nat) (gl : gl_T) (v0 : Option Nat) (v1 : Int32) (v2 : Int32) (v3 : Int32) (v4 : Int32) (v5 : Int32) (st : st_S) (rF : Unit) (stF : st_S) (iT jT : Nat) (h : mm_go gl v0 v1 v2 v3 v4 v5 st = some (rF, stF, iT, jT)) :
    ct_ l ⟨"PromiseVatsModel", "go", "(IIIII)V"⟩ (Cond.code ⟨"PromiseVatsModel", "go", "(IIIII)V"⟩ prog_12_method_18_code 8 (Option.none : Option FieldType) :: tb_) 2 50 D cl_ ac a0 (kn_ D ac a0 gl) [(va_rf v0), (.int v1), (.int v2), (.int v3), (.int v4), (.int v5)] st (vb_u rF) stF iT jT := by
  refine ct_of (kn_ok D ac a0 gl) (plainFor_of_name (by decide +kernel)) (by simp [rf_cat, ic_cat]) (by simp) ?_
  intro p e s m args below meth c ls X hw hKs hlk hret hnm hl
  unfold mm_go at h
  have hl : lh_ ls 8 [(0, (va_rf v0)), (1, (.int v1)), (2, (.int v2)), (3, (.int v3)), (4, (.int v4)), (5, (.int v5))] := hl
  obtain ⟨z0, hz0⟩ : ∃ z : Nat, 0 = z := ⟨0, rfl⟩
  obtain ⟨z1, hz1⟩ : ∃ z : Nat, 0 = z := ⟨0, rfl⟩
  refine W.cs hz0 hz1 ?_
  have hci : z0 + iT = iT := by omega
  have hcj : z1 + jT = jT := by omega
  refine lv_iload_n X.1 X.2.1 dd_mm_go_0 rfl (lv_at hl.1 2 rfl) ?_
  refine rr_ist (lv' := [(6, (.int v2)), (0, (va_rf v0)), (1, (.int v1)), (2, (.int v2)), (3, (.int v3)), (4, (.int v4)), (5, (.int v5))]) X dd_mm_go_1 hl (by decide) rfl (fun ls hl => ?_)
  refine lv_iconst (v := (0 : Int32)) X.1 X.2.1 dd_mm_go_3 (by decide) ?_
  refine rr_ist (lv' := [(7, (.int (0 : Int32))), (6, (.int v2)), (0, (va_rf v0)), (1, (.int v1)), (2, (.int v2)), (3, (.int v3)), (4, (.int v4)), (5, (.int v5))]) X dd_mm_go_4 hl (by decide) rfl (fun ls hl => ?_)
  exact (kb_mm_go_b6 X hKs hlk hret hnm) (v0, v1, v3, v4, v5, v2, (0 : Int32)) _ _ _ _ _ _ _ _ hw (lh_pk hl [2, 3, 5, 6, 7, 1, 0] rfl) h hci hcj
