/-! PromiseVatsModel.act(IIII)I -/
theorem dd_mm_act_0 : decode prog_12_method_27_code 0 = .ok (.iload_n 3, 1) := by decide +kernel
theorem dd_mm_act_1 : decode prog_12_method_27_code 1 = .ok (.tableswitch 198 0 9 #[55, 64, 82, 95, 113, 131, 139, 153, 176, 190], 55) := by decide +kernel
theorem dd_mm_act_56 : decode prog_12_method_27_code 56 = .ok (.aload_n 0, 1) := by decide +kernel
theorem dd_mm_act_57 : decode prog_12_method_27_code 57 = .ok (.iload 4, 2) := by decide +kernel
theorem dd_mm_act_59 : decode prog_12_method_27_code 59 = .ok (.putfield 169, 3) := by decide +kernel
theorem dd_mm_act_62 : decode prog_12_method_27_code 62 = .ok (.goto 142, 3) := by decide +kernel
theorem dd_mm_act_65 : decode prog_12_method_27_code 65 = .ok (.aload_n 0, 1) := by decide +kernel
theorem dd_mm_act_66 : decode prog_12_method_27_code 66 = .ok (.aload_n 0, 1) := by decide +kernel
theorem dd_mm_act_67 : decode prog_12_method_27_code 67 = .ok (.getfield 169, 3) := by decide +kernel
theorem dd_mm_act_70 : decode prog_12_method_27_code 70 = .ok (.aload_n 0, 1) := by decide +kernel
theorem dd_mm_act_71 : decode prog_12_method_27_code 71 = .ok (.getfield 39, 3) := by decide +kernel
theorem dd_mm_act_74 : decode prog_12_method_27_code 74 = .ok (.iload_n 2, 1) := by decide +kernel
theorem dd_mm_act_75 : decode prog_12_method_27_code 75 = .ok (.iaload, 1) := by decide +kernel
theorem dd_mm_act_76 : decode prog_12_method_27_code 76 = .ok (.iadd, 1) := by decide +kernel
theorem dd_mm_act_77 : decode prog_12_method_27_code 77 = .ok (.putfield 169, 3) := by decide +kernel
theorem dd_mm_act_80 : decode prog_12_method_27_code 80 = .ok (.goto 124, 3) := by decide +kernel
theorem dd_mm_act_83 : decode prog_12_method_27_code 83 = .ok (.aload_n 0, 1) := by decide +kernel
theorem dd_mm_act_84 : decode prog_12_method_27_code 84 = .ok (.getfield 39, 3) := by decide +kernel
theorem dd_mm_act_87 : decode prog_12_method_27_code 87 = .ok (.iload_n 2, 1) := by decide +kernel
theorem dd_mm_act_88 : decode prog_12_method_27_code 88 = .ok (.aload_n 0, 1) := by decide +kernel
theorem dd_mm_act_89 : decode prog_12_method_27_code 89 = .ok (.getfield 169, 3) := by decide +kernel
theorem dd_mm_act_92 : decode prog_12_method_27_code 92 = .ok (.iastore, 1) := by decide +kernel
theorem dd_mm_act_93 : decode prog_12_method_27_code 93 = .ok (.goto 111, 3) := by decide +kernel
theorem dd_mm_act_96 : decode prog_12_method_27_code 96 = .ok (.aload_n 0, 1) := by decide +kernel
theorem dd_mm_act_97 : decode prog_12_method_27_code 97 = .ok (.getfield 42, 3) := by decide +kernel
theorem dd_mm_act_100 : decode prog_12_method_27_code 100 = .ok (.iconst 4, 1) := by decide +kernel
theorem dd_mm_act_101 : decode prog_12_method_27_code 101 = .ok (.iload_n 2, 1) := by decide +kernel
theorem dd_mm_act_102 : decode prog_12_method_27_code 102 = .ok (.imul, 1) := by decide +kernel
theorem dd_mm_act_103 : decode prog_12_method_27_code 103 = .ok (.iload 4, 2) := by decide +kernel
theorem dd_mm_act_105 : decode prog_12_method_27_code 105 = .ok (.iadd, 1) := by decide +kernel
theorem dd_mm_act_106 : decode prog_12_method_27_code 106 = .ok (.aload_n 0, 1) := by decide +kernel
theorem dd_mm_act_107 : decode prog_12_method_27_code 107 = .ok (.getfield 172, 3) := by decide +kernel
theorem dd_mm_act_110 : decode prog_12_method_27_code 110 = .ok (.iastore, 1) := by decide +kernel
theorem dd_mm_act_111 : decode prog_12_method_27_code 111 = .ok (.goto 93, 3) := by decide +kernel
theorem dd_mm_act_114 : decode prog_12_method_27_code 114 = .ok (.aload_n 0, 1) := by decide +kernel
theorem dd_mm_act_115 : decode prog_12_method_27_code 115 = .ok (.aload_n 0, 1) := by decide +kernel
theorem dd_mm_act_116 : decode prog_12_method_27_code 116 = .ok (.getfield 42, 3) := by decide +kernel
theorem dd_mm_act_119 : decode prog_12_method_27_code 119 = .ok (.iconst 4, 1) := by decide +kernel
theorem dd_mm_act_120 : decode prog_12_method_27_code 120 = .ok (.iload_n 2, 1) := by decide +kernel
theorem dd_mm_act_121 : decode prog_12_method_27_code 121 = .ok (.imul, 1) := by decide +kernel
theorem dd_mm_act_122 : decode prog_12_method_27_code 122 = .ok (.iload 4, 2) := by decide +kernel
theorem dd_mm_act_124 : decode prog_12_method_27_code 124 = .ok (.iadd, 1) := by decide +kernel
theorem dd_mm_act_125 : decode prog_12_method_27_code 125 = .ok (.iaload, 1) := by decide +kernel
theorem dd_mm_act_126 : decode prog_12_method_27_code 126 = .ok (.putfield 172, 3) := by decide +kernel
theorem dd_mm_act_129 : decode prog_12_method_27_code 129 = .ok (.goto 75, 3) := by decide +kernel
theorem dd_mm_act_132 : decode prog_12_method_27_code 132 = .ok (.aload_n 0, 1) := by decide +kernel
theorem dd_mm_act_133 : decode prog_12_method_27_code 133 = .ok (.iload_n 2, 1) := by decide +kernel
theorem dd_mm_act_134 : decode prog_12_method_27_code 134 = .ok (.putfield 172, 3) := by decide +kernel
theorem dd_mm_act_137 : decode prog_12_method_27_code 137 = .ok (.goto 67, 3) := by decide +kernel
theorem dd_mm_act_140 : decode prog_12_method_27_code 140 = .ok (.aload_n 0, 1) := by decide +kernel
theorem dd_mm_act_141 : decode prog_12_method_27_code 141 = .ok (.aload_n 0, 1) := by decide +kernel
theorem dd_mm_act_142 : decode prog_12_method_27_code 142 = .ok (.iload_n 1, 1) := by decide +kernel
theorem dd_mm_act_143 : decode prog_12_method_27_code 143 = .ok (.iload 4, 2) := by decide +kernel
theorem dd_mm_act_145 : decode prog_12_method_27_code 145 = .ok (.invokevirtual 175, 3) := by decide +kernel
theorem dd_mm_act_148 : decode prog_12_method_27_code 148 = .ok (.putfield 172, 3) := by decide +kernel
theorem dd_mm_act_151 : decode prog_12_method_27_code 151 = .ok (.goto 53, 3) := by decide +kernel
theorem dd_mm_act_154 : decode prog_12_method_27_code 154 = .ok (.aload_n 0, 1) := by decide +kernel
theorem dd_mm_act_155 : decode prog_12_method_27_code 155 = .ok (.aload_n 0, 1) := by decide +kernel
theorem dd_mm_act_156 : decode prog_12_method_27_code 156 = .ok (.iload_n 1, 1) := by decide +kernel
theorem dd_mm_act_157 : decode prog_12_method_27_code 157 = .ok (.aload_n 0, 1) := by decide +kernel
theorem dd_mm_act_158 : decode prog_12_method_27_code 158 = .ok (.getfield 42, 3) := by decide +kernel
theorem dd_mm_act_161 : decode prog_12_method_27_code 161 = .ok (.iconst 4, 1) := by decide +kernel
theorem dd_mm_act_162 : decode prog_12_method_27_code 162 = .ok (.iload_n 2, 1) := by decide +kernel
theorem dd_mm_act_163 : decode prog_12_method_27_code 163 = .ok (.imul, 1) := by decide +kernel
theorem dd_mm_act_164 : decode prog_12_method_27_code 164 = .ok (.iload 4, 2) := by decide +kernel
theorem dd_mm_act_166 : decode prog_12_method_27_code 166 = .ok (.iadd, 1) := by decide +kernel
theorem dd_mm_act_167 : decode prog_12_method_27_code 167 = .ok (.iaload, 1) := by decide +kernel
theorem dd_mm_act_168 : decode prog_12_method_27_code 168 = .ok (.invokevirtual 179, 3) := by decide +kernel
theorem dd_mm_act_171 : decode prog_12_method_27_code 171 = .ok (.putfield 172, 3) := by decide +kernel
theorem dd_mm_act_174 : decode prog_12_method_27_code 174 = .ok (.goto 30, 3) := by decide +kernel
theorem dd_mm_act_177 : decode prog_12_method_27_code 177 = .ok (.aload_n 0, 1) := by decide +kernel
theorem dd_mm_act_178 : decode prog_12_method_27_code 178 = .ok (.getfield 169, 3) := by decide +kernel
theorem dd_mm_act_181 : decode prog_12_method_27_code 181 = .ok (.ifCond .ne 8, 3) := by decide +kernel
theorem dd_mm_act_184 : decode prog_12_method_27_code 184 = .ok (.iload 4, 2) := by decide +kernel
theorem dd_mm_act_186 : decode prog_12_method_27_code 186 = .ok (.goto 4, 3) := by decide +kernel
theorem dd_mm_act_189 : decode prog_12_method_27_code 189 = .ok (.iconst 0, 1) := by decide +kernel
theorem dd_mm_act_190 : decode prog_12_method_27_code 190 = .ok (.ireturn, 1) := by decide +kernel
theorem dd_mm_act_191 : decode prog_12_method_27_code 191 = .ok (.aload_n 0, 1) := by decide +kernel
theorem dd_mm_act_192 : decode prog_12_method_27_code 192 = .ok (.iload_n 1, 1) := by decide +kernel
theorem dd_mm_act_193 : decode prog_12_method_27_code 193 = .ok (.invokevirtual 182, 3) := by decide +kernel
theorem dd_mm_act_196 : decode prog_12_method_27_code 196 = .ok (.goto 8, 3) := by decide +kernel
theorem dd_mm_act_199 : decode prog_12_method_27_code 199 = .ok (.aload_n 0, 1) := by decide +kernel
theorem dd_mm_act_200 : decode prog_12_method_27_code 200 = .ok (.iconst 0, 1) := by decide +kernel
theorem dd_mm_act_201 : decode prog_12_method_27_code 201 = .ok (.putfield 172, 3) := by decide +kernel
theorem dd_mm_act_204 : decode prog_12_method_27_code 204 = .ok (.iconst 0, 1) := by decide +kernel
theorem dd_mm_act_205 : decode prog_12_method_27_code 205 = .ok (.ireturn, 1) := by decide +kernel
set_option maxHeartbeats 4000000 in
set_option maxRecDepth 100000 in
theorem kb_mm_act_b204 {p : Program} {l : Launch} {e : Env} {s : State} {m : MethodId} {args : Array Value} {below : List Frame} {meth : Method} {c : Code} {D : va_G} {ac : Nat → ClassId} {a0 : Nat} {gl : gl_T} {rF : Int32} {stF : st_S} {iT jT : Nat}
    (X : cx_ p s m args c prog_12_method_27_code 5 "PromiseVatsModel" tb_ D cl_ (ty_ ac)) (hKs : kn_ D ac a0 gl s) (hlk : meth.locks = false) (hret : meth.sig.returnType = (Option.some FieldType.int)) (hnm : meth.name = "act") : wk_ p l e 6 151 s m args below meth c D cl_ ac a0 5 vb_i rF stF iT jT 204 (fun x : Unit => []) (fun x : Unit => []) (fun _ : Unit => mm_act_b204 gl) := by
  intro x st H locs cells slots i j ls hw hl h hci hcj
  have h : mm_act_b204 gl  st = some (rF, stF, i, j) := h
  unfold mm_act_b204 at h
  have hl : lh_ ls 5 [] := hl
  refine W.eq (g2 := F0 m 204 ls []) rfl ?_
  refine lv_iconst (v := (0 : Int32)) X.1 X.2.1 dd_mm_act_204 (by decide) ?_
  obtain ⟨rfl, rfl, rfl, rfl⟩ := st_r_some h
  exact rr_iret X hw hlk hret rfl hci hcj dd_mm_act_205
set_option maxHeartbeats 4000000 in
set_option maxRecDepth 100000 in
theorem kc_mm_act (l : Launch) (D : va_G) (ac : Nat → ClassId) (a0 : Nat) (gl : gl_T) (v0 : Option Nat) (v1 : Int32) (v2 : Int32) (v3 : Int32) (v4 : Int32) (st : st_S) (rF : Int32) (stF : st_S) (iT jT : Nat) (h : mm_act gl v0 v1 v2 v3 v4 st = some (rF, stF, iT, jT)) :
    ct_ l ⟨"PromiseVatsModel", "act", "(IIII)I"⟩ (Cond.code ⟨"PromiseVatsModel", "act", "(IIII)I"⟩ prog_12_method_27_code 5 (Option.some FieldType.int) :: tb_) 6 151 D cl_ ac a0 (kn_ D ac a0 gl) [(va_rf v0), (.int v1), (.int v2), (.int v3), (.int v4)] st (vb_i rF) stF iT jT := by
  refine ct_of (kn_ok D ac a0 gl) (plainFor_of_name (by decide +kernel)) (by simp [rf_cat, ic_cat]) (by simp) ?_
  intro p e s m args below meth c ls X hw hKs hlk hret hnm hl
  unfold mm_act at h
  have hl : lh_ ls 5 [(0, (va_rf v0)), (1, (.int v1)), (2, (.int v2)), (3, (.int v3)), (4, (.int v4))] := hl
  obtain ⟨z0, hz0⟩ : ∃ z : Nat, 0 = z := ⟨0, rfl⟩
  obtain ⟨z1, hz1⟩ : ∃ z : Nat, 0 = z := ⟨0, rfl⟩
  refine W.cs hz0 hz1 ?_
  have hci : z0 + iT = iT := by omega
  have hcj : z1 + jT = jT := by omega
  refine lv_iload_n X.1 X.2.1 dd_mm_act_0 rfl (lv_at hl.1 3 rfl) ?_
  by_cases hc1_0 : v3 = (0 : Int32)
  · rw [if_pos hc1_0] at h
    refine lv_tableIn (tgt := 56) (off := 55) X.1 X.2.1 dd_mm_act_1 (by rw [hc1_0]; decide) (by rw [hc1_0]; decide) (by rw [hc1_0]; decide) (by decide) ?_
    refine rr_aldn X dd_mm_act_56 rfl (lv_at hl.1 0 rfl) ?_
    refine lv_iload X.1 X.2.1 dd_mm_act_57 (lv_at hl.1 4 rfl) ?_
    obtain ⟨t1, hp59, h⟩ := st_w_some h
    refine rr_put (ty := .int) X hw ff_10_34 hp59 tw_533 (Or.inl rfl) (by decide +kernel) rfl rfl dd_mm_act_59 (fun H locs hw => ?_)
    refine lv_goto (tgt := 204) X.1 X.2.1 dd_mm_act_62 (by decide) ?_
    exact (kb_mm_act_b204 X hKs hlk hret hnm) () _ _ _ _ _ _ _ _ hw (lh_pk hl [] rfl) h hci hcj
  · by_cases hc1_1 : v3 = (1 : Int32)
    · rw [if_neg hc1_0, if_pos hc1_1] at h
      refine lv_tableIn (tgt := 65) (off := 64) X.1 X.2.1 dd_mm_act_1 (by rw [hc1_1]; decide) (by rw [hc1_1]; decide) (by rw [hc1_1]; decide) (by decide) ?_
      refine rr_aldn X dd_mm_act_65 rfl (lv_at hl.1 0 rfl) ?_
      refine rr_aldn X dd_mm_act_66 rfl (lv_at hl.1 0 rfl) ?_
      obtain ⟨t2, ht2, h⟩ := st_g_some h
      refine rr_geti X hw ff_10_34 ht2 tw_533 (Or.inl rfl) dd_mm_act_67 ?_
      refine rr_aldn X dd_mm_act_70 rfl (lv_at hl.1 0 rfl) ?_
      obtain ⟨t3, ht3, h⟩ := st_g_some h
      refine rr_getq X hw ff_10_12 ht3 tw_455 (Or.inl rfl) dd_mm_act_71 ?_
      refine lv_iload_n X.1 X.2.1 dd_mm_act_74 rfl (lv_at hl.1 2 rfl) ?_
      obtain ⟨t4, ht4, h⟩ := st_g_some h
      refine rr_iald (t := 0) X hw rfl ht4 dd_mm_act_75 ?_
      refine lv_iadd X.1 X.2.1 dd_mm_act_76 ?_
      obtain ⟨t5, hp77, h⟩ := st_w_some h
      refine rr_put (ty := .int) X hw ff_10_34 hp77 tw_533 (Or.inl rfl) (by decide +kernel) rfl rfl dd_mm_act_77 (fun H locs hw => ?_)
      refine lv_goto (tgt := 204) X.1 X.2.1 dd_mm_act_80 (by decide) ?_
      exact (kb_mm_act_b204 X hKs hlk hret hnm) () _ _ _ _ _ _ _ _ hw (lh_pk hl [] rfl) h hci hcj
    · by_cases hc1_2 : v3 = (2 : Int32)
      · rw [if_neg hc1_0, if_neg hc1_1, if_pos hc1_2] at h
        refine lv_tableIn (tgt := 83) (off := 82) X.1 X.2.1 dd_mm_act_1 (by rw [hc1_2]; decide) (by rw [hc1_2]; decide) (by rw [hc1_2]; decide) (by decide) ?_
        refine rr_aldn X dd_mm_act_83 rfl (lv_at hl.1 0 rfl) ?_
        obtain ⟨t6, ht6, h⟩ := st_g_some h
        refine rr_getq X hw ff_10_12 ht6 tw_455 (Or.inl rfl) dd_mm_act_84 ?_
        refine lv_iload_n X.1 X.2.1 dd_mm_act_87 rfl (lv_at hl.1 2 rfl) ?_
        refine rr_aldn X dd_mm_act_88 rfl (lv_at hl.1 0 rfl) ?_
        obtain ⟨t7, ht7, h⟩ := st_g_some h
        refine rr_geti X hw ff_10_34 ht7 tw_533 (Or.inl rfl) dd_mm_act_89 ?_
        obtain ⟨t8, hp92, h⟩ := st_w_some h
        refine rr_iast (t := 0) X hw rfl hp92 dd_mm_act_92 (fun H locs hw => ?_)
        refine lv_goto (tgt := 204) X.1 X.2.1 dd_mm_act_93 (by decide) ?_
        exact (kb_mm_act_b204 X hKs hlk hret hnm) () _ _ _ _ _ _ _ _ hw (lh_pk hl [] rfl) h hci hcj
      · by_cases hc1_3 : v3 = (3 : Int32)
        · rw [if_neg hc1_0, if_neg hc1_1, if_neg hc1_2, if_pos hc1_3] at h
          refine lv_tableIn (tgt := 96) (off := 95) X.1 X.2.1 dd_mm_act_1 (by rw [hc1_3]; decide) (by rw [hc1_3]; decide) (by rw [hc1_3]; decide) (by decide) ?_
          refine rr_aldn X dd_mm_act_96 rfl (lv_at hl.1 0 rfl) ?_
          obtain ⟨t9, ht9, h⟩ := st_g_some h
          refine rr_getq X hw ff_10_13 ht9 tw_454 (Or.inl rfl) dd_mm_act_97 ?_
          refine lv_iconst (v := (4 : Int32)) X.1 X.2.1 dd_mm_act_100 (by decide) ?_
          refine lv_iload_n X.1 X.2.1 dd_mm_act_101 rfl (lv_at hl.1 2 rfl) ?_
          refine lv_imul X.1 X.2.1 dd_mm_act_102 ?_
          refine lv_iload X.1 X.2.1 dd_mm_act_103 (lv_at hl.1 4 rfl) ?_
          refine lv_iadd X.1 X.2.1 dd_mm_act_105 ?_
          refine rr_aldn X dd_mm_act_106 rfl (lv_at hl.1 0 rfl) ?_
          obtain ⟨t10, ht10, h⟩ := st_g_some h
          refine rr_geti X hw ff_10_35 ht10 tw_532 (Or.inl rfl) dd_mm_act_107 ?_
          obtain ⟨t11, hp110, h⟩ := st_w_some h
          refine rr_iast (t := 0) X hw rfl hp110 dd_mm_act_110 (fun H locs hw => ?_)
          refine lv_goto (tgt := 204) X.1 X.2.1 dd_mm_act_111 (by decide) ?_
          exact (kb_mm_act_b204 X hKs hlk hret hnm) () _ _ _ _ _ _ _ _ hw (lh_pk hl [] rfl) h hci hcj
        · by_cases hc1_4 : v3 = (4 : Int32)
          · rw [if_neg hc1_0, if_neg hc1_1, if_neg hc1_2, if_neg hc1_3, if_pos hc1_4] at h
            refine lv_tableIn (tgt := 114) (off := 113) X.1 X.2.1 dd_mm_act_1 (by rw [hc1_4]; decide) (by rw [hc1_4]; decide) (by rw [hc1_4]; decide) (by decide) ?_
            refine rr_aldn X dd_mm_act_114 rfl (lv_at hl.1 0 rfl) ?_
            refine rr_aldn X dd_mm_act_115 rfl (lv_at hl.1 0 rfl) ?_
            obtain ⟨t12, ht12, h⟩ := st_g_some h
            refine rr_getq X hw ff_10_13 ht12 tw_454 (Or.inl rfl) dd_mm_act_116 ?_
            refine lv_iconst (v := (4 : Int32)) X.1 X.2.1 dd_mm_act_119 (by decide) ?_
            refine lv_iload_n X.1 X.2.1 dd_mm_act_120 rfl (lv_at hl.1 2 rfl) ?_
            refine lv_imul X.1 X.2.1 dd_mm_act_121 ?_
            refine lv_iload X.1 X.2.1 dd_mm_act_122 (lv_at hl.1 4 rfl) ?_
            refine lv_iadd X.1 X.2.1 dd_mm_act_124 ?_
            obtain ⟨t13, ht13, h⟩ := st_g_some h
            refine rr_iald (t := 0) X hw rfl ht13 dd_mm_act_125 ?_
            obtain ⟨t14, hp126, h⟩ := st_w_some h
            refine rr_put (ty := .int) X hw ff_10_35 hp126 tw_532 (Or.inl rfl) (by decide +kernel) rfl rfl dd_mm_act_126 (fun H locs hw => ?_)
            refine lv_goto (tgt := 204) X.1 X.2.1 dd_mm_act_129 (by decide) ?_
            exact (kb_mm_act_b204 X hKs hlk hret hnm) () _ _ _ _ _ _ _ _ hw (lh_pk hl [] rfl) h hci hcj
          · by_cases hc1_5 : v3 = (5 : Int32)
            · rw [if_neg hc1_0, if_neg hc1_1, if_neg hc1_2, if_neg hc1_3, if_neg hc1_4, if_pos hc1_5] at h
              refine lv_tableIn (tgt := 132) (off := 131) X.1 X.2.1 dd_mm_act_1 (by rw [hc1_5]; decide) (by rw [hc1_5]; decide) (by rw [hc1_5]; decide) (by decide) ?_
              refine rr_aldn X dd_mm_act_132 rfl (lv_at hl.1 0 rfl) ?_
              refine lv_iload_n X.1 X.2.1 dd_mm_act_133 rfl (lv_at hl.1 2 rfl) ?_
              obtain ⟨t15, hp134, h⟩ := st_w_some h
              refine rr_put (ty := .int) X hw ff_10_35 hp134 tw_532 (Or.inl rfl) (by decide +kernel) rfl rfl dd_mm_act_134 (fun H locs hw => ?_)
              refine lv_goto (tgt := 204) X.1 X.2.1 dd_mm_act_137 (by decide) ?_
              exact (kb_mm_act_b204 X hKs hlk hret hnm) () _ _ _ _ _ _ _ _ hw (lh_pk hl [] rfl) h hci hcj
            · by_cases hc1_6 : v3 = (6 : Int32)
              · rw [if_neg hc1_0, if_neg hc1_1, if_neg hc1_2, if_neg hc1_3, if_neg hc1_4, if_neg hc1_5, if_pos hc1_6] at h
                refine lv_tableIn (tgt := 140) (off := 139) X.1 X.2.1 dd_mm_act_1 (by rw [hc1_6]; decide) (by rw [hc1_6]; decide) (by rw [hc1_6]; decide) (by decide) ?_
                refine rr_aldn X dd_mm_act_140 rfl (lv_at hl.1 0 rfl) ?_
                refine rr_aldn X dd_mm_act_141 rfl (lv_at hl.1 0 rfl) ?_
                refine lv_iload_n X.1 X.2.1 dd_mm_act_142 rfl (lv_at hl.1 1 rfl) ?_
                refine lv_iload X.1 X.2.1 dd_mm_act_143 (lv_at hl.1 4 rfl) ?_
                obtain ⟨t25, ht25, h⟩ := st_g_some h
                obtain ⟨t16, t17, t18, t19, t20, t21, ht16, h, ei, ej⟩ := st_b_some h
                refine rr_callV (n := 2) (As := [(.int v1), (.int v4)]) (rest := [(va_rf v0)]) X hw (kn_ok D ac a0 gl) hKs (kc_mm_fresh l D ac a0 gl v0 v1 v4 _ _ _ _ _ ht16) tb_good tw_535 tw_469 tw_536 tw_537 se_58 ht25 (by decide +kernel) rfl (show 0 + 1 ≤ _ ∧ 8 + (3 + 11) + 0 ≤ _ from ⟨Nat.le_of_ble_eq_true rfl, Nat.le_of_ble_eq_true rfl⟩) (show z0 + t18 ≤ iT ∧ z1 + t19 ≤ jT from ⟨ar_1 hci ei, ar_1 hcj ej⟩) hl.1.1 (by simp [rf_cat, ic_cat]) rfl dd_mm_act_145 (sk := [(.int t16), (va_rf v0)]) rfl (fun H locs hw => ?_)
                have hci : z0 + t18 + t20 = iT := ar_2 hci ei
                have hcj : z1 + t19 + t21 = jT := ar_2 hcj ej
                clear ei ej
                generalize z0 + t18 = t22 at hci ⊢
                generalize z1 + t19 = t23 at hcj ⊢
                obtain ⟨t24, hp148, h⟩ := st_w_some h
                refine rr_put (ty := .int) X hw ff_10_35 hp148 tw_532 (Or.inl rfl) (by decide +kernel) rfl rfl dd_mm_act_148 (fun H locs hw => ?_)
                refine lv_goto (tgt := 204) X.1 X.2.1 dd_mm_act_151 (by decide) ?_
                exact (kb_mm_act_b204 X hKs hlk hret hnm) () _ _ _ _ _ _ _ _ hw (lh_pk hl [] rfl) h hci hcj
              · by_cases hc1_7 : v3 = (7 : Int32)
                · rw [if_neg hc1_0, if_neg hc1_1, if_neg hc1_2, if_neg hc1_3, if_neg hc1_4, if_neg hc1_5, if_neg hc1_6, if_pos hc1_7] at h
                  refine lv_tableIn (tgt := 154) (off := 153) X.1 X.2.1 dd_mm_act_1 (by rw [hc1_7]; decide) (by rw [hc1_7]; decide) (by rw [hc1_7]; decide) (by decide) ?_
                  refine rr_aldn X dd_mm_act_154 rfl (lv_at hl.1 0 rfl) ?_
                  refine rr_aldn X dd_mm_act_155 rfl (lv_at hl.1 0 rfl) ?_
                  refine lv_iload_n X.1 X.2.1 dd_mm_act_156 rfl (lv_at hl.1 1 rfl) ?_
                  refine rr_aldn X dd_mm_act_157 rfl (lv_at hl.1 0 rfl) ?_
                  obtain ⟨t26, ht26, h⟩ := st_g_some h
                  refine rr_getq X hw ff_10_13 ht26 tw_454 (Or.inl rfl) dd_mm_act_158 ?_
                  refine lv_iconst (v := (4 : Int32)) X.1 X.2.1 dd_mm_act_161 (by decide) ?_
                  refine lv_iload_n X.1 X.2.1 dd_mm_act_162 rfl (lv_at hl.1 2 rfl) ?_
                  refine lv_imul X.1 X.2.1 dd_mm_act_163 ?_
                  refine lv_iload X.1 X.2.1 dd_mm_act_164 (lv_at hl.1 4 rfl) ?_
                  refine lv_iadd X.1 X.2.1 dd_mm_act_166 ?_
                  obtain ⟨t27, ht27, h⟩ := st_g_some h
                  refine rr_iald (t := 0) X hw rfl ht27 dd_mm_act_167 ?_
                  obtain ⟨t37, ht37, h⟩ := st_g_some h
                  obtain ⟨t28, t29, t30, t31, t32, t33, ht28, h, ei, ej⟩ := st_b_some h
                  refine rr_callV (n := 2) (As := [(.int v1), (.int t27)]) (rest := [(va_rf v0)]) X hw (kn_ok D ac a0 gl) hKs (kc_mm_send l D ac a0 gl v0 v1 t27 _ _ _ _ _ ht28) tb_good tw_539 tw_469 tw_540 tw_541 se_59 ht37 (by decide +kernel) rfl (show 5 + 1 ≤ _ ∧ 8 + (5 + 11) + 127 ≤ _ from ⟨Nat.le_of_ble_eq_true rfl, Nat.le_of_ble_eq_true rfl⟩) (show z0 + t30 ≤ iT ∧ z1 + t31 ≤ jT from ⟨ar_1 hci ei, ar_1 hcj ej⟩) hl.1.1 (by simp [rf_cat, ic_cat]) rfl dd_mm_act_168 (sk := [(.int t28), (va_rf v0)]) rfl (fun H locs hw => ?_)
                  have hci : z0 + t30 + t32 = iT := ar_2 hci ei
                  have hcj : z1 + t31 + t33 = jT := ar_2 hcj ej
                  clear ei ej
                  generalize z0 + t30 = t34 at hci ⊢
                  generalize z1 + t31 = t35 at hcj ⊢
                  obtain ⟨t36, hp171, h⟩ := st_w_some h
                  refine rr_put (ty := .int) X hw ff_10_35 hp171 tw_532 (Or.inl rfl) (by decide +kernel) rfl rfl dd_mm_act_171 (fun H locs hw => ?_)
                  refine lv_goto (tgt := 204) X.1 X.2.1 dd_mm_act_174 (by decide) ?_
                  exact (kb_mm_act_b204 X hKs hlk hret hnm) () _ _ _ _ _ _ _ _ hw (lh_pk hl [] rfl) h hci hcj
                · by_cases hc1_8 : v3 = (8 : Int32)
                  · rw [if_neg hc1_0, if_neg hc1_1, if_neg hc1_2, if_neg hc1_3, if_neg hc1_4, if_neg hc1_5, if_neg hc1_6, if_neg hc1_7, if_pos hc1_8] at h
                    refine lv_tableIn (tgt := 177) (off := 176) X.1 X.2.1 dd_mm_act_1 (by rw [hc1_8]; decide) (by rw [hc1_8]; decide) (by rw [hc1_8]; decide) (by decide) ?_
                    refine rr_aldn X dd_mm_act_177 rfl (lv_at hl.1 0 rfl) ?_
                    obtain ⟨t38, ht38, h⟩ := st_g_some h
                    refine rr_geti X hw ff_10_34 ht38 tw_533 (Or.inl rfl) dd_mm_act_178 ?_
                    by_cases hc181 : t38 = 0
                    · rw [if_pos hc181] at h
                      refine lv_if_ne (tgt := 189) X.1 X.2.1 dd_mm_act_181 (by decide) (fun z => absurd hc181 z) (fun _ => ?_)
                      refine lv_iload X.1 X.2.1 dd_mm_act_184 (lv_at hl.1 4 rfl) ?_
                      refine lv_goto (tgt := 190) X.1 X.2.1 dd_mm_act_186 (by decide) ?_
                      obtain ⟨rfl, rfl, rfl, rfl⟩ := st_r_some h
                      exact rr_iret X hw hlk hret rfl hci hcj dd_mm_act_190
                    · rw [if_neg hc181] at h
                      refine lv_if_ne (tgt := 189) X.1 X.2.1 dd_mm_act_181 (by decide) (fun _ => ?_) (fun z => absurd z hc181)
                      refine lv_iconst (v := (0 : Int32)) X.1 X.2.1 dd_mm_act_189 (by decide) ?_
                      obtain ⟨rfl, rfl, rfl, rfl⟩ := st_r_some h
                      exact rr_iret X hw hlk hret rfl hci hcj dd_mm_act_190
                  · by_cases hc1_9 : v3 = (9 : Int32)
                    · rw [if_neg hc1_0, if_neg hc1_1, if_neg hc1_2, if_neg hc1_3, if_neg hc1_4, if_neg hc1_5, if_neg hc1_6, if_neg hc1_7, if_neg hc1_8, if_pos hc1_9] at h
                      refine lv_tableIn (tgt := 191) (off := 190) X.1 X.2.1 dd_mm_act_1 (by rw [hc1_9]; decide) (by rw [hc1_9]; decide) (by rw [hc1_9]; decide) (by decide) ?_
                      refine rr_aldn X dd_mm_act_191 rfl (lv_at hl.1 0 rfl) ?_
                      refine lv_iload_n X.1 X.2.1 dd_mm_act_192 rfl (lv_at hl.1 1 rfl) ?_
                      obtain ⟨t47, ht47, h⟩ := st_g_some h
                      obtain ⟨t39, t40, t41, t42, t43, t44, ht39, h, ei, ej⟩ := st_b_some h
                      refine rr_callV (n := 1) (As := [(.int v1)]) (rest := []) X hw (kn_ok D ac a0 gl) hKs (kc_mm_put l D ac a0 gl v0 v1 _ _ _ _ _ ht39) tb_good tw_543 tw_469 tw_544 tw_545 se_60 ht47 (by decide +kernel) rfl (show 0 + 1 ≤ _ ∧ 8 + (2 + 11) + 0 ≤ _ from ⟨Nat.le_of_ble_eq_true rfl, Nat.le_of_ble_eq_true rfl⟩) (show z0 + t41 ≤ iT ∧ z1 + t42 ≤ jT from ⟨ar_1 hci ei, ar_1 hcj ej⟩) hl.1.1 (by simp [rf_cat, ic_cat]) rfl dd_mm_act_193 (sk := []) rfl (fun H locs hw => ?_)
                      have hci : z0 + t41 + t43 = iT := ar_2 hci ei
                      have hcj : z1 + t42 + t44 = jT := ar_2 hcj ej
                      clear ei ej
                      generalize z0 + t41 = t45 at hci ⊢
                      generalize z1 + t42 = t46 at hcj ⊢
                      refine lv_goto (tgt := 204) X.1 X.2.1 dd_mm_act_196 (by decide) ?_
                      exact (kb_mm_act_b204 X hKs hlk hret hnm) () _ _ _ _ _ _ _ _ hw (lh_pk hl [] rfl) h hci hcj
                    · rw [if_neg hc1_0, if_neg hc1_1, if_neg hc1_2, if_neg hc1_3, if_neg hc1_4, if_neg hc1_5, if_neg hc1_6, if_neg hc1_7, if_neg hc1_8, if_neg hc1_9] at h
                      have zn0 := lv_neT hc1_0 (show ((0 : Int32)).toInt = 0 by decide)
                      have zn1 := lv_neT hc1_1 (show ((1 : Int32)).toInt = 1 by decide)
                      have zn2 := lv_neT hc1_2 (show ((2 : Int32)).toInt = 2 by decide)
                      have zn3 := lv_neT hc1_3 (show ((3 : Int32)).toInt = 3 by decide)
                      have zn4 := lv_neT hc1_4 (show ((4 : Int32)).toInt = 4 by decide)
                      have zn5 := lv_neT hc1_5 (show ((5 : Int32)).toInt = 5 by decide)
                      have zn6 := lv_neT hc1_6 (show ((6 : Int32)).toInt = 6 by decide)
                      have zn7 := lv_neT hc1_7 (show ((7 : Int32)).toInt = 7 by decide)
                      have zn8 := lv_neT hc1_8 (show ((8 : Int32)).toInt = 8 by decide)
                      have zn9 := lv_neT hc1_9 (show ((9 : Int32)).toInt = 9 by decide)
                      refine lv_tableOut (tgt := 199) X.1 X.2.1 dd_mm_act_1 (by omega) (by decide) ?_
                      refine rr_aldn X dd_mm_act_199 rfl (lv_at hl.1 0 rfl) ?_
                      refine lv_iconst (v := (0 : Int32)) X.1 X.2.1 dd_mm_act_200 (by decide) ?_
                      obtain ⟨t48, hp201, h⟩ := st_w_some h
                      refine rr_put (ty := .int) X hw ff_10_35 hp201 tw_532 (Or.inl rfl) (by decide +kernel) rfl rfl dd_mm_act_201 (fun H locs hw => ?_)
                      exact (kb_mm_act_b204 X hKs hlk hret hnm) () _ _ _ _ _ _ _ _ hw (lh_pk hl [] rfl) h hci hcj
