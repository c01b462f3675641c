/-! PromiseVats.perform(LPromiseVats$Turn;II)V -/
theorem dd_xP_perform_0 : decode prog_1_method_26_code 0 = .ok (.aload_n 1, 1) := by decide +kernel
theorem dd_xP_perform_1 : decode prog_1_method_26_code 1 = .ok (.getfield 243, 3) := by decide +kernel
theorem dd_xP_perform_4 : decode prog_1_method_26_code 4 = .ok (.astore 4, 2) := by decide +kernel
theorem dd_xP_perform_6 : decode prog_1_method_26_code 6 = .ok (.iload_n 2, 1) := by decide +kernel
theorem dd_xP_perform_7 : decode prog_1_method_26_code 7 = .ok (.tableswitch 198 0 9 #[53, 61, 78, 90, 104, 118, 127, 140, 159, 178], 53) := by decide +kernel
theorem dd_xP_perform_60 : decode prog_1_method_26_code 60 = .ok (.aload_n 1, 1) := by decide +kernel
theorem dd_xP_perform_61 : decode prog_1_method_26_code 61 = .ok (.iload_n 3, 1) := by decide +kernel
theorem dd_xP_perform_62 : decode prog_1_method_26_code 62 = .ok (.putfield 246, 3) := by decide +kernel
theorem dd_xP_perform_65 : decode prog_1_method_26_code 65 = .ok (.goto 145, 3) := by decide +kernel
theorem dd_xP_perform_68 : decode prog_1_method_26_code 68 = .ok (.aload_n 1, 1) := by decide +kernel
theorem dd_xP_perform_69 : decode prog_1_method_26_code 69 = .ok (.dup, 1) := by decide +kernel
theorem dd_xP_perform_70 : decode prog_1_method_26_code 70 = .ok (.getfield 246, 3) := by decide +kernel
theorem dd_xP_perform_73 : decode prog_1_method_26_code 73 = .ok (.aload 4, 2) := by decide +kernel
theorem dd_xP_perform_75 : decode prog_1_method_26_code 75 = .ok (.getfield 226, 3) := by decide +kernel
theorem dd_xP_perform_78 : decode prog_1_method_26_code 78 = .ok (.iadd, 1) := by decide +kernel
theorem dd_xP_perform_79 : decode prog_1_method_26_code 79 = .ok (.putfield 246, 3) := by decide +kernel
theorem dd_xP_perform_82 : decode prog_1_method_26_code 82 = .ok (.goto 128, 3) := by decide +kernel
theorem dd_xP_perform_85 : decode prog_1_method_26_code 85 = .ok (.aload 4, 2) := by decide +kernel
theorem dd_xP_perform_87 : decode prog_1_method_26_code 87 = .ok (.aload_n 1, 1) := by decide +kernel
theorem dd_xP_perform_88 : decode prog_1_method_26_code 88 = .ok (.getfield 246, 3) := by decide +kernel
theorem dd_xP_perform_91 : decode prog_1_method_26_code 91 = .ok (.putfield 226, 3) := by decide +kernel
theorem dd_xP_perform_94 : decode prog_1_method_26_code 94 = .ok (.goto 116, 3) := by decide +kernel
theorem dd_xP_perform_97 : decode prog_1_method_26_code 97 = .ok (.aload 4, 2) := by decide +kernel
theorem dd_xP_perform_99 : decode prog_1_method_26_code 99 = .ok (.getfield 93, 3) := by decide +kernel
theorem dd_xP_perform_102 : decode prog_1_method_26_code 102 = .ok (.iload_n 3, 1) := by decide +kernel
theorem dd_xP_perform_103 : decode prog_1_method_26_code 103 = .ok (.aload_n 1, 1) := by decide +kernel
theorem dd_xP_perform_104 : decode prog_1_method_26_code 104 = .ok (.getfield 155, 3) := by decide +kernel
theorem dd_xP_perform_107 : decode prog_1_method_26_code 107 = .ok (.aastore, 1) := by decide +kernel
theorem dd_xP_perform_108 : decode prog_1_method_26_code 108 = .ok (.goto 102, 3) := by decide +kernel
theorem dd_xP_perform_111 : decode prog_1_method_26_code 111 = .ok (.aload_n 1, 1) := by decide +kernel
theorem dd_xP_perform_112 : decode prog_1_method_26_code 112 = .ok (.aload 4, 2) := by decide +kernel
theorem dd_xP_perform_114 : decode prog_1_method_26_code 114 = .ok (.getfield 93, 3) := by decide +kernel
theorem dd_xP_perform_117 : decode prog_1_method_26_code 117 = .ok (.iload_n 3, 1) := by decide +kernel
theorem dd_xP_perform_118 : decode prog_1_method_26_code 118 = .ok (.aaload, 1) := by decide +kernel
theorem dd_xP_perform_119 : decode prog_1_method_26_code 119 = .ok (.putfield 155, 3) := by decide +kernel
theorem dd_xP_perform_122 : decode prog_1_method_26_code 122 = .ok (.goto 88, 3) := by decide +kernel
theorem dd_xP_perform_125 : decode prog_1_method_26_code 125 = .ok (.aload_n 1, 1) := by decide +kernel
theorem dd_xP_perform_126 : decode prog_1_method_26_code 126 = .ok (.aload 4, 2) := by decide +kernel
theorem dd_xP_perform_128 : decode prog_1_method_26_code 128 = .ok (.putfield 155, 3) := by decide +kernel
theorem dd_xP_perform_131 : decode prog_1_method_26_code 131 = .ok (.goto 79, 3) := by decide +kernel
theorem dd_xP_perform_134 : decode prog_1_method_26_code 134 = .ok (.aload_n 1, 1) := by decide +kernel
theorem dd_xP_perform_135 : decode prog_1_method_26_code 135 = .ok (.aload_n 0, 1) := by decide +kernel
theorem dd_xP_perform_136 : decode prog_1_method_26_code 136 = .ok (.aload_n 1, 1) := by decide +kernel
theorem dd_xP_perform_137 : decode prog_1_method_26_code 137 = .ok (.iload_n 3, 1) := by decide +kernel
theorem dd_xP_perform_138 : decode prog_1_method_26_code 138 = .ok (.invokevirtual 249, 3) := by decide +kernel
theorem dd_xP_perform_141 : decode prog_1_method_26_code 141 = .ok (.putfield 155, 3) := by decide +kernel
theorem dd_xP_perform_144 : decode prog_1_method_26_code 144 = .ok (.goto 66, 3) := by decide +kernel
theorem dd_xP_perform_147 : decode prog_1_method_26_code 147 = .ok (.aload_n 1, 1) := by decide +kernel
theorem dd_xP_perform_148 : decode prog_1_method_26_code 148 = .ok (.aload_n 0, 1) := by decide +kernel
theorem dd_xP_perform_149 : decode prog_1_method_26_code 149 = .ok (.aload_n 1, 1) := by decide +kernel
theorem dd_xP_perform_150 : decode prog_1_method_26_code 150 = .ok (.aload 4, 2) := by decide +kernel
theorem dd_xP_perform_152 : decode prog_1_method_26_code 152 = .ok (.getfield 93, 3) := by decide +kernel
theorem dd_xP_perform_155 : decode prog_1_method_26_code 155 = .ok (.iload_n 3, 1) := by decide +kernel
theorem dd_xP_perform_156 : decode prog_1_method_26_code 156 = .ok (.aaload, 1) := by decide +kernel
theorem dd_xP_perform_157 : decode prog_1_method_26_code 157 = .ok (.invokevirtual 253, 3) := by decide +kernel
theorem dd_xP_perform_160 : decode prog_1_method_26_code 160 = .ok (.putfield 155, 3) := by decide +kernel
theorem dd_xP_perform_163 : decode prog_1_method_26_code 163 = .ok (.goto 47, 3) := by decide +kernel
theorem dd_xP_perform_166 : decode prog_1_method_26_code 166 = .ok (.aload_n 1, 1) := by decide +kernel
theorem dd_xP_perform_167 : decode prog_1_method_26_code 167 = .ok (.aload_n 1, 1) := by decide +kernel
theorem dd_xP_perform_168 : decode prog_1_method_26_code 168 = .ok (.getfield 246, 3) := by decide +kernel
theorem dd_xP_perform_171 : decode prog_1_method_26_code 171 = .ok (.ifCond .ne 7, 3) := by decide +kernel
theorem dd_xP_perform_174 : decode prog_1_method_26_code 174 = .ok (.iload_n 3, 1) := by decide +kernel
theorem dd_xP_perform_175 : decode prog_1_method_26_code 175 = .ok (.goto 4, 3) := by decide +kernel
theorem dd_xP_perform_178 : decode prog_1_method_26_code 178 = .ok (.iconst 0, 1) := by decide +kernel
theorem dd_xP_perform_179 : decode prog_1_method_26_code 179 = .ok (.putfield 140, 3) := by decide +kernel
theorem dd_xP_perform_182 : decode prog_1_method_26_code 182 = .ok (.goto 28, 3) := by decide +kernel
theorem dd_xP_perform_185 : decode prog_1_method_26_code 185 = .ok (.aload_n 0, 1) := by decide +kernel
theorem dd_xP_perform_186 : decode prog_1_method_26_code 186 = .ok (.getfield 20, 3) := by decide +kernel
theorem dd_xP_perform_189 : decode prog_1_method_26_code 189 = .ok (.aload 4, 2) := by decide +kernel
theorem dd_xP_perform_191 : decode prog_1_method_26_code 191 = .ok (.getfield 257, 3) := by decide +kernel
theorem dd_xP_perform_194 : decode prog_1_method_26_code 194 = .ok (.aaload, 1) := by decide +kernel
theorem dd_xP_perform_195 : decode prog_1_method_26_code 195 = .ok (.aload_n 1, 1) := by decide +kernel
theorem dd_xP_perform_196 : decode prog_1_method_26_code 196 = .ok (.getfield 246, 3) := by decide +kernel
theorem dd_xP_perform_199 : decode prog_1_method_26_code 199 = .ok (.invokevirtual 258, 3) := by decide +kernel
theorem dd_xP_perform_202 : decode prog_1_method_26_code 202 = .ok (.goto 8, 3) := by decide +kernel
theorem dd_xP_perform_205 : decode prog_1_method_26_code 205 = .ok (.aload_n 1, 1) := by decide +kernel
theorem dd_xP_perform_206 : decode prog_1_method_26_code 206 = .ok (.aconst_null, 1) := by decide +kernel
theorem dd_xP_perform_207 : decode prog_1_method_26_code 207 = .ok (.putfield 155, 3) := by decide +kernel
theorem dd_xP_perform_210 : decode prog_1_method_26_code 210 = .ok (.return_, 1) := by decide +kernel
set_option maxHeartbeats 4000000 in
set_option maxRecDepth 100000 in
theorem kb_xP_perform_b179 {p : Program} {l : Launch} {e : Env} {s : State} {m : MethodId} {args : Array Value} {below : List Frame} {meth : Method} {c : Code} {D : va_G} {ac : Nat → ClassId} {a0 : Nat} {gl : gl_T} {rF : Unit} {stF : st_S} {iT jT : Nat}
    (X : cx_ p s m args c prog_1_method_26_code 5 "PromiseVats" tb_ D cl_ (ty_ ac)) (hKs : kn_ D ac a0 gl s) (hlk : meth.locks = false) (hret : meth.sig.returnType = (Option.none : Option FieldType)) (hnm : meth.name = "perform") : wk_ p l e 12 311 s m args below meth c D cl_ ac a0 5 vb_u rF stF iT jT 179 (fun x : Int32 × Option Nat => []) (fun x : Int32 × Option Nat => [(.int x.1), (va_rf x.2)]) (fun x : Int32 × Option Nat => xP_perform_b179 gl x.1 x.2) := by
  intro x st H locs cells slots i j ls hw hl h hci hcj
  obtain ⟨q0, q1⟩ := x
  have h : xP_perform_b179 gl q0 q1 st = some (rF, stF, i, j) := h
  unfold xP_perform_b179 at h
  have hl : lh_ ls 5 [] := hl
  refine W.eq (g2 := F0 m 179 ls [(.int q0), (va_rf q1)]) rfl ?_
  obtain ⟨t52, hp179, h⟩ := st_w_some h
  refine rr_put (ty := .int) X hw ff_1_3 hp179 tw_283 (Or.inl rfl) (by decide +kernel) rfl rfl dd_xP_perform_179 (fun H locs hw => ?_)
  refine lv_goto (tgt := 210) X.1 X.2.1 dd_xP_perform_182 (by decide) ?_
  obtain ⟨rfl, rfl, rfl, rfl⟩ := st_r_some h
  exact rr_vret X hw hlk hret hci hcj dd_xP_perform_210
set_option maxHeartbeats 4000000 in
set_option maxRecDepth 100000 in
theorem kc_xP_perform (l : Launch) (D : va_G) (ac : Nat → ClassId) (a0 : Nat) (gl : gl_T) (v0 : Option Nat) (v1 : Option Nat) (v2 : Int32) (v3 : Int32) (st : st_S) (rF : Unit) (stF : st_S) (iT jT : Nat) (h : xP_perform gl v0 v1 v2 v3 st = some (rF, stF, iT, jT)) :
    ct_ l ⟨"PromiseVats", "perform", "(LPromiseVats$Turn;II)V"⟩ (Cond.code ⟨"PromiseVats", "perform", "(LPromiseVats$Turn;II)V"⟩ prog_1_method_26_code 5 (Option.none : Option FieldType) :: tb_) 12 311 D cl_ ac a0 (kn_ D ac a0 gl) [(va_rf v0), (va_rf v1), (.int v2), (.int v3)] st (vb_u rF) stF iT jT := by
  refine ct_of (kn_ok D ac a0 gl) (plainFor_of_name (by decide +kernel)) (by simp [rf_cat, ic_cat]) (by simp) ?_
  intro p e s m args below meth c ls X hw hKs hlk hret hnm hl
  unfold xP_perform at h
  have hl : lh_ ls 5 [(0, (va_rf v0)), (1, (va_rf v1)), (2, (.int v2)), (3, (.int v3))] := hl
  obtain ⟨z0, hz0⟩ : ∃ z : Nat, 0 = z := ⟨0, rfl⟩
  obtain ⟨z1, hz1⟩ : ∃ z : Nat, 0 = z := ⟨0, rfl⟩
  refine W.cs hz0 hz1 ?_
  have hci : z0 + iT = iT := by omega
  have hcj : z1 + jT = jT := by omega
  refine rr_aldn X dd_xP_perform_0 rfl (lv_at hl.1 1 rfl) ?_
  obtain ⟨t1, ht1, h⟩ := st_g_some h
  refine rr_getq X hw ff_1_0 ht1 tw_251 (Or.inl rfl) dd_xP_perform_1 ?_
  refine rr_ast (lv' := [(4, (va_rf t1)), (0, (va_rf v0)), (1, (va_rf v1)), (2, (.int v2)), (3, (.int v3))]) X dd_xP_perform_4 hl (by decide) rfl (fun ls hl => ?_)
  refine lv_iload_n X.1 X.2.1 dd_xP_perform_6 rfl (lv_at hl.1 3 rfl) ?_
  by_cases hc7_0 : v2 = (0 : Int32)
  · rw [if_pos hc7_0] at h
    refine lv_tableIn (tgt := 60) (off := 53) X.1 X.2.1 dd_xP_perform_7 (by rw [hc7_0]; decide) (by rw [hc7_0]; decide) (by rw [hc7_0]; decide) (by decide) ?_
    refine rr_aldn X dd_xP_perform_60 rfl (lv_at hl.1 2 rfl) ?_
    refine lv_iload_n X.1 X.2.1 dd_xP_perform_61 rfl (lv_at hl.1 4 rfl) ?_
    obtain ⟨t2, hp62, h⟩ := st_w_some h
    refine rr_put (ty := .int) X hw ff_1_1 hp62 tw_248 (Or.inl rfl) (by decide +kernel) rfl rfl dd_xP_perform_62 (fun H locs hw => ?_)
    refine lv_goto (tgt := 210) X.1 X.2.1 dd_xP_perform_65 (by decide) ?_
    obtain ⟨rfl, rfl, rfl, rfl⟩ := st_r_some h
    exact rr_vret X hw hlk hret hci hcj dd_xP_perform_210
  · by_cases hc7_1 : v2 = (1 : Int32)
    · rw [if_neg hc7_0, if_pos hc7_1] at h
      refine lv_tableIn (tgt := 68) (off := 61) X.1 X.2.1 dd_xP_perform_7 (by rw [hc7_1]; decide) (by rw [hc7_1]; decide) (by rw [hc7_1]; decide) (by decide) ?_
      refine rr_aldn X dd_xP_perform_68 rfl (lv_at hl.1 2 rfl) ?_
      refine lv_dup X.1 X.2.1 dd_xP_perform_69 (rf_cat _) ?_
      obtain ⟨t3, ht3, h⟩ := st_g_some h
      refine rr_geti X hw ff_1_1 ht3 tw_248 (Or.inl rfl) dd_xP_perform_70 ?_
      refine rr_ald X dd_xP_perform_73 (lv_at hl.1 0 rfl) ?_
      obtain ⟨t4, ht4, h⟩ := st_g_some h
      refine rr_geti X hw ff_3_1 ht4 tw_247 (Or.inl rfl) dd_xP_perform_75 ?_
      refine lv_iadd X.1 X.2.1 dd_xP_perform_78 ?_
      obtain ⟨t5, hp79, h⟩ := st_w_some h
      refine rr_put (ty := .int) X hw ff_1_1 hp79 tw_248 (Or.inl rfl) (by decide +kernel) rfl rfl dd_xP_perform_79 (fun H locs hw => ?_)
      refine lv_goto (tgt := 210) X.1 X.2.1 dd_xP_perform_82 (by decide) ?_
      obtain ⟨rfl, rfl, rfl, rfl⟩ := st_r_some h
      exact rr_vret X hw hlk hret hci hcj dd_xP_perform_210
    · by_cases hc7_2 : v2 = (2 : Int32)
      · rw [if_neg hc7_0, if_neg hc7_1, if_pos hc7_2] at h
        refine lv_tableIn (tgt := 85) (off := 78) X.1 X.2.1 dd_xP_perform_7 (by rw [hc7_2]; decide) (by rw [hc7_2]; decide) (by rw [hc7_2]; decide) (by decide) ?_
        refine rr_ald X dd_xP_perform_85 (lv_at hl.1 0 rfl) ?_
        refine rr_aldn X dd_xP_perform_87 rfl (lv_at hl.1 2 rfl) ?_
        obtain ⟨t6, ht6, h⟩ := st_g_some h
        refine rr_geti X hw ff_1_1 ht6 tw_248 (Or.inl rfl) dd_xP_perform_88 ?_
        obtain ⟨t7, hp91, h⟩ := st_w_some h
        refine rr_put (ty := .int) X hw ff_3_1 hp91 tw_247 (Or.inl rfl) (by decide +kernel) rfl rfl dd_xP_perform_91 (fun H locs hw => ?_)
        refine lv_goto (tgt := 210) X.1 X.2.1 dd_xP_perform_94 (by decide) ?_
        obtain ⟨rfl, rfl, rfl, rfl⟩ := st_r_some h
        exact rr_vret X hw hlk hret hci hcj dd_xP_perform_210
      · by_cases hc7_3 : v2 = (3 : Int32)
        · rw [if_neg hc7_0, if_neg hc7_1, if_neg hc7_2, if_pos hc7_3] at h
          refine lv_tableIn (tgt := 97) (off := 90) X.1 X.2.1 dd_xP_perform_7 (by rw [hc7_3]; decide) (by rw [hc7_3]; decide) (by rw [hc7_3]; decide) (by decide) ?_
          refine rr_ald X dd_xP_perform_97 (lv_at hl.1 0 rfl) ?_
          obtain ⟨t8, ht8, h⟩ := st_g_some h
          refine rr_getq X hw ff_3_2 ht8 tw_108 (Or.inl rfl) dd_xP_perform_99 ?_
          refine lv_iload_n X.1 X.2.1 dd_xP_perform_102 rfl (lv_at hl.1 4 rfl) ?_
          refine rr_aldn X dd_xP_perform_103 rfl (lv_at hl.1 2 rfl) ?_
          obtain ⟨t9, ht9, h⟩ := st_g_some h
          refine rr_getq X hw ff_1_2 ht9 tw_246 (Or.inl rfl) dd_xP_perform_104 ?_
          obtain ⟨t10, hp107, h⟩ := st_w_some h
          refine rr_aast X hw (ta_6 hKs) hp107 dd_xP_perform_107 (fun H locs hw => ?_)
          refine lv_goto (tgt := 210) X.1 X.2.1 dd_xP_perform_108 (by decide) ?_
          obtain ⟨rfl, rfl, rfl, rfl⟩ := st_r_some h
          exact rr_vret X hw hlk hret hci hcj dd_xP_perform_210
        · by_cases hc7_4 : v2 = (4 : Int32)
          · rw [if_neg hc7_0, if_neg hc7_1, if_neg hc7_2, if_neg hc7_3, if_pos hc7_4] at h
            refine lv_tableIn (tgt := 111) (off := 104) X.1 X.2.1 dd_xP_perform_7 (by rw [hc7_4]; decide) (by rw [hc7_4]; decide) (by rw [hc7_4]; decide) (by decide) ?_
            refine rr_aldn X dd_xP_perform_111 rfl (lv_at hl.1 2 rfl) ?_
            refine rr_ald X dd_xP_perform_112 (lv_at hl.1 0 rfl) ?_
            obtain ⟨t11, ht11, h⟩ := st_g_some h
            refine rr_getq X hw ff_3_2 ht11 tw_108 (Or.inl rfl) dd_xP_perform_114 ?_
            refine lv_iload_n X.1 X.2.1 dd_xP_perform_117 rfl (lv_at hl.1 4 rfl) ?_
            obtain ⟨t12, ht12, h⟩ := st_g_some h
            refine rr_aald X hw (tq_6 ac) ht12 dd_xP_perform_118 ?_
            obtain ⟨t13, hp119, h⟩ := st_w_some h
            refine rr_put (ty := .object "PromiseVats$Entity") X hw ff_1_2 hp119 tw_246 (Or.inl rfl) (by decide +kernel) (rf_nar _ _) (rf_fit _ _) dd_xP_perform_119 (fun H locs hw => ?_)
            refine lv_goto (tgt := 210) X.1 X.2.1 dd_xP_perform_122 (by decide) ?_
            obtain ⟨rfl, rfl, rfl, rfl⟩ := st_r_some h
            exact rr_vret X hw hlk hret hci hcj dd_xP_perform_210
          · by_cases hc7_5 : v2 = (5 : Int32)
            · rw [if_neg hc7_0, if_neg hc7_1, if_neg hc7_2, if_neg hc7_3, if_neg hc7_4, if_pos hc7_5] at h
              refine lv_tableIn (tgt := 125) (off := 118) X.1 X.2.1 dd_xP_perform_7 (by rw [hc7_5]; decide) (by rw [hc7_5]; decide) (by rw [hc7_5]; decide) (by decide) ?_
              refine rr_aldn X dd_xP_perform_125 rfl (lv_at hl.1 2 rfl) ?_
              refine rr_ald X dd_xP_perform_126 (lv_at hl.1 0 rfl) ?_
              obtain ⟨t14, hp128, h⟩ := st_w_some h
              refine rr_put (ty := .object "PromiseVats$Entity") X hw ff_1_2 hp128 tw_246 (Or.inl rfl) (by decide +kernel) (rf_nar _ _) (rf_fit _ _) dd_xP_perform_128 (fun H locs hw => ?_)
              refine lv_goto (tgt := 210) X.1 X.2.1 dd_xP_perform_131 (by decide) ?_
              obtain ⟨rfl, rfl, rfl, rfl⟩ := st_r_some h
              exact rr_vret X hw hlk hret hci hcj dd_xP_perform_210
            · by_cases hc7_6 : v2 = (6 : Int32)
              · rw [if_neg hc7_0, if_neg hc7_1, if_neg hc7_2, if_neg hc7_3, if_neg hc7_4, if_neg hc7_5, if_pos hc7_6] at h
                refine lv_tableIn (tgt := 134) (off := 127) X.1 X.2.1 dd_xP_perform_7 (by rw [hc7_6]; decide) (by rw [hc7_6]; decide) (by rw [hc7_6]; decide) (by decide) ?_
                refine rr_aldn X dd_xP_perform_134 rfl (lv_at hl.1 2 rfl) ?_
                refine rr_aldn X dd_xP_perform_135 rfl (lv_at hl.1 1 rfl) ?_
                refine rr_aldn X dd_xP_perform_136 rfl (lv_at hl.1 2 rfl) ?_
                refine lv_iload_n X.1 X.2.1 dd_xP_perform_137 rfl (lv_at hl.1 4 rfl) ?_
                obtain ⟨t24, ht24, h⟩ := st_g_some h
                obtain ⟨t15, t16, t17, t18, t19, t20, ht15, h, ei, ej⟩ := st_b_some h
                refine rr_callV (n := 2) (As := [(va_rf v1), (.int v3)]) (rest := [(va_rf v1)]) X hw (kn_ok D ac a0 gl) hKs (kc_xP_makeObject l D ac a0 gl v0 v1 v3 _ _ _ _ _ ht15) tb_good tw_271 tw_91 tw_272 tw_273 se_13 ht24 (by decide +kernel) rfl (show 3 + 1 ≤ _ ∧ 8 + (4 + 11) + 57 ≤ _ from ⟨Nat.le_of_ble_eq_true rfl, Nat.le_of_ble_eq_true rfl⟩) (show z0 + t17 ≤ iT ∧ z1 + t18 ≤ jT from ⟨ar_1 hci ei, ar_1 hcj ej⟩) hl.1.1 (by simp [rf_cat, ic_cat]) rfl dd_xP_perform_138 (sk := [(va_rf t15), (va_rf v1)]) rfl (fun H locs hw => ?_)
                have hci : z0 + t17 + t19 = iT := ar_2 hci ei
                have hcj : z1 + t18 + t20 = jT := ar_2 hcj ej
                clear ei ej
                generalize z0 + t17 = t21 at hci ⊢
                generalize z1 + t18 = t22 at hcj ⊢
                obtain ⟨t23, hp141, h⟩ := st_w_some h
                refine rr_put (ty := .object "PromiseVats$Entity") X hw ff_1_2 hp141 tw_246 (Or.inl rfl) (by decide +kernel) (rf_nar _ _) (rf_fit _ _) dd_xP_perform_141 (fun H locs hw => ?_)
                refine lv_goto (tgt := 210) X.1 X.2.1 dd_xP_perform_144 (by decide) ?_
                obtain ⟨rfl, rfl, rfl, rfl⟩ := st_r_some h
                exact rr_vret X hw hlk hret hci hcj dd_xP_perform_210
              · by_cases hc7_7 : v2 = (7 : Int32)
                · rw [if_neg hc7_0, if_neg hc7_1, if_neg hc7_2, if_neg hc7_3, if_neg hc7_4, if_neg hc7_5, if_neg hc7_6, if_pos hc7_7] at h
                  refine lv_tableIn (tgt := 147) (off := 140) X.1 X.2.1 dd_xP_perform_7 (by rw [hc7_7]; decide) (by rw [hc7_7]; decide) (by rw [hc7_7]; decide) (by decide) ?_
                  refine rr_aldn X dd_xP_perform_147 rfl (lv_at hl.1 2 rfl) ?_
                  refine rr_aldn X dd_xP_perform_148 rfl (lv_at hl.1 1 rfl) ?_
                  refine rr_aldn X dd_xP_perform_149 rfl (lv_at hl.1 2 rfl) ?_
                  refine rr_ald X dd_xP_perform_150 (lv_at hl.1 0 rfl) ?_
                  obtain ⟨t25, ht25, h⟩ := st_g_some h
                  refine rr_getq X hw ff_3_2 ht25 tw_108 (Or.inl rfl) dd_xP_perform_152 ?_
                  refine lv_iload_n X.1 X.2.1 dd_xP_perform_155 rfl (lv_at hl.1 4 rfl) ?_
                  obtain ⟨t26, ht26, h⟩ := st_g_some h
                  refine rr_aald X hw (tq_6 ac) ht26 dd_xP_perform_156 ?_
                  obtain ⟨t36, ht36, h⟩ := st_g_some h
                  obtain ⟨t27, t28, t29, t30, t31, t32, ht27, h, ei, ej⟩ := st_b_some h
                  refine rr_callV (n := 2) (As := [(va_rf v1), (va_rf t26)]) (rest := [(va_rf v1)]) X hw (kn_ok D ac a0 gl) hKs (kc_xP_callFrom l D ac a0 gl v0 v1 t26 _ _ _ _ _ ht27) tb_good tw_275 tw_91 tw_276 tw_277 se_14 ht36 (by decide +kernel) rfl (show 11 + 1 ≤ _ ∧ 8 + (6 + 11) + 286 ≤ _ from ⟨Nat.le_of_ble_eq_true rfl, Nat.le_of_ble_eq_true rfl⟩) (show z0 + t29 ≤ iT ∧ z1 + t30 ≤ jT from ⟨ar_1 hci ei, ar_1 hcj ej⟩) hl.1.1 (by simp [rf_cat, ic_cat]) rfl dd_xP_perform_157 (sk := [(va_rf t27), (va_rf v1)]) rfl (fun H locs hw => ?_)
                  have hci : z0 + t29 + t31 = iT := ar_2 hci ei
                  have hcj : z1 + t30 + t32 = jT := ar_2 hcj ej
                  clear ei ej
                  generalize z0 + t29 = t33 at hci ⊢
                  generalize z1 + t30 = t34 at hcj ⊢
                  obtain ⟨t35, hp160, h⟩ := st_w_some h
                  refine rr_put (ty := .object "PromiseVats$Entity") X hw ff_1_2 hp160 tw_246 (Or.inl rfl) (by decide +kernel) (rf_nar _ _) (rf_fit _ _) dd_xP_perform_160 (fun H locs hw => ?_)
                  refine lv_goto (tgt := 210) X.1 X.2.1 dd_xP_perform_163 (by decide) ?_
                  obtain ⟨rfl, rfl, rfl, rfl⟩ := st_r_some h
                  exact rr_vret X hw hlk hret hci hcj dd_xP_perform_210
                · by_cases hc7_8 : v2 = (8 : Int32)
                  · rw [if_neg hc7_0, if_neg hc7_1, if_neg hc7_2, if_neg hc7_3, if_neg hc7_4, if_neg hc7_5, if_neg hc7_6, if_neg hc7_7, if_pos hc7_8] at h
                    refine lv_tableIn (tgt := 166) (off := 159) X.1 X.2.1 dd_xP_perform_7 (by rw [hc7_8]; decide) (by rw [hc7_8]; decide) (by rw [hc7_8]; decide) (by decide) ?_
                    refine rr_aldn X dd_xP_perform_166 rfl (lv_at hl.1 2 rfl) ?_
                    refine rr_aldn X dd_xP_perform_167 rfl (lv_at hl.1 2 rfl) ?_
                    obtain ⟨t37, ht37, h⟩ := st_g_some h
                    refine rr_geti X hw ff_1_1 ht37 tw_248 (Or.inl rfl) dd_xP_perform_168 ?_
                    by_cases hc171 : t37 = 0
                    · rw [if_pos hc171] at h
                      refine lv_if_ne (tgt := 178) X.1 X.2.1 dd_xP_perform_171 (by decide) (fun z => absurd hc171 z) (fun _ => ?_)
                      refine lv_iload_n X.1 X.2.1 dd_xP_perform_174 rfl (lv_at hl.1 4 rfl) ?_
                      refine lv_goto (tgt := 179) X.1 X.2.1 dd_xP_perform_175 (by decide) ?_
                      exact (kb_xP_perform_b179 X hKs hlk hret hnm) (v3, v1) _ _ _ _ _ _ _ _ hw (lh_pk hl [] rfl) h hci hcj
                    · rw [if_neg hc171] at h
                      refine lv_if_ne (tgt := 178) X.1 X.2.1 dd_xP_perform_171 (by decide) (fun _ => ?_) (fun z => absurd z hc171)
                      refine lv_iconst (v := (0 : Int32)) X.1 X.2.1 dd_xP_perform_178 (by decide) ?_
                      exact (kb_xP_perform_b179 X hKs hlk hret hnm) ((0 : Int32), v1) _ _ _ _ _ _ _ _ hw (lh_pk hl [] rfl) h hci hcj
                  · by_cases hc7_9 : v2 = (9 : Int32)
                    · rw [if_neg hc7_0, if_neg hc7_1, if_neg hc7_2, if_neg hc7_3, if_neg hc7_4, if_neg hc7_5, if_neg hc7_6, if_neg hc7_7, if_neg hc7_8, if_pos hc7_9] at h
                      refine lv_tableIn (tgt := 185) (off := 178) X.1 X.2.1 dd_xP_perform_7 (by rw [hc7_9]; decide) (by rw [hc7_9]; decide) (by rw [hc7_9]; decide) (by decide) ?_
                      refine rr_aldn X dd_xP_perform_185 rfl (lv_at hl.1 1 rfl) ?_
                      obtain ⟨t38, ht38, h⟩ := st_g_some h
                      refine rr_getq X hw ff_0_0 ht38 tw_66 (Or.inl rfl) dd_xP_perform_186 ?_
                      refine rr_ald X dd_xP_perform_189 (lv_at hl.1 0 rfl) ?_
                      obtain ⟨t39, ht39, h⟩ := st_g_some h
                      refine rr_geti X hw ff_3_4 ht39 tw_250 (Or.inr tw_249) dd_xP_perform_191 ?_
                      obtain ⟨t40, ht40, h⟩ := st_g_some h
                      refine rr_aald X hw (tq_4 ac) ht40 dd_xP_perform_194 ?_
                      refine rr_aldn X dd_xP_perform_195 rfl (lv_at hl.1 2 rfl) ?_
                      obtain ⟨t41, ht41, h⟩ := st_g_some h
                      refine rr_geti X hw ff_1_1 ht41 tw_248 (Or.inl rfl) dd_xP_perform_196 ?_
                      obtain ⟨t50, ht50, h⟩ := st_g_some h
                      obtain ⟨t42, t43, t44, t45, t46, t47, ht42, h, ei, ej⟩ := st_b_some h
                      refine rr_callV (n := 1) (As := [(.int t41)]) (rest := []) X hw (kn_ok D ac a0 gl) hKs (kc_xV_putOut l D ac a0 gl t40 t41 _ _ _ _ _ ht42) tb_good tw_279 tw_80 tw_280 tw_281 se_15 ht50 (by decide +kernel) rfl (show 1 + 1 ≤ _ ∧ 8 + (2 + 11) + 60 ≤ _ from ⟨Nat.le_of_ble_eq_true rfl, Nat.le_of_ble_eq_true rfl⟩) (show z0 + t44 ≤ iT ∧ z1 + t45 ≤ jT from ⟨ar_1 hci ei, ar_1 hcj ej⟩) hl.1.1 (by simp [rf_cat, ic_cat]) rfl dd_xP_perform_199 (sk := []) rfl (fun H locs hw => ?_)
                      have hci : z0 + t44 + t46 = iT := ar_2 hci ei
                      have hcj : z1 + t45 + t47 = jT := ar_2 hcj ej
                      clear ei ej
                      generalize z0 + t44 = t48 at hci ⊢
                      generalize z1 + t45 = t49 at hcj ⊢
                      refine lv_goto (tgt := 210) X.1 X.2.1 dd_xP_perform_202 (by decide) ?_
                      obtain ⟨rfl, rfl, rfl, rfl⟩ := st_r_some h
                      exact rr_vret X hw hlk hret hci hcj dd_xP_perform_210
                    · rw [if_neg hc7_0, if_neg hc7_1, if_neg hc7_2, if_neg hc7_3, if_neg hc7_4, if_neg hc7_5, if_neg hc7_6, if_neg hc7_7, if_neg hc7_8, if_neg hc7_9] at h
                      have zn0 := lv_neT hc7_0 (show ((0 : Int32)).toInt = 0 by decide)
                      have zn1 := lv_neT hc7_1 (show ((1 : Int32)).toInt = 1 by decide)
                      have zn2 := lv_neT hc7_2 (show ((2 : Int32)).toInt = 2 by decide)
                      have zn3 := lv_neT hc7_3 (show ((3 : Int32)).toInt = 3 by decide)
                      have zn4 := lv_neT hc7_4 (show ((4 : Int32)).toInt = 4 by decide)
                      have zn5 := lv_neT hc7_5 (show ((5 : Int32)).toInt = 5 by decide)
                      have zn6 := lv_neT hc7_6 (show ((6 : Int32)).toInt = 6 by decide)
                      have zn7 := lv_neT hc7_7 (show ((7 : Int32)).toInt = 7 by decide)
                      have zn8 := lv_neT hc7_8 (show ((8 : Int32)).toInt = 8 by decide)
                      have zn9 := lv_neT hc7_9 (show ((9 : Int32)).toInt = 9 by decide)
                      refine lv_tableOut (tgt := 205) X.1 X.2.1 dd_xP_perform_7 (by omega) (by decide) ?_
                      refine rr_aldn X dd_xP_perform_205 rfl (lv_at hl.1 2 rfl) ?_
                      refine rr_null X dd_xP_perform_206 ?_
                      obtain ⟨t51, hp207, h⟩ := st_w_some h
                      refine rr_put (ty := .object "PromiseVats$Entity") X hw ff_1_2 hp207 tw_246 (Or.inl rfl) (by decide +kernel) (rf_nar _ _) (rf_fit _ _) dd_xP_perform_207 (fun H locs hw => ?_)
                      obtain ⟨rfl, rfl, rfl, rfl⟩ := st_r_some h
                      exact rr_vret X hw hlk hret hci hcj dd_xP_perform_210
/-! PromiseVats.leadsTo(LPromiseVats$Entity;LPromiseVats$Promise;)Z -/
theorem dd_xP_leadsTo_0 : decode prog_1_method_34_code 0 = .ok (.aload_n 0, 1) := by decide +kernel
theorem dd_xP_leadsTo_1 : decode prog_1_method_34_code 1 = .ok (.astore_n 2, 1) := by decide +kernel
theorem dd_xP_leadsTo_2 : decode prog_1_method_34_code 2 = .ok (.iconst 0, 1) := by decide +kernel
theorem dd_xP_leadsTo_3 : decode prog_1_method_34_code 3 = .ok (.istore_n 3, 1) := by decide +kernel
theorem dd_xP_leadsTo_4 : decode prog_1_method_34_code 4 = .ok (.iload_n 3, 1) := by decide +kernel
theorem dd_xP_leadsTo_5 : decode prog_1_method_34_code 5 = .ok (.bipush 100, 2) := by decide +kernel
theorem dd_xP_leadsTo_7 : decode prog_1_method_34_code 7 = .ok (.if_icmp .gt 56, 3) := by decide +kernel
theorem dd_xP_leadsTo_10 : decode prog_1_method_34_code 10 = .ok (.aload_n 2, 1) := by decide +kernel
theorem dd_xP_leadsTo_11 : decode prog_1_method_34_code 11 = .ok (.ifnull 52, 3) := by decide +kernel
theorem dd_xP_leadsTo_14 : decode prog_1_method_34_code 14 = .ok (.aload_n 2, 1) := by decide +kernel
theorem dd_xP_leadsTo_15 : decode prog_1_method_34_code 15 = .ok (.aload_n 1, 1) := by decide +kernel
theorem dd_xP_leadsTo_16 : decode prog_1_method_34_code 16 = .ok (.if_acmp .ne 5, 3) := by decide +kernel
theorem dd_xP_leadsTo_19 : decode prog_1_method_34_code 19 = .ok (.iconst 1, 1) := by decide +kernel
theorem dd_xP_leadsTo_20 : decode prog_1_method_34_code 20 = .ok (.ireturn, 1) := by decide +kernel
theorem dd_xP_leadsTo_21 : decode prog_1_method_34_code 21 = .ok (.aload_n 2, 1) := by decide +kernel
theorem dd_xP_leadsTo_22 : decode prog_1_method_34_code 22 = .ok (.instanceof 43, 3) := by decide +kernel
theorem dd_xP_leadsTo_25 : decode prog_1_method_34_code 25 = .ok (.ifCond .eq 30, 3) := by decide +kernel
theorem dd_xP_leadsTo_28 : decode prog_1_method_34_code 28 = .ok (.aload_n 2, 1) := by decide +kernel
theorem dd_xP_leadsTo_29 : decode prog_1_method_34_code 29 = .ok (.checkcast 43, 3) := by decide +kernel
theorem dd_xP_leadsTo_32 : decode prog_1_method_34_code 32 = .ok (.astore 4, 2) := by decide +kernel
theorem dd_xP_leadsTo_34 : decode prog_1_method_34_code 34 = .ok (.aload 4, 2) := by decide +kernel
theorem dd_xP_leadsTo_36 : decode prog_1_method_34_code 36 = .ok (.getfield 291, 3) := by decide +kernel
theorem dd_xP_leadsTo_39 : decode prog_1_method_34_code 39 = .ok (.aload_n 1, 1) := by decide +kernel
theorem dd_xP_leadsTo_40 : decode prog_1_method_34_code 40 = .ok (.getfield 291, 3) := by decide +kernel
theorem dd_xP_leadsTo_43 : decode prog_1_method_34_code 43 = .ok (.if_icmp .ne 12, 3) := by decide +kernel
theorem dd_xP_leadsTo_46 : decode prog_1_method_34_code 46 = .ok (.aload 4, 2) := by decide +kernel
theorem dd_xP_leadsTo_48 : decode prog_1_method_34_code 48 = .ok (.getfield 233, 3) := by decide +kernel
theorem dd_xP_leadsTo_51 : decode prog_1_method_34_code 51 = .ok (.astore_n 2, 1) := by decide +kernel
theorem dd_xP_leadsTo_52 : decode prog_1_method_34_code 52 = .ok (.goto 5, 3) := by decide +kernel
theorem dd_xP_leadsTo_55 : decode prog_1_method_34_code 55 = .ok (.aconst_null, 1) := by decide +kernel
theorem dd_xP_leadsTo_56 : decode prog_1_method_34_code 56 = .ok (.astore_n 2, 1) := by decide +kernel
theorem dd_xP_leadsTo_57 : decode prog_1_method_34_code 57 = .ok (.iinc 3 1, 3) := by decide +kernel
theorem dd_xP_leadsTo_60 : decode prog_1_method_34_code 60 = .ok (.goto (-56), 3) := by decide +kernel
theorem dd_xP_leadsTo_63 : decode prog_1_method_34_code 63 = .ok (.iconst 0, 1) := by decide +kernel
theorem dd_xP_leadsTo_64 : decode prog_1_method_34_code 64 = .ok (.ireturn, 1) := by decide +kernel
set_option maxHeartbeats 4000000 in
set_option maxRecDepth 100000 in
theorem kb_xP_leadsTo_b57 {p : Program} {l : Launch} {e : Env} {s : State} {m : MethodId} {args : Array Value} {below : List Frame} {meth : Method} {c : Code} {D : va_G} {ac : Nat → ClassId} {a0 : Nat} {gl : gl_T} {rF : Int32} {stF : st_S} {iT jT : Nat} {rec4 : Option Nat × Option Nat × Int32 → st_M (Int32)}
    (X : cx_ p s m args c prog_1_method_34_code 5 "PromiseVats" tb_ D cl_ (ty_ ac)) (hKs : kn_ D ac a0 gl s) (hlk : meth.locks = false) (hret : meth.sig.returnType = (Option.some FieldType.boolean)) (hnm : meth.name = "leadsTo") (hr4 : wk_ p l e 0 0 s m args below meth c D cl_ ac a0 5 vb_i rF stF iT jT 4 (fun x : Option Nat × Option Nat × Int32 => [(1, (va_rf x.1)), (2, (va_rf x.2.1)), (3, (.int x.2.2))]) (fun x : Option Nat × Option Nat × Int32 => []) rec4) : wk_ p l e 0 0 s m args below meth c D cl_ ac a0 5 vb_i rF stF iT jT 57 (fun x : Option Nat × Option Nat × Int32 => [(1, (va_rf x.1)), (2, (va_rf x.2.1)), (3, (.int x.2.2))]) (fun x : Option Nat × Option Nat × Int32 => []) (fun x : Option Nat × Option Nat × Int32 => xP_leadsTo_b57 gl rec4 x.1 x.2.1 x.2.2) := by
  intro x st H locs cells slots i j ls hw hl h hci hcj
  obtain ⟨p1, p2, p3⟩ := x
  have h : xP_leadsTo_b57 gl rec4 p1 p2 p3 st = some (rF, stF, i, j) := h
  unfold xP_leadsTo_b57 at h
  have hl : lh_ ls 5 [(1, (va_rf p1)), (2, (va_rf p2)), (3, (.int p3))] := hl
  refine W.eq (g2 := F0 m 57 ls []) rfl ?_
  refine rr_iinc (k := 2) (v := (p3 + (1 : Int32))) (lv' := [(3, (.int (p3 + (1 : Int32)))), (1, (va_rf p1)), (2, (va_rf p2))]) X dd_xP_leadsTo_57 hl rfl (by rw [show Int32.ofInt (1) = (1 : Int32) from by decide]) (by decide) rfl (fun ls hl => ?_)
  refine lv_goto (tgt := 4) X.1 X.2.1 dd_xP_leadsTo_60 (by decide) ?_
  exact hr4 (p1, p2, (p3 + (1 : Int32))) _ _ _ _ _ _ _ _ hw (lh_pk hl [1, 2, 0] rfl) h hci hcj
set_option maxHeartbeats 4000000 in
set_option maxRecDepth 100000 in
theorem kb_xP_leadsTo_b55 {p : Program} {l : Launch} {e : Env} {s : State} {m : MethodId} {args : Array Value} {below : List Frame} {meth : Method} {c : Code} {D : va_G} {ac : Nat → ClassId} {a0 : Nat} {gl : gl_T} {rF : Int32} {stF : st_S} {iT jT : Nat} {rec4 : Option Nat × Option Nat × Int32 → st_M (Int32)}
    (X : cx_ p s m args c prog_1_method_34_code 5 "PromiseVats" tb_ D cl_ (ty_ ac)) (hKs : kn_ D ac a0 gl s) (hlk : meth.locks = false) (hret : meth.sig.returnType = (Option.some FieldType.boolean)) (hnm : meth.name = "leadsTo") (hr4 : wk_ p l e 0 0 s m args below meth c D cl_ ac a0 5 vb_i rF stF iT jT 4 (fun x : Option Nat × Option Nat × Int32 => [(1, (va_rf x.1)), (2, (va_rf x.2.1)), (3, (.int x.2.2))]) (fun x : Option Nat × Option Nat × Int32 => []) rec4) : wk_ p l e 0 0 s m args below meth c D cl_ ac a0 5 vb_i rF stF iT jT 55 (fun x : Option Nat × Int32 => [(1, (va_rf x.1)), (3, (.int x.2))]) (fun x : Option Nat × Int32 => []) (fun x : Option Nat × Int32 => xP_leadsTo_b55 gl rec4 x.1 x.2) := by
  intro x st H locs cells slots i j ls hw hl h hci hcj
  obtain ⟨p1, p3⟩ := x
  have h : xP_leadsTo_b55 gl rec4 p1 p3 st = some (rF, stF, i, j) := h
  unfold xP_leadsTo_b55 at h
  have hl : lh_ ls 5 [(1, (va_rf p1)), (3, (.int p3))] := hl
  refine W.eq (g2 := F0 m 55 ls []) rfl ?_
  refine rr_null X dd_xP_leadsTo_55 ?_
  refine rr_astn (lv' := [(2, (va_rf none)), (1, (va_rf p1)), (3, (.int p3))]) X dd_xP_leadsTo_56 rfl hl (by decide) rfl (fun ls hl => ?_)
  exact (kb_xP_leadsTo_b57 X hKs hlk hret hnm hr4) (p1, none, p3) _ _ _ _ _ _ _ _ hw (lh_pk hl [1, 0, 2] rfl) h hci hcj
set_option maxHeartbeats 4000000 in
set_option maxRecDepth 100000 in
theorem kb_xP_leadsTo_b63 {p : Program} {l : Launch} {e : Env} {s : State} {m : MethodId} {args : Array Value} {below : List Frame} {meth : Method} {c : Code} {D : va_G} {ac : Nat → ClassId} {a0 : Nat} {gl : gl_T} {rF : Int32} {stF : st_S} {iT jT : Nat}
    (X : cx_ p s m args c prog_1_method_34_code 5 "PromiseVats" tb_ D cl_ (ty_ ac)) (hKs : kn_ D ac a0 gl s) (hlk : meth.locks = false) (hret : meth.sig.returnType = (Option.some FieldType.boolean)) (hnm : meth.name = "leadsTo") : wk_ p l e 0 0 s m args below meth c D cl_ ac a0 5 vb_i rF stF iT jT 63 (fun x : Unit => []) (fun x : Unit => []) (fun _ : Unit => xP_leadsTo_b63 gl) := by
  intro x st H locs cells slots i j ls hw hl h hci hcj
  have h : xP_leadsTo_b63 gl  st = some (rF, stF, i, j) := h
  unfold xP_leadsTo_b63 at h
  have hl : lh_ ls 5 [] := hl
  refine W.eq (g2 := F0 m 63 ls []) rfl ?_
  refine lv_iconst (v := (0 : Int32)) X.1 X.2.1 dd_xP_leadsTo_63 (by decide) ?_
  obtain ⟨rfl, rfl, rfl, rfl⟩ := st_r_some h
  exact rr_iret X hw hlk hret (by decide) hci hcj dd_xP_leadsTo_64
set_option maxHeartbeats 4000000 in
set_option maxRecDepth 100000 in
theorem kb_xP_leadsTo_b4 {p : Program} {l : Launch} {e : Env} {s : State} {m : MethodId} {args : Array Value} {below : List Frame} {meth : Method} {c : Code} {D : va_G} {ac : Nat → ClassId} {a0 : Nat} {gl : gl_T} {rF : Int32} {stF : st_S} {iT jT : Nat}
    (X : cx_ p s m args c prog_1_method_34_code 5 "PromiseVats" tb_ D cl_ (ty_ ac)) (hKs : kn_ D ac a0 gl s) (hlk : meth.locks = false) (hret : meth.sig.returnType = (Option.some FieldType.boolean)) (hnm : meth.name = "leadsTo") : wk_ p l e 0 0 s m args below meth c D cl_ ac a0 5 vb_i rF stF iT jT 4 (fun x : Option Nat × Option Nat × Int32 => [(1, (va_rf x.1)), (2, (va_rf x.2.1)), (3, (.int x.2.2))]) (fun x : Option Nat × Option Nat × Int32 => []) (st_it (fun rec4 => (fun x : Option Nat × Option Nat × Int32 => xP_leadsTo_b4 gl rec4 x.1 x.2.1 x.2.2)) fu_) := by
  refine wk_it ?_ _
  intro rec4 hr4 x st H locs cells slots i j ls hw hl h hci hcj
  obtain ⟨p1, p2, p3⟩ := x
  have h : xP_leadsTo_b4 gl rec4 p1 p2 p3 st = some (rF, stF, i, j) := h
  unfold xP_leadsTo_b4 at h
  have hl : lh_ ls 5 [(1, (va_rf p1)), (2, (va_rf p2)), (3, (.int p3))] := hl
  refine W.eq (g2 := F0 m 4 ls []) rfl ?_
  refine lv_iload_n X.1 X.2.1 dd_xP_leadsTo_4 rfl (lv_at hl.1 2 rfl) ?_
  refine lv_bipush (v := (100 : Int32)) X.1 X.2.1 dd_xP_leadsTo_5 (by decide) ?_
  by_cases hc7 : (100 : Int32) < p3
  · rw [if_pos hc7] at h
    refine lv_icmp_gt (tgt := 63) X.1 X.2.1 dd_xP_leadsTo_7 (by decide) (fun _ => ?_) (fun z => absurd hc7 z)
    exact (kb_xP_leadsTo_b63 X hKs hlk hret hnm) () _ _ _ _ _ _ _ _ hw (lh_pk hl [] rfl) h hci hcj
  · rw [if_neg hc7] at h
    refine lv_icmp_gt (tgt := 63) X.1 X.2.1 dd_xP_leadsTo_7 (by decide) (fun z => absurd z hc7) (fun _ => ?_)
    refine rr_aldn X dd_xP_leadsTo_10 rfl (lv_at hl.1 1 rfl) ?_
    by_cases hc11 : p2 = none
    · rw [if_pos hc11] at h
      refine rr_ifnull (tgt := 63) X dd_xP_leadsTo_11 (by decide) (fun _ => ?_) (fun z => absurd hc11 z)
      exact (kb_xP_leadsTo_b63 X hKs hlk hret hnm) () _ _ _ _ _ _ _ _ hw (lh_pk hl [] rfl) h hci hcj
    · rw [if_neg hc11] at h
      refine rr_ifnull (tgt := 63) X dd_xP_leadsTo_11 (by decide) (fun z => absurd z hc11) (fun _ => ?_)
      refine rr_aldn X dd_xP_leadsTo_14 rfl (lv_at hl.1 1 rfl) ?_
      refine rr_aldn X dd_xP_leadsTo_15 rfl (lv_at hl.1 0 rfl) ?_
      by_cases hc16 : p2 = p1
      · rw [if_pos hc16] at h
        refine lv_acmp_ne (tgt := 21) X.1 X.2.1 dd_xP_leadsTo_16 (by decide) (fun z => absurd hc16 z) (fun _ => ?_)
        refine lv_iconst (v := (1 : Int32)) X.1 X.2.1 dd_xP_leadsTo_19 (by decide) ?_
        obtain ⟨rfl, rfl, rfl, rfl⟩ := st_r_some h
        exact rr_iret X hw hlk hret (by decide) hci hcj dd_xP_leadsTo_20
      · rw [if_neg hc16] at h
        refine lv_acmp_ne (tgt := 21) X.1 X.2.1 dd_xP_leadsTo_16 (by decide) (fun _ => ?_) (fun z => absurd z hc16)
        refine rr_aldn X dd_xP_leadsTo_21 rfl (lv_at hl.1 1 rfl) ?_
        obtain ⟨t1, ht1, h⟩ := st_g_some h
        refine rr_inst X hw (ti_Q_y hKs) (ti_Q_n hKs) ht1 tw_55 dd_xP_leadsTo_22 ?_
        by_cases hc25 : t1 = 0
        · rw [if_pos hc25] at h
          refine lv_if_eq (tgt := 55) X.1 X.2.1 dd_xP_leadsTo_25 (by decide) (fun _ => ?_) (fun z => absurd hc25 z)
          exact (kb_xP_leadsTo_b55 X hKs hlk hret hnm hr4) (p1, p3) _ _ _ _ _ _ _ _ hw (lh_pk hl [0, 2] rfl) h hci hcj
        · rw [if_neg hc25] at h
          refine lv_if_eq (tgt := 55) X.1 X.2.1 dd_xP_leadsTo_25 (by decide) (fun z => absurd z hc25) (fun _ => ?_)
          refine rr_aldn X dd_xP_leadsTo_28 rfl (lv_at hl.1 1 rfl) ?_
          obtain ⟨t2, ht2, h⟩ := st_g_some h
          refine rr_cast X hw (ti_Q_y hKs) ht2 tw_55 dd_xP_leadsTo_29 ?_
          refine rr_ast (lv' := [(4, (va_rf p2)), (1, (va_rf p1)), (2, (va_rf p2)), (3, (.int p3))]) X dd_xP_leadsTo_32 hl (by decide) rfl (fun ls hl => ?_)
          refine rr_ald X dd_xP_leadsTo_34 (lv_at hl.1 0 rfl) ?_
          obtain ⟨t3, ht3, h⟩ := st_g_some h
          refine rr_geti X hw ff_4_4 ht3 tw_285 (Or.inr tw_284) dd_xP_leadsTo_36 ?_
          refine rr_aldn X dd_xP_leadsTo_39 rfl (lv_at hl.1 1 rfl) ?_
          obtain ⟨t4, ht4, h⟩ := st_g_some h
          refine rr_geti X hw ff_4_4 ht4 tw_285 (Or.inr tw_284) dd_xP_leadsTo_40 ?_
          by_cases hc43 : t3 = t4
          · rw [if_pos hc43] at h
            refine lv_icmp_ne (tgt := 55) X.1 X.2.1 dd_xP_leadsTo_43 (by decide) (fun z => absurd hc43 z) (fun _ => ?_)
            refine rr_ald X dd_xP_leadsTo_46 (lv_at hl.1 0 rfl) ?_
            obtain ⟨t5, ht5, h⟩ := st_g_some h
            refine rr_getq X hw ff_4_1 ht5 tw_209 (Or.inl rfl) dd_xP_leadsTo_48 ?_
            refine rr_astn (lv' := [(2, (va_rf t5)), (4, (va_rf p2)), (1, (va_rf p1)), (3, (.int p3))]) X dd_xP_leadsTo_51 rfl hl (by decide) rfl (fun ls hl => ?_)
            refine lv_goto (tgt := 57) X.1 X.2.1 dd_xP_leadsTo_52 (by decide) ?_
            exact (kb_xP_leadsTo_b57 X hKs hlk hret hnm hr4) (p1, t5, p3) _ _ _ _ _ _ _ _ hw (lh_pk hl [2, 0, 3] rfl) h hci hcj
          · rw [if_neg hc43] at h
            refine lv_icmp_ne (tgt := 55) X.1 X.2.1 dd_xP_leadsTo_43 (by decide) (fun _ => ?_) (fun z => absurd z hc43)
            exact (kb_xP_leadsTo_b55 X hKs hlk hret hnm hr4) (p1, p3) _ _ _ _ _ _ _ _ hw (lh_pk hl [1, 3] rfl) h hci hcj
set_option maxHeartbeats 4000000 in
set_option maxRecDepth 100000 in
theorem kc_xP_leadsTo (l : Launch) (D : va_G) (ac : Nat → ClassId) (a0 : Nat) (gl : gl_T) (v0 : Option Nat) (v1 : Option Nat) (st : st_S) (rF : Int32) (stF : st_S) (iT jT : Nat) (h : xP_leadsTo gl v0 v1 st = some (rF, stF, iT, jT)) :
    ct_ l ⟨"PromiseVats", "leadsTo", "(LPromiseVats$Entity;LPromiseVats$Promise;)Z"⟩ (Cond.code ⟨"PromiseVats", "leadsTo", "(LPromiseVats$Entity;LPromiseVats$Promise;)Z"⟩ prog_1_method_34_code 5 (Option.some FieldType.boolean) :: tb_) 0 0 D cl_ ac a0 (kn_ D ac a0 gl) [(va_rf v0), (va_rf v1)] st (vb_i rF) stF iT jT := by
  refine ct_of (kn_ok D ac a0 gl) (plainFor_of_name (by decide +kernel)) (by simp [rf_cat, ic_cat]) (by simp) ?_
  intro p e s m args below meth c ls X hw hKs hlk hret hnm hl
  unfold xP_leadsTo at h
  have hl : lh_ ls 5 [(0, (va_rf v0)), (1, (va_rf v1))] := hl
  obtain ⟨z0, hz0⟩ : ∃ z : Nat, 0 = z := ⟨0, rfl⟩
  obtain ⟨z1, hz1⟩ : ∃ z : Nat, 0 = z := ⟨0, rfl⟩
  refine W.cs hz0 hz1 ?_
  have hci : z0 + iT = iT := by omega
  have hcj : z1 + jT = jT := by omega
  refine rr_aldn X dd_xP_leadsTo_0 rfl (lv_at hl.1 0 rfl) ?_
  refine rr_astn (lv' := [(2, (va_rf v0)), (0, (va_rf v0)), (1, (va_rf v1))]) X dd_xP_leadsTo_1 rfl hl (by decide) rfl (fun ls hl => ?_)
  refine lv_iconst (v := (0 : Int32)) X.1 X.2.1 dd_xP_leadsTo_2 (by decide) ?_
  refine rr_istn (lv' := [(3, (.int (0 : Int32))), (2, (va_rf v0)), (0, (va_rf v0)), (1, (va_rf v1))]) X dd_xP_leadsTo_3 rfl hl (by decide) rfl (fun ls hl => ?_)
  exact (kb_xP_leadsTo_b4 X hKs hlk hret hnm) (v1, v0, (0 : Int32)) _ _ _ _ _ _ _ _ hw (lh_pk hl [3, 1, 0] rfl) h hci hcj
