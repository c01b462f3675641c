/-! PromiseVatsModel.settle(III)V -/
theorem dd_mm_settle_0 : decode prog_12_method_19_code 0 = .ok (.iload_n 2, 1) := by decide +kernel
theorem dd_mm_settle_1 : decode prog_12_method_19_code 1 = .ok (.ifCond .ne 4, 3) := by decide +kernel
theorem dd_mm_settle_4 : decode prog_12_method_19_code 4 = .ok (.return_, 1) := by decide +kernel
theorem dd_mm_settle_5 : decode prog_12_method_19_code 5 = .ok (.aload_n 0, 1) := by decide +kernel
theorem dd_mm_settle_6 : decode prog_12_method_19_code 6 = .ok (.getfield 19, 3) := by decide +kernel
theorem dd_mm_settle_9 : decode prog_12_method_19_code 9 = .ok (.iload_n 2, 1) := by decide +kernel
theorem dd_mm_settle_10 : decode prog_12_method_19_code 10 = .ok (.baload, 1) := by decide +kernel
theorem dd_mm_settle_11 : decode prog_12_method_19_code 11 = .ok (.iload_n 1, 1) := by decide +kernel
theorem dd_mm_settle_12 : decode prog_12_method_19_code 12 = .ok (.if_icmp .eq 35, 3) := by decide +kernel
theorem dd_mm_settle_15 : decode prog_12_method_19_code 15 = .ok (.aload_n 0, 1) := by decide +kernel
theorem dd_mm_settle_16 : decode prog_12_method_19_code 16 = .ok (.iload_n 1, 1) := by decide +kernel
theorem dd_mm_settle_17 : decode prog_12_method_19_code 17 = .ok (.aload_n 0, 1) := by decide +kernel
theorem dd_mm_settle_18 : decode prog_12_method_19_code 18 = .ok (.getfield 19, 3) := by decide +kernel
theorem dd_mm_settle_21 : decode prog_12_method_19_code 21 = .ok (.iload_n 2, 1) := by decide +kernel
theorem dd_mm_settle_22 : decode prog_12_method_19_code 22 = .ok (.baload, 1) := by decide +kernel
theorem dd_mm_settle_23 : decode prog_12_method_19_code 23 = .ok (.iload_n 3, 1) := by decide +kernel
theorem dd_mm_settle_24 : decode prog_12_method_19_code 24 = .ok (.invokevirtual 157, 3) := by decide +kernel
theorem dd_mm_settle_27 : decode prog_12_method_19_code 27 = .ok (.aload_n 0, 1) := by decide +kernel
theorem dd_mm_settle_28 : decode prog_12_method_19_code 28 = .ok (.iconst 2, 1) := by decide +kernel
theorem dd_mm_settle_29 : decode prog_12_method_19_code 29 = .ok (.iconst 4, 1) := by decide +kernel
theorem dd_mm_settle_30 : decode prog_12_method_19_code 30 = .ok (.iload_n 1, 1) := by decide +kernel
theorem dd_mm_settle_31 : decode prog_12_method_19_code 31 = .ok (.imul, 1) := by decide +kernel
theorem dd_mm_settle_32 : decode prog_12_method_19_code 32 = .ok (.aload_n 0, 1) := by decide +kernel
theorem dd_mm_settle_33 : decode prog_12_method_19_code 33 = .ok (.getfield 19, 3) := by decide +kernel
theorem dd_mm_settle_36 : decode prog_12_method_19_code 36 = .ok (.iload_n 2, 1) := by decide +kernel
theorem dd_mm_settle_37 : decode prog_12_method_19_code 37 = .ok (.baload, 1) := by decide +kernel
theorem dd_mm_settle_38 : decode prog_12_method_19_code 38 = .ok (.iadd, 1) := by decide +kernel
theorem dd_mm_settle_39 : decode prog_12_method_19_code 39 = .ok (.iload_n 2, 1) := by decide +kernel
theorem dd_mm_settle_40 : decode prog_12_method_19_code 40 = .ok (.iconst 0, 1) := by decide +kernel
theorem dd_mm_settle_41 : decode prog_12_method_19_code 41 = .ok (.iload_n 3, 1) := by decide +kernel
theorem dd_mm_settle_42 : decode prog_12_method_19_code 42 = .ok (.iconst 0, 1) := by decide +kernel
theorem dd_mm_settle_43 : decode prog_12_method_19_code 43 = .ok (.invokevirtual 111, 3) := by decide +kernel
theorem dd_mm_settle_46 : decode prog_12_method_19_code 46 = .ok (.return_, 1) := by decide +kernel
theorem dd_mm_settle_47 : decode prog_12_method_19_code 47 = .ok (.aload_n 0, 1) := by decide +kernel
theorem dd_mm_settle_48 : decode prog_12_method_19_code 48 = .ok (.getfield 23, 3) := by decide +kernel
theorem dd_mm_settle_51 : decode prog_12_method_19_code 51 = .ok (.iload_n 2, 1) := by decide +kernel
theorem dd_mm_settle_52 : decode prog_12_method_19_code 52 = .ok (.baload, 1) := by decide +kernel
theorem dd_mm_settle_53 : decode prog_12_method_19_code 53 = .ok (.ifCond .ne 12, 3) := by decide +kernel
theorem dd_mm_settle_56 : decode prog_12_method_19_code 56 = .ok (.aload_n 0, 1) := by decide +kernel
theorem dd_mm_settle_57 : decode prog_12_method_19_code 57 = .ok (.getfield 27, 3) := by decide +kernel
theorem dd_mm_settle_60 : decode prog_12_method_19_code 60 = .ok (.iload_n 2, 1) := by decide +kernel
theorem dd_mm_settle_61 : decode prog_12_method_19_code 61 = .ok (.baload, 1) := by decide +kernel
theorem dd_mm_settle_62 : decode prog_12_method_19_code 62 = .ok (.ifCond .eq 4, 3) := by decide +kernel
theorem dd_mm_settle_65 : decode prog_12_method_19_code 65 = .ok (.return_, 1) := by decide +kernel
theorem dd_mm_settle_66 : decode prog_12_method_19_code 66 = .ok (.iload_n 3, 1) := by decide +kernel
theorem dd_mm_settle_67 : decode prog_12_method_19_code 67 = .ok (.istore 4, 2) := by decide +kernel
theorem dd_mm_settle_69 : decode prog_12_method_19_code 69 = .ok (.iconst 0, 1) := by decide +kernel
theorem dd_mm_settle_70 : decode prog_12_method_19_code 70 = .ok (.istore 5, 2) := by decide +kernel
theorem dd_mm_settle_72 : decode prog_12_method_19_code 72 = .ok (.iload 5, 2) := by decide +kernel
theorem dd_mm_settle_74 : decode prog_12_method_19_code 74 = .ok (.bipush 100, 2) := by decide +kernel
theorem dd_mm_settle_76 : decode prog_12_method_19_code 76 = .ok (.if_icmp .gt 34, 3) := by decide +kernel
theorem dd_mm_settle_79 : decode prog_12_method_19_code 79 = .ok (.iload 4, 2) := by decide +kernel
theorem dd_mm_settle_81 : decode prog_12_method_19_code 81 = .ok (.iload_n 2, 1) := by decide +kernel
theorem dd_mm_settle_82 : decode prog_12_method_19_code 82 = .ok (.if_icmp .eq 28, 3) := by decide +kernel
theorem dd_mm_settle_85 : decode prog_12_method_19_code 85 = .ok (.aload_n 0, 1) := by decide +kernel
theorem dd_mm_settle_86 : decode prog_12_method_19_code 86 = .ok (.iload_n 1, 1) := by decide +kernel
theorem dd_mm_settle_87 : decode prog_12_method_19_code 87 = .ok (.iload 4, 2) := by decide +kernel
theorem dd_mm_settle_89 : decode prog_12_method_19_code 89 = .ok (.invokevirtual 147, 3) := by decide +kernel
theorem dd_mm_settle_92 : decode prog_12_method_19_code 92 = .ok (.ifCond .eq 18, 3) := by decide +kernel
theorem dd_mm_settle_95 : decode prog_12_method_19_code 95 = .ok (.aload_n 0, 1) := by decide +kernel
theorem dd_mm_settle_96 : decode prog_12_method_19_code 96 = .ok (.getfield 30, 3) := by decide +kernel
theorem dd_mm_settle_99 : decode prog_12_method_19_code 99 = .ok (.iload 4, 2) := by decide +kernel
theorem dd_mm_settle_101 : decode prog_12_method_19_code 101 = .ok (.iaload, 1) := by decide +kernel
theorem dd_mm_settle_102 : decode prog_12_method_19_code 102 = .ok (.istore 4, 2) := by decide +kernel
theorem dd_mm_settle_104 : decode prog_12_method_19_code 104 = .ok (.iinc 5 1, 3) := by decide +kernel
theorem dd_mm_settle_107 : decode prog_12_method_19_code 107 = .ok (.goto (-35), 3) := by decide +kernel
theorem dd_mm_settle_110 : decode prog_12_method_19_code 110 = .ok (.aload_n 0, 1) := by decide +kernel
theorem dd_mm_settle_111 : decode prog_12_method_19_code 111 = .ok (.getfield 27, 3) := by decide +kernel
theorem dd_mm_settle_114 : decode prog_12_method_19_code 114 = .ok (.iload_n 2, 1) := by decide +kernel
theorem dd_mm_settle_115 : decode prog_12_method_19_code 115 = .ok (.iconst 1, 1) := by decide +kernel
theorem dd_mm_settle_116 : decode prog_12_method_19_code 116 = .ok (.bastore, 1) := by decide +kernel
theorem dd_mm_settle_117 : decode prog_12_method_19_code 117 = .ok (.aload_n 0, 1) := by decide +kernel
theorem dd_mm_settle_118 : decode prog_12_method_19_code 118 = .ok (.getfield 30, 3) := by decide +kernel
theorem dd_mm_settle_121 : decode prog_12_method_19_code 121 = .ok (.iload_n 2, 1) := by decide +kernel
theorem dd_mm_settle_122 : decode prog_12_method_19_code 122 = .ok (.iload 4, 2) := by decide +kernel
theorem dd_mm_settle_124 : decode prog_12_method_19_code 124 = .ok (.iload_n 2, 1) := by decide +kernel
theorem dd_mm_settle_125 : decode prog_12_method_19_code 125 = .ok (.if_icmp .ne 7, 3) := by decide +kernel
theorem dd_mm_settle_128 : decode prog_12_method_19_code 128 = .ok (.iconst 0, 1) := by decide +kernel
theorem dd_mm_settle_129 : decode prog_12_method_19_code 129 = .ok (.goto 4, 3) := by decide +kernel
theorem dd_mm_settle_132 : decode prog_12_method_19_code 132 = .ok (.iload_n 3, 1) := by decide +kernel
theorem dd_mm_settle_133 : decode prog_12_method_19_code 133 = .ok (.iastore, 1) := by decide +kernel
theorem dd_mm_settle_134 : decode prog_12_method_19_code 134 = .ok (.iconst 0, 1) := by decide +kernel
theorem dd_mm_settle_135 : decode prog_12_method_19_code 135 = .ok (.istore 5, 2) := by decide +kernel
theorem dd_mm_settle_137 : decode prog_12_method_19_code 137 = .ok (.iload 5, 2) := by decide +kernel
theorem dd_mm_settle_139 : decode prog_12_method_19_code 139 = .ok (.aload_n 0, 1) := by decide +kernel
theorem dd_mm_settle_140 : decode prog_12_method_19_code 140 = .ok (.getfield 144, 3) := by decide +kernel
theorem dd_mm_settle_143 : decode prog_12_method_19_code 143 = .ok (.if_icmp .ge 73, 3) := by decide +kernel
theorem dd_mm_settle_146 : decode prog_12_method_19_code 146 = .ok (.aload_n 0, 1) := by decide +kernel
theorem dd_mm_settle_147 : decode prog_12_method_19_code 147 = .ok (.getfield 54, 3) := by decide +kernel
theorem dd_mm_settle_150 : decode prog_12_method_19_code 150 = .ok (.iload 5, 2) := by decide +kernel
theorem dd_mm_settle_152 : decode prog_12_method_19_code 152 = .ok (.iaload, 1) := by decide +kernel
theorem dd_mm_settle_153 : decode prog_12_method_19_code 153 = .ok (.iload_n 2, 1) := by decide +kernel
theorem dd_mm_settle_154 : decode prog_12_method_19_code 154 = .ok (.if_icmp .ne 56, 3) := by decide +kernel
theorem dd_mm_settle_157 : decode prog_12_method_19_code 157 = .ok (.aload_n 0, 1) := by decide +kernel
theorem dd_mm_settle_158 : decode prog_12_method_19_code 158 = .ok (.getfield 60, 3) := by decide +kernel
theorem dd_mm_settle_161 : decode prog_12_method_19_code 161 = .ok (.iload 5, 2) := by decide +kernel
theorem dd_mm_settle_163 : decode prog_12_method_19_code 163 = .ok (.iaload, 1) := by decide +kernel
theorem dd_mm_settle_164 : decode prog_12_method_19_code 164 = .ok (.istore 6, 2) := by decide +kernel
theorem dd_mm_settle_166 : decode prog_12_method_19_code 166 = .ok (.aload_n 0, 1) := by decide +kernel
theorem dd_mm_settle_167 : decode prog_12_method_19_code 167 = .ok (.getfield 63, 3) := by decide +kernel
theorem dd_mm_settle_170 : decode prog_12_method_19_code 170 = .ok (.iload 5, 2) := by decide +kernel
theorem dd_mm_settle_172 : decode prog_12_method_19_code 172 = .ok (.iaload, 1) := by decide +kernel
theorem dd_mm_settle_173 : decode prog_12_method_19_code 173 = .ok (.istore 7, 2) := by decide +kernel
theorem dd_mm_settle_175 : decode prog_12_method_19_code 175 = .ok (.aload_n 0, 1) := by decide +kernel
theorem dd_mm_settle_176 : decode prog_12_method_19_code 176 = .ok (.getfield 66, 3) := by decide +kernel
theorem dd_mm_settle_179 : decode prog_12_method_19_code 179 = .ok (.iload 5, 2) := by decide +kernel
theorem dd_mm_settle_181 : decode prog_12_method_19_code 181 = .ok (.iaload, 1) := by decide +kernel
theorem dd_mm_settle_182 : decode prog_12_method_19_code 182 = .ok (.istore 8, 2) := by decide +kernel
theorem dd_mm_settle_184 : decode prog_12_method_19_code 184 = .ok (.aload_n 0, 1) := by decide +kernel
theorem dd_mm_settle_185 : decode prog_12_method_19_code 185 = .ok (.iload 5, 2) := by decide +kernel
theorem dd_mm_settle_187 : decode prog_12_method_19_code 187 = .ok (.invokevirtual 163, 3) := by decide +kernel
theorem dd_mm_settle_190 : decode prog_12_method_19_code 190 = .ok (.aload_n 0, 1) := by decide +kernel
theorem dd_mm_settle_191 : decode prog_12_method_19_code 191 = .ok (.iload_n 1, 1) := by decide +kernel
theorem dd_mm_settle_192 : decode prog_12_method_19_code 192 = .ok (.aload_n 0, 1) := by decide +kernel
theorem dd_mm_settle_193 : decode prog_12_method_19_code 193 = .ok (.getfield 30, 3) := by decide +kernel
theorem dd_mm_settle_196 : decode prog_12_method_19_code 196 = .ok (.iload_n 2, 1) := by decide +kernel
theorem dd_mm_settle_197 : decode prog_12_method_19_code 197 = .ok (.iaload, 1) := by decide +kernel
theorem dd_mm_settle_198 : decode prog_12_method_19_code 198 = .ok (.iload 6, 2) := by decide +kernel
theorem dd_mm_settle_200 : decode prog_12_method_19_code 200 = .ok (.iload 7, 2) := by decide +kernel
theorem dd_mm_settle_202 : decode prog_12_method_19_code 202 = .ok (.iload 8, 2) := by decide +kernel
theorem dd_mm_settle_204 : decode prog_12_method_19_code 204 = .ok (.invokevirtual 130, 3) := by decide +kernel
theorem dd_mm_settle_207 : decode prog_12_method_19_code 207 = .ok (.goto (-70), 3) := by decide +kernel
theorem dd_mm_settle_210 : decode prog_12_method_19_code 210 = .ok (.iinc 5 1, 3) := by decide +kernel
theorem dd_mm_settle_213 : decode prog_12_method_19_code 213 = .ok (.goto (-76), 3) := by decide +kernel
theorem dd_mm_settle_216 : decode prog_12_method_19_code 216 = .ok (.return_, 1) := by decide +kernel
set_option maxHeartbeats 4000000 in
set_option maxRecDepth 100000 in
theorem kb_mm_settle_b137 {p : Program} {l : Launch} {e : Env} {s : State} {m : MethodId} {args : Array Value} {below : List Frame} {meth : Method} {c : Code} {D : va_G} {ac : Nat → ClassId} {a0 : Nat} {gl : gl_T} {rF : Unit} {stF : st_S} {iT jT : Nat}
    (X : cx_ p s m args c prog_12_method_19_code 9 "PromiseVatsModel" tb_ D cl_ (ty_ ac)) (hKs : kn_ D ac a0 gl s) (hlk : meth.locks = false) (hret : meth.sig.returnType = (Option.none : Option FieldType)) (hnm : meth.name = "settle") : wk_ p l e 3 77 s m args below meth c D cl_ ac a0 9 vb_u rF stF iT jT 137 (fun x : Option Nat × Int32 × Int32 × Int32 => [(0, (va_rf x.1)), (1, (.int x.2.1)), (2, (.int x.2.2.1)), (5, (.int x.2.2.2))]) (fun x : Option Nat × Int32 × Int32 × Int32 => []) (st_it (fun rec137 => (fun x : Option Nat × Int32 × Int32 × Int32 => mm_settle_b137 gl rec137 x.1 x.2.1 x.2.2.1 x.2.2.2)) fu_) := by
  refine wk_it ?_ _
  intro rec137 hr137 x st H locs cells slots i j ls hw hl h hci hcj
  obtain ⟨p0, p1, p2, p5⟩ := x
  have h : mm_settle_b137 gl rec137 p0 p1 p2 p5 st = some (rF, stF, i, j) := h
  unfold mm_settle_b137 at h
  have hl : lh_ ls 9 [(0, (va_rf p0)), (1, (.int p1)), (2, (.int p2)), (5, (.int p5))] := hl
  refine W.eq (g2 := F0 m 137 ls []) rfl ?_
  refine lv_iload X.1 X.2.1 dd_mm_settle_137 (lv_at hl.1 3 rfl) ?_
  refine rr_aldn X dd_mm_settle_139 rfl (lv_at hl.1 0 rfl) ?_
  obtain ⟨t44, ht44, h⟩ := st_g_some h
  refine rr_geti X hw ff_10_18 ht44 tw_474 (Or.inl rfl) dd_mm_settle_140 ?_
  by_cases hc143 : t44 ≤ p5
  · rw [if_pos hc143] at h
    refine lv_icmp_ge (tgt := 216) X.1 X.2.1 dd_mm_settle_143 (by decide) (fun _ => ?_) (fun z => absurd hc143 z)
    obtain ⟨rfl, rfl, rfl, rfl⟩ := st_r_some h
    exact rr_vret X hw hlk hret hci hcj dd_mm_settle_216
  · rw [if_neg hc143] at h
    refine lv_icmp_ge (tgt := 216) X.1 X.2.1 dd_mm_settle_143 (by decide) (fun z => absurd z hc143) (fun _ => ?_)
    refine rr_aldn X dd_mm_settle_146 rfl (lv_at hl.1 0 rfl) ?_
    obtain ⟨t45, ht45, h⟩ := st_g_some h
    refine rr_getq X hw ff_10_19 ht45 tw_450 (Or.inl rfl) dd_mm_settle_147 ?_
    refine lv_iload X.1 X.2.1 dd_mm_settle_150 (lv_at hl.1 3 rfl) ?_
    obtain ⟨t46, ht46, h⟩ := st_g_some h
    refine rr_iald (t := 0) X hw rfl ht46 dd_mm_settle_152 ?_
    refine lv_iload_n X.1 X.2.1 dd_mm_settle_153 rfl (lv_at hl.1 2 rfl) ?_
    by_cases hc154 : t46 = p2
    · rw [if_pos hc154] at h
      refine lv_icmp_ne (tgt := 210) X.1 X.2.1 dd_mm_settle_154 (by decide) (fun z => absurd hc154 z) (fun _ => ?_)
      refine rr_aldn X dd_mm_settle_157 rfl (lv_at hl.1 0 rfl) ?_
      obtain ⟨t47, ht47, h⟩ := st_g_some h
      refine rr_getq X hw ff_10_21 ht47 tw_448 (Or.inl rfl) dd_mm_settle_158 ?_
      refine lv_iload X.1 X.2.1 dd_mm_settle_161 (lv_at hl.1 3 rfl) ?_
      obtain ⟨t48, ht48, h⟩ := st_g_some h
      refine rr_iald (t := 0) X hw rfl ht48 dd_mm_settle_163 ?_
      refine rr_ist (lv' := [(6, (.int t48)), (0, (va_rf p0)), (1, (.int p1)), (2, (.int p2)), (5, (.int p5))]) X dd_mm_settle_164 hl (by decide) rfl (fun ls hl => ?_)
      refine rr_aldn X dd_mm_settle_166 rfl (lv_at hl.1 1 rfl) ?_
      obtain ⟨t49, ht49, h⟩ := st_g_some h
      refine rr_getq X hw ff_10_22 ht49 tw_447 (Or.inl rfl) dd_mm_settle_167 ?_
      refine lv_iload X.1 X.2.1 dd_mm_settle_170 (lv_at hl.1 4 rfl) ?_
      obtain ⟨t50, ht50, h⟩ := st_g_some h
      refine rr_iald (t := 0) X hw rfl ht50 dd_mm_settle_172 ?_
      refine rr_ist (lv' := [(7, (.int t50)), (6, (.int t48)), (0, (va_rf p0)), (1, (.int p1)), (2, (.int p2)), (5, (.int p5))]) X dd_mm_settle_173 hl (by decide) rfl (fun ls hl => ?_)
      refine rr_aldn X dd_mm_settle_175 rfl (lv_at hl.1 2 rfl) ?_
      obtain ⟨t51, ht51, h⟩ := st_g_some h
      refine rr_getq X hw ff_10_23 ht51 tw_446 (Or.inl rfl) dd_mm_settle_176 ?_
      refine lv_iload X.1 X.2.1 dd_mm_settle_179 (lv_at hl.1 5 rfl) ?_
      obtain ⟨t52, ht52, h⟩ := st_g_some h
      refine rr_iald (t := 0) X hw rfl ht52 dd_mm_settle_181 ?_
      refine rr_ist (lv' := [(8, (.int t52)), (7, (.int t50)), (6, (.int t48)), (0, (va_rf p0)), (1, (.int p1)), (2, (.int p2)), (5, (.int p5))]) X dd_mm_settle_182 hl (by decide) rfl (fun ls hl => ?_)
      refine rr_aldn X dd_mm_settle_184 rfl (lv_at hl.1 3 rfl) ?_
      refine lv_iload X.1 X.2.1 dd_mm_settle_185 (lv_at hl.1 6 rfl) ?_
      obtain ⟨t72, ht72, h⟩ := st_g_some h
      obtain ⟨t53, t54, t55, t56, t57, t58, ht53, h, ei, ej⟩ := st_b_some h
      refine rr_callV (n := 1) (As := [(.int p5)]) (rest := []) X hw (kn_ok D ac a0 gl) hKs (kc_mm_unrest l D ac a0 gl p0 p5 _ _ _ _ _ ht53) tb_good tw_496 tw_469 tw_497 tw_498 se_49 ht72 (by decide +kernel) rfl (show 0 + 1 ≤ _ ∧ 8 + (3 + 11) + 0 ≤ _ from ⟨Nat.le_of_ble_eq_true rfl, Nat.le_of_ble_eq_true rfl⟩) (show cells + t55 ≤ iT ∧ slots + t56 ≤ jT from ⟨ar_1 hci ei, ar_1 hcj ej⟩) hl.1.1 (by simp [rf_cat, ic_cat]) rfl dd_mm_settle_187 (sk := []) rfl (fun H locs hw => ?_)
      have hci : cells + t55 + t57 = iT := ar_2 hci ei
      have hcj : slots + t56 + t58 = jT := ar_2 hcj ej
      clear ei ej
      generalize cells + t55 = t59 at hci ⊢
      generalize slots + t56 = t60 at hcj ⊢
      refine rr_aldn X dd_mm_settle_190 rfl (lv_at hl.1 3 rfl) ?_
      refine lv_iload_n X.1 X.2.1 dd_mm_settle_191 rfl (lv_at hl.1 4 rfl) ?_
      refine rr_aldn X dd_mm_settle_192 rfl (lv_at hl.1 3 rfl) ?_
      obtain ⟨t61, ht61, h⟩ := st_g_some h
      refine rr_getq X hw ff_10_9 ht61 tw_458 (Or.inl rfl) dd_mm_settle_193 ?_
      refine lv_iload_n X.1 X.2.1 dd_mm_settle_196 rfl (lv_at hl.1 5 rfl) ?_
      obtain ⟨t62, ht62, h⟩ := st_g_some h
      refine rr_iald (t := 0) X hw rfl ht62 dd_mm_settle_197 ?_
      refine lv_iload X.1 X.2.1 dd_mm_settle_198 (lv_at hl.1 2 rfl) ?_
      refine lv_iload X.1 X.2.1 dd_mm_settle_200 (lv_at hl.1 1 rfl) ?_
      refine lv_iload X.1 X.2.1 dd_mm_settle_202 (lv_at hl.1 0 rfl) ?_
      obtain ⟨t71, ht71, h⟩ := st_g_some h
      obtain ⟨t63, t64, t65, t66, t67, t68, ht63, h, ei, ej⟩ := st_b_some h
      refine rr_callV (n := 5) (As := [(.int p1), (.int t62), (.int t48), (.int t50), (.int t52)]) (rest := []) X hw (kn_ok D ac a0 gl) hKs (kc_mm_go l D ac a0 gl p0 p1 t62 t48 t50 t52 _ _ _ _ _ ht63) tb_good tw_492 tw_469 tw_493 tw_494 se_48 ht71 (by decide +kernel) rfl (show 2 + 1 ≤ _ ∧ 8 + (8 + 11) + 50 ≤ _ from ⟨Nat.le_of_ble_eq_true rfl, Nat.le_of_ble_eq_true rfl⟩) (show t59 + t65 ≤ iT ∧ t60 + t66 ≤ jT from ⟨ar_1 hci ei, ar_1 hcj ej⟩) hl.1.1 (by simp [rf_cat, ic_cat]) rfl dd_mm_settle_204 (sk := []) rfl (fun H locs hw => ?_)
      have hci : t59 + t65 + t67 = iT := ar_2 hci ei
      have hcj : t60 + t66 + t68 = jT := ar_2 hcj ej
      clear ei ej
      generalize t59 + t65 = t69 at hci ⊢
      generalize t60 + t66 = t70 at hcj ⊢
      refine lv_goto (tgt := 137) X.1 X.2.1 dd_mm_settle_207 (by decide) ?_
      exact hr137 (p0, p1, p2, p5) _ _ _ _ _ _ _ _ hw (lh_pk hl [3, 4, 5, 6] rfl) h hci hcj
    · rw [if_neg hc154] at h
      refine lv_icmp_ne (tgt := 210) X.1 X.2.1 dd_mm_settle_154 (by decide) (fun _ => ?_) (fun z => absurd z hc154)
      refine rr_iinc (k := 3) (v := (p5 + (1 : Int32))) (lv' := [(5, (.int (p5 + (1 : Int32)))), (0, (va_rf p0)), (1, (.int p1)), (2, (.int p2))]) X dd_mm_settle_210 hl rfl (by rw [show Int32.ofInt (1) = (1 : Int32) from by decide]) (by decide) rfl (fun ls hl => ?_)
      refine lv_goto (tgt := 137) X.1 X.2.1 dd_mm_settle_213 (by decide) ?_
      exact hr137 (p0, p1, p2, (p5 + (1 : Int32))) _ _ _ _ _ _ _ _ hw (lh_pk hl [1, 2, 3, 0] rfl) h hci hcj
set_option maxHeartbeats 4000000 in
set_option maxRecDepth 100000 in
theorem kb_mm_settle_b133 {p : Program} {l : Launch} {e : Env} {s : State} {m : MethodId} {args : Array Value} {below : List Frame} {meth : Method} {c : Code} {D : va_G} {ac : Nat → ClassId} {a0 : Nat} {gl : gl_T} {rF : Unit} {stF : st_S} {iT jT : Nat}
    (X : cx_ p s m args c prog_12_method_19_code 9 "PromiseVatsModel" tb_ D cl_ (ty_ ac)) (hKs : kn_ D ac a0 gl s) (hlk : meth.locks = false) (hret : meth.sig.returnType = (Option.none : Option FieldType)) (hnm : meth.name = "settle") : wk_ p l e 3 77 s m args below meth c D cl_ ac a0 9 vb_u rF stF iT jT 133 (fun x : Option Nat × Int32 × Int32 × Int32 × Int32 × Option Nat => [(0, (va_rf x.1)), (1, (.int x.2.1)), (2, (.int x.2.2.1))]) (fun x : Option Nat × Int32 × Int32 × Int32 × Int32 × Option Nat => [(.int x.2.2.2.1), (.int x.2.2.2.2.1), (va_rf x.2.2.2.2.2)]) (fun x : Option Nat × Int32 × Int32 × Int32 × Int32 × Option Nat => mm_settle_b133 gl x.1 x.2.1 x.2.2.1 x.2.2.2.1 x.2.2.2.2.1 x.2.2.2.2.2) := by
  intro x st H locs cells slots i j ls hw hl h hci hcj
  obtain ⟨p0, p1, p2, q0, q1, q2⟩ := x
  have h : mm_settle_b133 gl p0 p1 p2 q0 q1 q2 st = some (rF, stF, i, j) := h
  unfold mm_settle_b133 at h
  have hl : lh_ ls 9 [(0, (va_rf p0)), (1, (.int p1)), (2, (.int p2))] := hl
  refine W.eq (g2 := F0 m 133 ls [(.int q0), (.int q1), (va_rf q2)]) rfl ?_
  obtain ⟨t43, hp133, h⟩ := st_w_some h
  refine rr_iast (t := 0) X hw rfl hp133 dd_mm_settle_133 (fun H locs hw => ?_)
  refine lv_iconst (v := (0 : Int32)) X.1 X.2.1 dd_mm_settle_134 (by decide) ?_
  refine rr_ist (lv' := [(5, (.int (0 : Int32))), (0, (va_rf p0)), (1, (.int p1)), (2, (.int p2))]) X dd_mm_settle_135 hl (by decide) rfl (fun ls hl => ?_)
  exact (kb_mm_settle_b137 X hKs hlk hret hnm) (p0, p1, p2, (0 : Int32)) _ _ _ _ _ _ _ _ hw (lh_pk hl [1, 2, 3, 0] rfl) h hci hcj
set_option maxHeartbeats 4000000 in
set_option maxRecDepth 100000 in
theorem kb_mm_settle_b110 {p : Program} {l : Launch} {e : Env} {s : State} {m : MethodId} {args : Array Value} {below : List Frame} {meth : Method} {c : Code} {D : va_G} {ac : Nat → ClassId} {a0 : Nat} {gl : gl_T} {rF : Unit} {stF : st_S} {iT jT : Nat}
    (X : cx_ p s m args c prog_12_method_19_code 9 "PromiseVatsModel" tb_ D cl_ (ty_ ac)) (hKs : kn_ D ac a0 gl s) (hlk : meth.locks = false) (hret : meth.sig.returnType = (Option.none : Option FieldType)) (hnm : meth.name = "settle") : wk_ p l e 3 77 s m args below meth c D cl_ ac a0 9 vb_u rF stF iT jT 110 (fun x : Option Nat × Int32 × Int32 × Int32 × Int32 => [(0, (va_rf x.1)), (1, (.int x.2.1)), (2, (.int x.2.2.1)), (3, (.int x.2.2.2.1)), (4, (.int x.2.2.2.2))]) (fun x : Option Nat × Int32 × Int32 × Int32 × Int32 => []) (fun x : Option Nat × Int32 × Int32 × Int32 × Int32 => mm_settle_b110 gl x.1 x.2.1 x.2.2.1 x.2.2.2.1 x.2.2.2.2) := by
  intro x st H locs cells slots i j ls hw hl h hci hcj
  obtain ⟨p0, p1, p2, p3, p4⟩ := x
  have h : mm_settle_b110 gl p0 p1 p2 p3 p4 st = some (rF, stF, i, j) := h
  unfold mm_settle_b110 at h
  have hl : lh_ ls 9 [(0, (va_rf p0)), (1, (.int p1)), (2, (.int p2)), (3, (.int p3)), (4, (.int p4))] := hl
  refine W.eq (g2 := F0 m 110 ls []) rfl ?_
  refine rr_aldn X dd_mm_settle_110 rfl (lv_at hl.1 0 rfl) ?_
  obtain ⟨t40, ht40, h⟩ := st_g_some h
  refine rr_getq X hw ff_10_8 ht40 tw_459 (Or.inl rfl) dd_mm_settle_111 ?_
  refine lv_iload_n X.1 X.2.1 dd_mm_settle_114 rfl (lv_at hl.1 2 rfl) ?_
  refine lv_iconst (v := (1 : Int32)) X.1 X.2.1 dd_mm_settle_115 (by decide) ?_
  obtain ⟨_, hz116, h⟩ := st_g_some h
  obtain ⟨t41, hp116, h⟩ := st_w_some h
  refine rr_zast (t := 2) X hw rfl hz116 hp116 dd_mm_settle_116 (fun H locs hw => ?_)
  refine rr_aldn X dd_mm_settle_117 rfl (lv_at hl.1 0 rfl) ?_
  obtain ⟨t42, ht42, h⟩ := st_g_some h
  refine rr_getq X hw ff_10_9 ht42 tw_458 (Or.inl rfl) dd_mm_settle_118 ?_
  refine lv_iload_n X.1 X.2.1 dd_mm_settle_121 rfl (lv_at hl.1 2 rfl) ?_
  refine lv_iload X.1 X.2.1 dd_mm_settle_122 (lv_at hl.1 4 rfl) ?_
  refine lv_iload_n X.1 X.2.1 dd_mm_settle_124 rfl (lv_at hl.1 2 rfl) ?_
  by_cases hc125 : p4 = p2
  · rw [if_pos hc125] at h
    refine lv_icmp_ne (tgt := 132) X.1 X.2.1 dd_mm_settle_125 (by decide) (fun z => absurd hc125 z) (fun _ => ?_)
    refine lv_iconst (v := (0 : Int32)) X.1 X.2.1 dd_mm_settle_128 (by decide) ?_
    refine lv_goto (tgt := 133) X.1 X.2.1 dd_mm_settle_129 (by decide) ?_
    exact (kb_mm_settle_b133 X hKs hlk hret hnm) (p0, p1, p2, (0 : Int32), p2, t42) _ _ _ _ _ _ _ _ hw (lh_pk hl [0, 1, 2] rfl) h hci hcj
  · rw [if_neg hc125] at h
    refine lv_icmp_ne (tgt := 132) X.1 X.2.1 dd_mm_settle_125 (by decide) (fun _ => ?_) (fun z => absurd z hc125)
    refine lv_iload_n X.1 X.2.1 dd_mm_settle_132 rfl (lv_at hl.1 3 rfl) ?_
    exact (kb_mm_settle_b133 X hKs hlk hret hnm) (p0, p1, p2, p3, p2, t42) _ _ _ _ _ _ _ _ hw (lh_pk hl [0, 1, 2] rfl) h hci hcj
set_option maxHeartbeats 4000000 in
set_option maxRecDepth 100000 in
theorem kb_mm_settle_b72 {p : Program} {l : Launch} {e : Env} {s : State} {m : MethodId} {args : Array Value} {below : List Frame} {meth : Method} {c : Code} {D : va_G} {ac : Nat → ClassId} {a0 : Nat} {gl : gl_T} {rF : Unit} {stF : st_S} {iT jT : Nat}
    (X : cx_ p s m args c prog_12_method_19_code 9 "PromiseVatsModel" tb_ D cl_ (ty_ ac)) (hKs : kn_ D ac a0 gl s) (hlk : meth.locks = false) (hret : meth.sig.returnType = (Option.none : Option FieldType)) (hnm : meth.name = "settle") : wk_ p l e 3 77 s m args below meth c D cl_ ac a0 9 vb_u rF stF iT jT 72 (fun x : Option Nat × Int32 × Int32 × Int32 × Int32 × Int32 => [(0, (va_rf x.1)), (1, (.int x.2.1)), (2, (.int x.2.2.1)), (3, (.int x.2.2.2.1)), (4, (.int x.2.2.2.2.1)), (5, (.int x.2.2.2.2.2))]) (fun x : Option Nat × Int32 × Int32 × Int32 × Int32 × Int32 => []) (st_it (fun rec72 => (fun x : Option Nat × Int32 × Int32 × Int32 × Int32 × Int32 => mm_settle_b72 gl rec72 x.1 x.2.1 x.2.2.1 x.2.2.2.1 x.2.2.2.2.1 x.2.2.2.2.2)) fu_) := by
  refine wk_it ?_ _
  intro rec72 hr72 x st H locs cells slots i j ls hw hl h hci hcj
  obtain ⟨p0, p1, p2, p3, p4, p5⟩ := x
  have h : mm_settle_b72 gl rec72 p0 p1 p2 p3 p4 p5 st = some (rF, stF, i, j) := h
  unfold mm_settle_b72 at h
  have hl : lh_ ls 9 [(0, (va_rf p0)), (1, (.int p1)), (2, (.int p2)), (3, (.int p3)), (4, (.int p4)), (5, (.int p5))] := hl
  refine W.eq (g2 := F0 m 72 ls []) rfl ?_
  refine lv_iload X.1 X.2.1 dd_mm_settle_72 (lv_at hl.1 5 rfl) ?_
  refine lv_bipush (v := (100 : Int32)) X.1 X.2.1 dd_mm_settle_74 (by decide) ?_
  by_cases hc76 : (100 : Int32) < p5
  · rw [if_pos hc76] at h
    refine lv_icmp_gt (tgt := 110) X.1 X.2.1 dd_mm_settle_76 (by decide) (fun _ => ?_) (fun z => absurd hc76 z)
    exact (kb_mm_settle_b110 X hKs hlk hret hnm) (p0, p1, p2, p3, p4) _ _ _ _ _ _ _ _ hw (lh_pk hl [0, 1, 2, 3, 4] rfl) h hci hcj
  · rw [if_neg hc76] at h
    refine lv_icmp_gt (tgt := 110) X.1 X.2.1 dd_mm_settle_76 (by decide) (fun z => absurd z hc76) (fun _ => ?_)
    refine lv_iload X.1 X.2.1 dd_mm_settle_79 (lv_at hl.1 4 rfl) ?_
    refine lv_iload_n X.1 X.2.1 dd_mm_settle_81 rfl (lv_at hl.1 2 rfl) ?_
    by_cases hc82 : p4 = p2
    · rw [if_pos hc82] at h
      refine lv_icmp_eq (tgt := 110) X.1 X.2.1 dd_mm_settle_82 (by decide) (fun _ => ?_) (fun z => absurd hc82 z)
      exact (kb_mm_settle_b110 X hKs hlk hret hnm) (p0, p1, p2, p3, p4) _ _ _ _ _ _ _ _ hw (lh_pk hl [0, 1, 2, 3, 4] rfl) h hci hcj
    · rw [if_neg hc82] at h
      refine lv_icmp_eq (tgt := 110) X.1 X.2.1 dd_mm_settle_82 (by decide) (fun z => absurd z hc82) (fun _ => ?_)
      refine rr_aldn X dd_mm_settle_85 rfl (lv_at hl.1 0 rfl) ?_
      refine lv_iload_n X.1 X.2.1 dd_mm_settle_86 rfl (lv_at hl.1 1 rfl) ?_
      refine lv_iload X.1 X.2.1 dd_mm_settle_87 (lv_at hl.1 4 rfl) ?_
      obtain ⟨t39, ht39, h⟩ := st_g_some h
      obtain ⟨t29, t30, t31, t32, t33, t34, ht29, h, ei, ej⟩ := st_b_some h
      refine rr_callV (n := 2) (As := [(.int p1), (.int p4)]) (rest := []) X hw (kn_ok D ac a0 gl) hKs (kc_mm_passes l D ac a0 gl p0 p1 p4 _ _ _ _ _ ht29) tb_good tw_475 tw_469 tw_476 tw_477 se_44 ht39 (by decide +kernel) rfl (show 0 + 1 ≤ _ ∧ 8 + (3 + 11) + 0 ≤ _ from ⟨Nat.le_of_ble_eq_true rfl, Nat.le_of_ble_eq_true rfl⟩) (show cells + t31 ≤ iT ∧ slots + t32 ≤ jT from ⟨ar_1 hci ei, ar_1 hcj ej⟩) hl.1.1 (by simp [rf_cat, ic_cat]) rfl dd_mm_settle_89 (sk := [(.int t29)]) rfl (fun H locs hw => ?_)
      have hci : cells + t31 + t33 = iT := ar_2 hci ei
      have hcj : slots + t32 + t34 = jT := ar_2 hcj ej
      clear ei ej
      generalize cells + t31 = t35 at hci ⊢
      generalize slots + t32 = t36 at hcj ⊢
      by_cases hc92 : t29 = 0
      · rw [if_pos hc92] at h
        refine lv_if_eq (tgt := 110) X.1 X.2.1 dd_mm_settle_92 (by decide) (fun _ => ?_) (fun z => absurd hc92 z)
        exact (kb_mm_settle_b110 X hKs hlk hret hnm) (p0, p1, p2, p3, p4) _ _ _ _ _ _ _ _ hw (lh_pk hl [0, 1, 2, 3, 4] rfl) h hci hcj
      · rw [if_neg hc92] at h
        refine lv_if_eq (tgt := 110) X.1 X.2.1 dd_mm_settle_92 (by decide) (fun z => absurd z hc92) (fun _ => ?_)
        refine rr_aldn X dd_mm_settle_95 rfl (lv_at hl.1 0 rfl) ?_
        obtain ⟨t37, ht37, h⟩ := st_g_some h
        refine rr_getq X hw ff_10_9 ht37 tw_458 (Or.inl rfl) dd_mm_settle_96 ?_
        refine lv_iload X.1 X.2.1 dd_mm_settle_99 (lv_at hl.1 4 rfl) ?_
        obtain ⟨t38, ht38, h⟩ := st_g_some h
        refine rr_iald (t := 0) X hw rfl ht38 dd_mm_settle_101 ?_
        refine rr_ist (lv' := [(4, (.int t38)), (0, (va_rf p0)), (1, (.int p1)), (2, (.int p2)), (3, (.int p3)), (5, (.int p5))]) X dd_mm_settle_102 hl (by decide) rfl (fun ls hl => ?_)
        refine rr_iinc (k := 5) (v := (p5 + (1 : Int32))) (lv' := [(5, (.int (p5 + (1 : Int32)))), (4, (.int t38)), (0, (va_rf p0)), (1, (.int p1)), (2, (.int p2)), (3, (.int p3))]) X dd_mm_settle_104 hl rfl (by rw [show Int32.ofInt (1) = (1 : Int32) from by decide]) (by decide) rfl (fun ls hl => ?_)
        refine lv_goto (tgt := 72) X.1 X.2.1 dd_mm_settle_107 (by decide) ?_
        exact hr72 (p0, p1, p2, p3, t38, (p5 + (1 : Int32))) _ _ _ _ _ _ _ _ hw (lh_pk hl [2, 3, 4, 5, 1, 0] rfl) h hci hcj
set_option maxHeartbeats 4000000 in
set_option maxRecDepth 100000 in
theorem kc_mm_settle (l : Launch) (D : va_G) (ac : Nat → ClassId) (a0 : Nat) (gl : gl_T) (v0 : Option Nat) (v1 : Int32) (v2 : Int32) (v3 : Int32) (st : st_S) (rF : Unit) (stF : st_S) (iT jT : Nat) (h : mm_settle gl v0 v1 v2 v3 st = some (rF, stF, iT, jT)) :
    ct_ l ⟨"PromiseVatsModel", "settle", "(III)V"⟩ (Cond.code ⟨"PromiseVatsModel", "settle", "(III)V"⟩ prog_12_method_19_code 9 (Option.none : Option FieldType) :: tb_) 3 77 D cl_ ac a0 (kn_ D ac a0 gl) [(va_rf v0), (.int v1), (.int v2), (.int v3)] st (vb_u rF) stF iT jT := by
  refine ct_of (kn_ok D ac a0 gl) (plainFor_of_name (by decide +kernel)) (by simp [rf_cat, ic_cat]) (by simp) ?_
  intro p e s m args below meth c ls X hw hKs hlk hret hnm hl
  unfold mm_settle at h
  have hl : lh_ ls 9 [(0, (va_rf v0)), (1, (.int v1)), (2, (.int v2)), (3, (.int v3))] := hl
  obtain ⟨z0, hz0⟩ : ∃ z : Nat, 0 = z := ⟨0, rfl⟩
  obtain ⟨z1, hz1⟩ : ∃ z : Nat, 0 = z := ⟨0, rfl⟩
  refine W.cs hz0 hz1 ?_
  have hci : z0 + iT = iT := by omega
  have hcj : z1 + jT = jT := by omega
  refine lv_iload_n X.1 X.2.1 dd_mm_settle_0 rfl (lv_at hl.1 2 rfl) ?_
  by_cases hc1 : v2 = 0
  · rw [if_pos hc1] at h
    refine lv_if_ne (tgt := 5) X.1 X.2.1 dd_mm_settle_1 (by decide) (fun z => absurd hc1 z) (fun _ => ?_)
    obtain ⟨rfl, rfl, rfl, rfl⟩ := st_r_some h
    exact rr_vret X hw hlk hret hci hcj dd_mm_settle_4
  · rw [if_neg hc1] at h
    refine lv_if_ne (tgt := 5) X.1 X.2.1 dd_mm_settle_1 (by decide) (fun _ => ?_) (fun z => absurd z hc1)
    refine rr_aldn X dd_mm_settle_5 rfl (lv_at hl.1 0 rfl) ?_
    obtain ⟨t1, ht1, h⟩ := st_g_some h
    refine rr_getq X hw ff_10_6 ht1 tw_461 (Or.inl rfl) dd_mm_settle_6 ?_
    refine lv_iload_n X.1 X.2.1 dd_mm_settle_9 rfl (lv_at hl.1 2 rfl) ?_
    obtain ⟨t2, ht2, h⟩ := st_g_some h
    refine rr_bald (t := 1) X hw rfl ht2 dd_mm_settle_10 ?_
    refine lv_iload_n X.1 X.2.1 dd_mm_settle_11 rfl (lv_at hl.1 1 rfl) ?_
    by_cases hc12 : t2 = v1
    · rw [if_pos hc12] at h
      refine lv_icmp_eq (tgt := 47) X.1 X.2.1 dd_mm_settle_12 (by decide) (fun _ => ?_) (fun z => absurd hc12 z)
      refine rr_aldn X dd_mm_settle_47 rfl (lv_at hl.1 0 rfl) ?_
      obtain ⟨t3, ht3, h⟩ := st_g_some h
      refine rr_getq X hw ff_10_7 ht3 tw_460 (Or.inl rfl) dd_mm_settle_48 ?_
      refine lv_iload_n X.1 X.2.1 dd_mm_settle_51 rfl (lv_at hl.1 2 rfl) ?_
      obtain ⟨t4, ht4, h⟩ := st_g_some h
      refine rr_zald (t := 2) X hw rfl ht4 dd_mm_settle_52 ?_
      by_cases hc53 : t4 = 0
      · rw [if_pos hc53] at h
        refine lv_if_ne (tgt := 65) X.1 X.2.1 dd_mm_settle_53 (by decide) (fun z => absurd hc53 z) (fun _ => ?_)
        refine rr_aldn X dd_mm_settle_56 rfl (lv_at hl.1 0 rfl) ?_
        obtain ⟨t5, ht5, h⟩ := st_g_some h
        refine rr_getq X hw ff_10_8 ht5 tw_459 (Or.inl rfl) dd_mm_settle_57 ?_
        refine lv_iload_n X.1 X.2.1 dd_mm_settle_60 rfl (lv_at hl.1 2 rfl) ?_
        obtain ⟨t6, ht6, h⟩ := st_g_some h
        refine rr_zald (t := 2) X hw rfl ht6 dd_mm_settle_61 ?_
        by_cases hc62 : t6 = 0
        · rw [if_pos hc62] at h
          refine lv_if_eq (tgt := 66) X.1 X.2.1 dd_mm_settle_62 (by decide) (fun _ => ?_) (fun z => absurd hc62 z)
          refine lv_iload_n X.1 X.2.1 dd_mm_settle_66 rfl (lv_at hl.1 3 rfl) ?_
          refine rr_ist (lv' := [(4, (.int v3)), (0, (va_rf v0)), (1, (.int v1)), (2, (.int v2)), (3, (.int v3))]) X dd_mm_settle_67 hl (by decide) rfl (fun ls hl => ?_)
          refine lv_iconst (v := (0 : Int32)) X.1 X.2.1 dd_mm_settle_69 (by decide) ?_
          refine rr_ist (lv' := [(5, (.int (0 : Int32))), (4, (.int v3)), (0, (va_rf v0)), (1, (.int v1)), (2, (.int v2)), (3, (.int v3))]) X dd_mm_settle_70 hl (by decide) rfl (fun ls hl => ?_)
          exact (kb_mm_settle_b72 X hKs hlk hret hnm) (v0, v1, v2, v3, v3, (0 : Int32)) _ _ _ _ _ _ _ _ hw (lh_pk hl [2, 3, 4, 5, 1, 0] rfl) h hci hcj
        · rw [if_neg hc62] at h
          refine lv_if_eq (tgt := 66) X.1 X.2.1 dd_mm_settle_62 (by decide) (fun z => absurd z hc62) (fun _ => ?_)
          obtain ⟨rfl, rfl, rfl, rfl⟩ := st_r_some h
          exact rr_vret X hw hlk hret hci hcj dd_mm_settle_65
      · rw [if_neg hc53] at h
        refine lv_if_ne (tgt := 65) X.1 X.2.1 dd_mm_settle_53 (by decide) (fun _ => ?_) (fun z => absurd z hc53)
        obtain ⟨rfl, rfl, rfl, rfl⟩ := st_r_some h
        exact rr_vret X hw hlk hret hci hcj dd_mm_settle_65
    · rw [if_neg hc12] at h
      refine lv_icmp_eq (tgt := 47) X.1 X.2.1 dd_mm_settle_12 (by decide) (fun z => absurd z hc12) (fun _ => ?_)
      refine rr_aldn X dd_mm_settle_15 rfl (lv_at hl.1 0 rfl) ?_
      refine lv_iload_n X.1 X.2.1 dd_mm_settle_16 rfl (lv_at hl.1 1 rfl) ?_
      refine rr_aldn X dd_mm_settle_17 rfl (lv_at hl.1 0 rfl) ?_
      obtain ⟨t7, ht7, h⟩ := st_g_some h
      refine rr_getq X hw ff_10_6 ht7 tw_461 (Or.inl rfl) dd_mm_settle_18 ?_
      refine lv_iload_n X.1 X.2.1 dd_mm_settle_21 rfl (lv_at hl.1 2 rfl) ?_
      obtain ⟨t8, ht8, h⟩ := st_g_some h
      refine rr_bald (t := 1) X hw rfl ht8 dd_mm_settle_22 ?_
      refine lv_iload_n X.1 X.2.1 dd_mm_settle_23 rfl (lv_at hl.1 3 rfl) ?_
      obtain ⟨t28, ht28, h⟩ := st_g_some h
      obtain ⟨t9, t10, t11, t12, t13, t14, ht9, h, ei, ej⟩ := st_b_some h
      refine rr_callV (n := 3) (As := [(.int v1), (.int t8), (.int v3)]) (rest := []) X hw (kn_ok D ac a0 gl) hKs (kc_mm_pack l D ac a0 gl v0 v1 t8 v3 _ _ _ _ _ ht9) tb_good tw_483 tw_469 tw_484 tw_485 se_46 ht28 (by decide +kernel) rfl (show 1 + 1 ≤ _ ∧ 8 + (5 + 11) + 26 ≤ _ from ⟨Nat.le_of_ble_eq_true rfl, Nat.le_of_ble_eq_true rfl⟩) (show z0 + t11 ≤ iT ∧ z1 + t12 ≤ jT from ⟨ar_1 hci ei, ar_1 hcj ej⟩) hl.1.1 (by simp [rf_cat, ic_cat]) rfl dd_mm_settle_24 (sk := []) rfl (fun H locs hw => ?_)
      have hci : z0 + t11 + t13 = iT := ar_2 hci ei
      have hcj : z1 + t12 + t14 = jT := ar_2 hcj ej
      clear ei ej
      generalize z0 + t11 = t15 at hci ⊢
      generalize z1 + t12 = t16 at hcj ⊢
      refine rr_aldn X dd_mm_settle_27 rfl (lv_at hl.1 0 rfl) ?_
      refine lv_iconst (v := (2 : Int32)) X.1 X.2.1 dd_mm_settle_28 (by decide) ?_
      refine lv_iconst (v := (4 : Int32)) X.1 X.2.1 dd_mm_settle_29 (by decide) ?_
      refine lv_iload_n X.1 X.2.1 dd_mm_settle_30 rfl (lv_at hl.1 1 rfl) ?_
      refine lv_imul X.1 X.2.1 dd_mm_settle_31 ?_
      refine rr_aldn X dd_mm_settle_32 rfl (lv_at hl.1 0 rfl) ?_
      obtain ⟨t17, ht17, h⟩ := st_g_some h
      refine rr_getq X hw ff_10_6 ht17 tw_461 (Or.inl rfl) dd_mm_settle_33 ?_
      refine lv_iload_n X.1 X.2.1 dd_mm_settle_36 rfl (lv_at hl.1 2 rfl) ?_
      obtain ⟨t18, ht18, h⟩ := st_g_some h
      refine rr_bald (t := 1) X hw rfl ht18 dd_mm_settle_37 ?_
      refine lv_iadd X.1 X.2.1 dd_mm_settle_38 ?_
      refine lv_iload_n X.1 X.2.1 dd_mm_settle_39 rfl (lv_at hl.1 2 rfl) ?_
      refine lv_iconst (v := (0 : Int32)) X.1 X.2.1 dd_mm_settle_40 (by decide) ?_
      refine lv_iload_n X.1 X.2.1 dd_mm_settle_41 rfl (lv_at hl.1 3 rfl) ?_
      refine lv_iconst (v := (0 : Int32)) X.1 X.2.1 dd_mm_settle_42 (by decide) ?_
      obtain ⟨t27, ht27, h⟩ := st_g_some h
      obtain ⟨t19, t20, t21, t22, t23, t24, ht19, h, ei, ej⟩ := st_b_some h
      refine rr_callV (n := 6) (As := [(.int (2 : Int32)), (.int (((4 : Int32) * v1) + t18)), (.int v2), (.int (0 : Int32)), (.int v3), (.int (0 : Int32))]) (rest := []) X hw (kn_ok D ac a0 gl) hKs (kc_mm_post l D ac a0 gl v0 (2 : Int32) (((4 : Int32) * v1) + t18) v2 (0 : Int32) v3 (0 : Int32) _ _ _ _ _ ht19) tb_good tw_470 tw_469 tw_471 tw_472 se_43 ht27 (by decide +kernel) rfl (show 0 + 1 ≤ _ ∧ 8 + (7 + 11) + 0 ≤ _ from ⟨Nat.le_of_ble_eq_true rfl, Nat.le_of_ble_eq_true rfl⟩) (show t15 + t21 ≤ iT ∧ t16 + t22 ≤ jT from ⟨ar_1 hci ei, ar_1 hcj ej⟩) hl.1.1 (by simp [rf_cat, ic_cat]) rfl dd_mm_settle_43 (sk := []) rfl (fun H locs hw => ?_)
      have hci : t15 + t21 + t23 = iT := ar_2 hci ei
      have hcj : t16 + t22 + t24 = jT := ar_2 hcj ej
      clear ei ej
      generalize t15 + t21 = t25 at hci ⊢
      generalize t16 + t22 = t26 at hcj ⊢
      obtain ⟨rfl, rfl, rfl, rfl⟩ := st_r_some h
      exact rr_vret X hw hlk hret hci hcj dd_mm_settle_46
