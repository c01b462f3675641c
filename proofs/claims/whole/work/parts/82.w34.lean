/-! PromiseVatsModel.turn(I)I -/
theorem dd_mm_turn_0 : decode prog_12_method_28_code 0 = .ok (.iconst 0, 1) := by decide +kernel
theorem dd_mm_turn_1 : decode prog_12_method_28_code 1 = .ok (.istore_n 2, 1) := by decide +kernel
theorem dd_mm_turn_2 : decode prog_12_method_28_code 2 = .ok (.iload_n 2, 1) := by decide +kernel
theorem dd_mm_turn_3 : decode prog_12_method_28_code 3 = .ok (.aload_n 0, 1) := by decide +kernel
theorem dd_mm_turn_4 : decode prog_12_method_28_code 4 = .ok (.getfield 144, 3) := by decide +kernel
theorem dd_mm_turn_7 : decode prog_12_method_28_code 7 = .ok (.if_icmp .ge 19, 3) := by decide +kernel
theorem dd_mm_turn_10 : decode prog_12_method_28_code 10 = .ok (.aload_n 0, 1) := by decide +kernel
theorem dd_mm_turn_11 : decode prog_12_method_28_code 11 = .ok (.getfield 54, 3) := by decide +kernel
theorem dd_mm_turn_14 : decode prog_12_method_28_code 14 = .ok (.iload_n 2, 1) := by decide +kernel
theorem dd_mm_turn_15 : decode prog_12_method_28_code 15 = .ok (.iaload, 1) := by decide +kernel
theorem dd_mm_turn_16 : decode prog_12_method_28_code 16 = .ok (.iload_n 1, 1) := by decide +kernel
theorem dd_mm_turn_17 : decode prog_12_method_28_code 17 = .ok (.if_icmp .eq 9, 3) := by decide +kernel
theorem dd_mm_turn_20 : decode prog_12_method_28_code 20 = .ok (.iinc 2 1, 3) := by decide +kernel
theorem dd_mm_turn_23 : decode prog_12_method_28_code 23 = .ok (.goto (-21), 3) := by decide +kernel
theorem dd_mm_turn_26 : decode prog_12_method_28_code 26 = .ok (.aload_n 0, 1) := by decide +kernel
theorem dd_mm_turn_27 : decode prog_12_method_28_code 27 = .ok (.iload_n 1, 1) := by decide +kernel
theorem dd_mm_turn_28 : decode prog_12_method_28_code 28 = .ok (.invokevirtual 115, 3) := by decide +kernel
theorem dd_mm_turn_31 : decode prog_12_method_28_code 31 = .ok (.ifCond .eq 11, 3) := by decide +kernel
theorem dd_mm_turn_34 : decode prog_12_method_28_code 34 = .ok (.iload_n 2, 1) := by decide +kernel
theorem dd_mm_turn_35 : decode prog_12_method_28_code 35 = .ok (.aload_n 0, 1) := by decide +kernel
theorem dd_mm_turn_36 : decode prog_12_method_28_code 36 = .ok (.getfield 144, 3) := by decide +kernel
theorem dd_mm_turn_39 : decode prog_12_method_28_code 39 = .ok (.if_icmp .lt 5, 3) := by decide +kernel
theorem dd_mm_turn_42 : decode prog_12_method_28_code 42 = .ok (.iconst (-1), 1) := by decide +kernel
theorem dd_mm_turn_43 : decode prog_12_method_28_code 43 = .ok (.ireturn, 1) := by decide +kernel
theorem dd_mm_turn_44 : decode prog_12_method_28_code 44 = .ok (.aload_n 0, 1) := by decide +kernel
theorem dd_mm_turn_45 : decode prog_12_method_28_code 45 = .ok (.getfield 57, 3) := by decide +kernel
theorem dd_mm_turn_48 : decode prog_12_method_28_code 48 = .ok (.iload_n 2, 1) := by decide +kernel
theorem dd_mm_turn_49 : decode prog_12_method_28_code 49 = .ok (.iaload, 1) := by decide +kernel
theorem dd_mm_turn_50 : decode prog_12_method_28_code 50 = .ok (.istore_n 3, 1) := by decide +kernel
theorem dd_mm_turn_51 : decode prog_12_method_28_code 51 = .ok (.aload_n 0, 1) := by decide +kernel
theorem dd_mm_turn_52 : decode prog_12_method_28_code 52 = .ok (.aload_n 0, 1) := by decide +kernel
theorem dd_mm_turn_53 : decode prog_12_method_28_code 53 = .ok (.getfield 60, 3) := by decide +kernel
theorem dd_mm_turn_56 : decode prog_12_method_28_code 56 = .ok (.iload_n 2, 1) := by decide +kernel
theorem dd_mm_turn_57 : decode prog_12_method_28_code 57 = .ok (.iaload, 1) := by decide +kernel
theorem dd_mm_turn_58 : decode prog_12_method_28_code 58 = .ok (.putfield 169, 3) := by decide +kernel
theorem dd_mm_turn_61 : decode prog_12_method_28_code 61 = .ok (.aload_n 0, 1) := by decide +kernel
theorem dd_mm_turn_62 : decode prog_12_method_28_code 62 = .ok (.aload_n 0, 1) := by decide +kernel
theorem dd_mm_turn_63 : decode prog_12_method_28_code 63 = .ok (.getfield 63, 3) := by decide +kernel
theorem dd_mm_turn_66 : decode prog_12_method_28_code 66 = .ok (.iload_n 2, 1) := by decide +kernel
theorem dd_mm_turn_67 : decode prog_12_method_28_code 67 = .ok (.iaload, 1) := by decide +kernel
theorem dd_mm_turn_68 : decode prog_12_method_28_code 68 = .ok (.putfield 172, 3) := by decide +kernel
theorem dd_mm_turn_71 : decode prog_12_method_28_code 71 = .ok (.aload_n 0, 1) := by decide +kernel
theorem dd_mm_turn_72 : decode prog_12_method_28_code 72 = .ok (.getfield 66, 3) := by decide +kernel
theorem dd_mm_turn_75 : decode prog_12_method_28_code 75 = .ok (.iload_n 2, 1) := by decide +kernel
theorem dd_mm_turn_76 : decode prog_12_method_28_code 76 = .ok (.iaload, 1) := by decide +kernel
theorem dd_mm_turn_77 : decode prog_12_method_28_code 77 = .ok (.istore 4, 2) := by decide +kernel
theorem dd_mm_turn_79 : decode prog_12_method_28_code 79 = .ok (.aload_n 0, 1) := by decide +kernel
theorem dd_mm_turn_80 : decode prog_12_method_28_code 80 = .ok (.iload_n 2, 1) := by decide +kernel
theorem dd_mm_turn_81 : decode prog_12_method_28_code 81 = .ok (.invokevirtual 163, 3) := by decide +kernel
theorem dd_mm_turn_84 : decode prog_12_method_28_code 84 = .ok (.aload_n 0, 1) := by decide +kernel
theorem dd_mm_turn_85 : decode prog_12_method_28_code 85 = .ok (.getfield 36, 3) := by decide +kernel
theorem dd_mm_turn_88 : decode prog_12_method_28_code 88 = .ok (.iload_n 3, 1) := by decide +kernel
theorem dd_mm_turn_89 : decode prog_12_method_28_code 89 = .ok (.baload, 1) := by decide +kernel
theorem dd_mm_turn_90 : decode prog_12_method_28_code 90 = .ok (.istore 5, 2) := by decide +kernel
theorem dd_mm_turn_92 : decode prog_12_method_28_code 92 = .ok (.iconst 0, 1) := by decide +kernel
theorem dd_mm_turn_93 : decode prog_12_method_28_code 93 = .ok (.istore 6, 2) := by decide +kernel
theorem dd_mm_turn_95 : decode prog_12_method_28_code 95 = .ok (.iload 6, 2) := by decide +kernel
theorem dd_mm_turn_97 : decode prog_12_method_28_code 97 = .ok (.aload_n 0, 1) := by decide +kernel
theorem dd_mm_turn_98 : decode prog_12_method_28_code 98 = .ok (.getfield 7, 3) := by decide +kernel
theorem dd_mm_turn_101 : decode prog_12_method_28_code 101 = .ok (.iload 5, 2) := by decide +kernel
theorem dd_mm_turn_103 : decode prog_12_method_28_code 103 = .ok (.iaload, 1) := by decide +kernel
theorem dd_mm_turn_104 : decode prog_12_method_28_code 104 = .ok (.if_icmp .ge 49, 3) := by decide +kernel
theorem dd_mm_turn_107 : decode prog_12_method_28_code 107 = .ok (.aload_n 0, 1) := by decide +kernel
theorem dd_mm_turn_108 : decode prog_12_method_28_code 108 = .ok (.iload_n 1, 1) := by decide +kernel
theorem dd_mm_turn_109 : decode prog_12_method_28_code 109 = .ok (.iload_n 3, 1) := by decide +kernel
theorem dd_mm_turn_110 : decode prog_12_method_28_code 110 = .ok (.aload_n 0, 1) := by decide +kernel
theorem dd_mm_turn_111 : decode prog_12_method_28_code 111 = .ok (.getfield 13, 3) := by decide +kernel
theorem dd_mm_turn_114 : decode prog_12_method_28_code 114 = .ok (.bipush 8, 2) := by decide +kernel
theorem dd_mm_turn_116 : decode prog_12_method_28_code 116 = .ok (.iload 5, 2) := by decide +kernel
theorem dd_mm_turn_118 : decode prog_12_method_28_code 118 = .ok (.imul, 1) := by decide +kernel
theorem dd_mm_turn_119 : decode prog_12_method_28_code 119 = .ok (.iload 6, 2) := by decide +kernel
theorem dd_mm_turn_121 : decode prog_12_method_28_code 121 = .ok (.iadd, 1) := by decide +kernel
theorem dd_mm_turn_122 : decode prog_12_method_28_code 122 = .ok (.iaload, 1) := by decide +kernel
theorem dd_mm_turn_123 : decode prog_12_method_28_code 123 = .ok (.aload_n 0, 1) := by decide +kernel
theorem dd_mm_turn_124 : decode prog_12_method_28_code 124 = .ok (.getfield 16, 3) := by decide +kernel
theorem dd_mm_turn_127 : decode prog_12_method_28_code 127 = .ok (.bipush 8, 2) := by decide +kernel
theorem dd_mm_turn_129 : decode prog_12_method_28_code 129 = .ok (.iload 5, 2) := by decide +kernel
theorem dd_mm_turn_131 : decode prog_12_method_28_code 131 = .ok (.imul, 1) := by decide +kernel
theorem dd_mm_turn_132 : decode prog_12_method_28_code 132 = .ok (.iload 6, 2) := by decide +kernel
theorem dd_mm_turn_134 : decode prog_12_method_28_code 134 = .ok (.iadd, 1) := by decide +kernel
theorem dd_mm_turn_135 : decode prog_12_method_28_code 135 = .ok (.iaload, 1) := by decide +kernel
theorem dd_mm_turn_136 : decode prog_12_method_28_code 136 = .ok (.invokevirtual 185, 3) := by decide +kernel
theorem dd_mm_turn_139 : decode prog_12_method_28_code 139 = .ok (.istore 7, 2) := by decide +kernel
theorem dd_mm_turn_141 : decode prog_12_method_28_code 141 = .ok (.iload 6, 2) := by decide +kernel
theorem dd_mm_turn_143 : decode prog_12_method_28_code 143 = .ok (.iconst 1, 1) := by decide +kernel
theorem dd_mm_turn_144 : decode prog_12_method_28_code 144 = .ok (.iadd, 1) := by decide +kernel
theorem dd_mm_turn_145 : decode prog_12_method_28_code 145 = .ok (.iload 7, 2) := by decide +kernel
theorem dd_mm_turn_147 : decode prog_12_method_28_code 147 = .ok (.iadd, 1) := by decide +kernel
theorem dd_mm_turn_148 : decode prog_12_method_28_code 148 = .ok (.istore 6, 2) := by decide +kernel
theorem dd_mm_turn_150 : decode prog_12_method_28_code 150 = .ok (.goto (-55), 3) := by decide +kernel
theorem dd_mm_turn_153 : decode prog_12_method_28_code 153 = .ok (.aload_n 0, 1) := by decide +kernel
theorem dd_mm_turn_154 : decode prog_12_method_28_code 154 = .ok (.iload_n 1, 1) := by decide +kernel
theorem dd_mm_turn_155 : decode prog_12_method_28_code 155 = .ok (.iload 4, 2) := by decide +kernel
theorem dd_mm_turn_157 : decode prog_12_method_28_code 157 = .ok (.aload_n 0, 1) := by decide +kernel
theorem dd_mm_turn_158 : decode prog_12_method_28_code 158 = .ok (.getfield 172, 3) := by decide +kernel
theorem dd_mm_turn_161 : decode prog_12_method_28_code 161 = .ok (.invokevirtual 134, 3) := by decide +kernel
theorem dd_mm_turn_164 : decode prog_12_method_28_code 164 = .ok (.aload_n 0, 1) := by decide +kernel
theorem dd_mm_turn_165 : decode prog_12_method_28_code 165 = .ok (.iload_n 1, 1) := by decide +kernel
theorem dd_mm_turn_166 : decode prog_12_method_28_code 166 = .ok (.invokevirtual 141, 3) := by decide +kernel
theorem dd_mm_turn_169 : decode prog_12_method_28_code 169 = .ok (.iload_n 3, 1) := by decide +kernel
theorem dd_mm_turn_170 : decode prog_12_method_28_code 170 = .ok (.ireturn, 1) := by decide +kernel
set_option maxHeartbeats 4000000 in
set_option maxRecDepth 100000 in
theorem kb_mm_turn_b42 {p : Program} {l : Launch} {e : Env} {s : State} {m : MethodId} {args : Array Value} {below : List Frame} {meth : Method} {c : Code} {D : va_G} {ac : Nat → ClassId} {a0 : Nat} {gl : gl_T} {rF : Int32} {stF : st_S} {iT jT : Nat}
    (X : cx_ p s m args c prog_12_method_28_code 8 "PromiseVatsModel" tb_ D cl_ (ty_ ac)) (hKs : kn_ D ac a0 gl s) (hlk : meth.locks = false) (hret : meth.sig.returnType = (Option.some FieldType.int)) (hnm : meth.name = "turn") : wk_ p l e 7 175 s m args below meth c D cl_ ac a0 8 vb_i rF stF iT jT 42 (fun x : Unit => []) (fun x : Unit => []) (fun _ : Unit => mm_turn_b42 gl) := by
  intro x st H locs cells slots i j ls hw hl h hci hcj
  have h : mm_turn_b42 gl  st = some (rF, stF, i, j) := h
  unfold mm_turn_b42 at h
  have hl : lh_ ls 8 [] := hl
  refine W.eq (g2 := F0 m 42 ls []) rfl ?_
  refine lv_iconst (v := (-1 : Int32)) X.1 X.2.1 dd_mm_turn_42 (by decide) ?_
  obtain ⟨rfl, rfl, rfl, rfl⟩ := st_r_some h
  exact rr_iret X hw hlk hret rfl hci hcj dd_mm_turn_43
set_option maxHeartbeats 4000000 in
set_option maxRecDepth 100000 in
theorem kb_mm_turn_b95 {p : Program} {l : Launch} {e : Env} {s : State} {m : MethodId} {args : Array Value} {below : List Frame} {meth : Method} {c : Code} {D : va_G} {ac : Nat → ClassId} {a0 : Nat} {gl : gl_T} {rF : Int32} {stF : st_S} {iT jT : Nat}
    (X : cx_ p s m args c prog_12_method_28_code 8 "PromiseVatsModel" tb_ D cl_ (ty_ ac)) (hKs : kn_ D ac a0 gl s) (hlk : meth.locks = false) (hret : meth.sig.returnType = (Option.some FieldType.int)) (hnm : meth.name = "turn") : wk_ p l e 7 175 s m args below meth c D cl_ ac a0 8 vb_i rF stF iT jT 95 (fun x : Option Nat × Int32 × Int32 × Int32 × Int32 × Int32 => [(0, (va_rf x.1)), (1, (.int x.2.1)), (3, (.int x.2.2.1)), (4, (.int x.2.2.2.1)), (5, (.int x.2.2.2.2.1)), (6, (.int x.2.2.2.2.2))]) (fun x : Option Nat × Int32 × Int32 × Int32 × Int32 × Int32 => []) (st_it (fun rec95 => (fun x : Option Nat × Int32 × Int32 × Int32 × Int32 × Int32 => mm_turn_b95 gl rec95 x.1 x.2.1 x.2.2.1 x.2.2.2.1 x.2.2.2.2.1 x.2.2.2.2.2)) fu_) := by
  refine wk_it ?_ _
  intro rec95 hr95 x st H locs cells slots i j ls hw hl h hci hcj
  obtain ⟨p0, p1, p3, p4, p5, p6⟩ := x
  have h : mm_turn_b95 gl rec95 p0 p1 p3 p4 p5 p6 st = some (rF, stF, i, j) := h
  unfold mm_turn_b95 at h
  have hl : lh_ ls 8 [(0, (va_rf p0)), (1, (.int p1)), (3, (.int p3)), (4, (.int p4)), (5, (.int p5)), (6, (.int p6))] := hl
  refine W.eq (g2 := F0 m 95 ls []) rfl ?_
  refine lv_iload X.1 X.2.1 dd_mm_turn_95 (lv_at hl.1 5 rfl) ?_
  refine rr_aldn X dd_mm_turn_97 rfl (lv_at hl.1 0 rfl) ?_
  obtain ⟨t35, ht35, h⟩ := st_g_some h
  refine rr_getq X hw ff_10_3 ht35 tw_464 (Or.inl rfl) dd_mm_turn_98 ?_
  refine lv_iload X.1 X.2.1 dd_mm_turn_101 (lv_at hl.1 4 rfl) ?_
  obtain ⟨t36, ht36, h⟩ := st_g_some h
  refine rr_iald (t := 0) X hw rfl ht36 dd_mm_turn_103 ?_
  by_cases hc104 : t36 ≤ p6
  · rw [if_pos hc104] at h
    refine lv_icmp_ge (tgt := 153) X.1 X.2.1 dd_mm_turn_104 (by decide) (fun _ => ?_) (fun z => absurd hc104 z)
    refine rr_aldn X dd_mm_turn_153 rfl (lv_at hl.1 0 rfl) ?_
    refine lv_iload_n X.1 X.2.1 dd_mm_turn_154 rfl (lv_at hl.1 1 rfl) ?_
    refine lv_iload X.1 X.2.1 dd_mm_turn_155 (lv_at hl.1 3 rfl) ?_
    refine rr_aldn X dd_mm_turn_157 rfl (lv_at hl.1 0 rfl) ?_
    obtain ⟨t37, ht37, h⟩ := st_g_some h
    refine rr_geti X hw ff_10_35 ht37 tw_532 (Or.inl rfl) dd_mm_turn_158 ?_
    obtain ⟨t55, ht55, h⟩ := st_g_some h
    obtain ⟨t38, t39, t40, t41, t42, t43, ht38, h, ei, ej⟩ := st_b_some h
    refine rr_callV (n := 3) (As := [(.int p1), (.int p4), (.int t37)]) (rest := []) X hw (kn_ok D ac a0 gl) hKs (kc_mm_settle l D ac a0 gl p0 p1 p4 t37 _ _ _ _ _ ht38) tb_good tw_500 tw_469 tw_501 tw_502 se_50 ht55 (by decide +kernel) rfl (show 3 + 1 ≤ _ ∧ 8 + (9 + 11) + 77 ≤ _ from ⟨Nat.le_of_ble_eq_true rfl, Nat.le_of_ble_eq_true rfl⟩) (show cells + t40 ≤ iT ∧ slots + t41 ≤ jT from ⟨ar_1 hci ei, ar_1 hcj ej⟩) hl.1.1 (by simp [rf_cat, ic_cat]) rfl dd_mm_turn_161 (sk := []) rfl (fun H locs hw => ?_)
    have hci : cells + t40 + t42 = iT := ar_2 hci ei
    have hcj : slots + t41 + t43 = jT := ar_2 hcj ej
    clear ei ej
    generalize cells + t40 = t44 at hci ⊢
    generalize slots + t41 = t45 at hcj ⊢
    refine rr_aldn X dd_mm_turn_164 rfl (lv_at hl.1 0 rfl) ?_
    refine lv_iload_n X.1 X.2.1 dd_mm_turn_165 rfl (lv_at hl.1 1 rfl) ?_
    obtain ⟨t54, ht54, h⟩ := st_g_some h
    obtain ⟨t46, t47, t48, t49, t50, t51, ht46, h, ei, ej⟩ := st_b_some h
    refine rr_callV (n := 1) (As := [(.int p1)]) (rest := []) X hw (kn_ok D ac a0 gl) hKs (kc_mm_mourn l D ac a0 gl p0 p1 _ _ _ _ _ ht46) tb_good tw_524 tw_469 tw_525 tw_526 se_56 ht54 (by decide +kernel) rfl (show 4 + 1 ≤ _ ∧ 8 + (3 + 11) + 105 ≤ _ from ⟨Nat.le_of_ble_eq_true rfl, Nat.le_of_ble_eq_true rfl⟩) (show t44 + t48 ≤ iT ∧ t45 + t49 ≤ jT from ⟨ar_1 hci ei, ar_1 hcj ej⟩) hl.1.1 (by simp [rf_cat, ic_cat]) rfl dd_mm_turn_166 (sk := []) rfl (fun H locs hw => ?_)
    have hci : t44 + t48 + t50 = iT := ar_2 hci ei
    have hcj : t45 + t49 + t51 = jT := ar_2 hcj ej
    clear ei ej
    generalize t44 + t48 = t52 at hci ⊢
    generalize t45 + t49 = t53 at hcj ⊢
    refine lv_iload_n X.1 X.2.1 dd_mm_turn_169 rfl (lv_at hl.1 2 rfl) ?_
    obtain ⟨rfl, rfl, rfl, rfl⟩ := st_r_some h
    exact rr_iret X hw hlk hret rfl hci hcj dd_mm_turn_170
  · rw [if_neg hc104] at h
    refine lv_icmp_ge (tgt := 153) X.1 X.2.1 dd_mm_turn_104 (by decide) (fun z => absurd z hc104) (fun _ => ?_)
    refine rr_aldn X dd_mm_turn_107 rfl (lv_at hl.1 0 rfl) ?_
    refine lv_iload_n X.1 X.2.1 dd_mm_turn_108 rfl (lv_at hl.1 1 rfl) ?_
    refine lv_iload_n X.1 X.2.1 dd_mm_turn_109 rfl (lv_at hl.1 2 rfl) ?_
    refine rr_aldn X dd_mm_turn_110 rfl (lv_at hl.1 0 rfl) ?_
    obtain ⟨t56, ht56, h⟩ := st_g_some h
    refine rr_getq X hw ff_10_4 ht56 tw_463 (Or.inl rfl) dd_mm_turn_111 ?_
    refine lv_bipush (v := (8 : Int32)) X.1 X.2.1 dd_mm_turn_114 (by decide) ?_
    refine lv_iload X.1 X.2.1 dd_mm_turn_116 (lv_at hl.1 4 rfl) ?_
    refine lv_imul X.1 X.2.1 dd_mm_turn_118 ?_
    refine lv_iload X.1 X.2.1 dd_mm_turn_119 (lv_at hl.1 5 rfl) ?_
    refine lv_iadd X.1 X.2.1 dd_mm_turn_121 ?_
    obtain ⟨t57, ht57, h⟩ := st_g_some h
    refine rr_iald (t := 0) X hw rfl ht57 dd_mm_turn_122 ?_
    refine rr_aldn X dd_mm_turn_123 rfl (lv_at hl.1 0 rfl) ?_
    obtain ⟨t58, ht58, h⟩ := st_g_some h
    refine rr_getq X hw ff_10_5 ht58 tw_462 (Or.inl rfl) dd_mm_turn_124 ?_
    refine lv_bipush (v := (8 : Int32)) X.1 X.2.1 dd_mm_turn_127 (by decide) ?_
    refine lv_iload X.1 X.2.1 dd_mm_turn_129 (lv_at hl.1 4 rfl) ?_
    refine lv_imul X.1 X.2.1 dd_mm_turn_131 ?_
    refine lv_iload X.1 X.2.1 dd_mm_turn_132 (lv_at hl.1 5 rfl) ?_
    refine lv_iadd X.1 X.2.1 dd_mm_turn_134 ?_
    obtain ⟨t59, ht59, h⟩ := st_g_some h
    refine rr_iald (t := 0) X hw rfl ht59 dd_mm_turn_135 ?_
    obtain ⟨t68, ht68, h⟩ := st_g_some h
    obtain ⟨t60, t61, t62, t63, t64, t65, ht60, h, ei, ej⟩ := st_b_some h
    refine rr_callV (n := 4) (As := [(.int p1), (.int p3), (.int t57), (.int t59)]) (rest := []) X hw (kn_ok D ac a0 gl) hKs (kc_mm_act l D ac a0 gl p0 p1 p3 t57 t59 _ _ _ _ _ ht60) tb_good tw_547 tw_469 tw_548 tw_549 se_61 ht68 (by decide +kernel) rfl (show 6 + 1 ≤ _ ∧ 8 + (5 + 11) + 151 ≤ _ from ⟨Nat.le_of_ble_eq_true rfl, Nat.le_of_ble_eq_true rfl⟩) (show cells + t62 ≤ iT ∧ slots + t63 ≤ jT from ⟨ar_1 hci ei, ar_1 hcj ej⟩) hl.1.1 (by simp [rf_cat, ic_cat]) rfl dd_mm_turn_136 (sk := [(.int t60)]) rfl (fun H locs hw => ?_)
    have hci : cells + t62 + t64 = iT := ar_2 hci ei
    have hcj : slots + t63 + t65 = jT := ar_2 hcj ej
    clear ei ej
    generalize cells + t62 = t66 at hci ⊢
    generalize slots + t63 = t67 at hcj ⊢
    refine rr_ist (lv' := [(7, (.int t60)), (0, (va_rf p0)), (1, (.int p1)), (3, (.int p3)), (4, (.int p4)), (5, (.int p5)), (6, (.int p6))]) X dd_mm_turn_139 hl (by decide) rfl (fun ls hl => ?_)
    refine lv_iload X.1 X.2.1 dd_mm_turn_141 (lv_at hl.1 6 rfl) ?_
    refine lv_iconst (v := (1 : Int32)) X.1 X.2.1 dd_mm_turn_143 (by decide) ?_
    refine lv_iadd X.1 X.2.1 dd_mm_turn_144 ?_
    refine lv_iload X.1 X.2.1 dd_mm_turn_145 (lv_at hl.1 0 rfl) ?_
    refine lv_iadd X.1 X.2.1 dd_mm_turn_147 ?_
    refine rr_ist (lv' := [(6, (.int ((p6 + (1 : Int32)) + t60))), (7, (.int t60)), (0, (va_rf p0)), (1, (.int p1)), (3, (.int p3)), (4, (.int p4)), (5, (.int p5))]) X dd_mm_turn_148 hl (by decide) rfl (fun ls hl => ?_)
    refine lv_goto (tgt := 95) X.1 X.2.1 dd_mm_turn_150 (by decide) ?_
    exact hr95 (p0, p1, p3, p4, p5, ((p6 + (1 : Int32)) + t60)) _ _ _ _ _ _ _ _ hw (lh_pk hl [2, 3, 4, 5, 6, 0] rfl) h hci hcj
set_option maxHeartbeats 4000000 in
set_option maxRecDepth 100000 in
theorem kb_mm_turn_b26 {p : Program} {l : Launch} {e : Env} {s : State} {m : MethodId} {args : Array Value} {below : List Frame} {meth : Method} {c : Code} {D : va_G} {ac : Nat → ClassId} {a0 : Nat} {gl : gl_T} {rF : Int32} {stF : st_S} {iT jT : Nat}
    (X : cx_ p s m args c prog_12_method_28_code 8 "PromiseVatsModel" tb_ D cl_ (ty_ ac)) (hKs : kn_ D ac a0 gl s) (hlk : meth.locks = false) (hret : meth.sig.returnType = (Option.some FieldType.int)) (hnm : meth.name = "turn") : wk_ p l e 7 175 s m args below meth c D cl_ ac a0 8 vb_i rF stF iT jT 26 (fun x : Option Nat × Int32 × Int32 => [(0, (va_rf x.1)), (1, (.int x.2.1)), (2, (.int x.2.2))]) (fun x : Option Nat × Int32 × Int32 => []) (fun x : Option Nat × Int32 × Int32 => mm_turn_b26 gl x.1 x.2.1 x.2.2) := by
  intro x st H locs cells slots i j ls hw hl h hci hcj
  obtain ⟨p0, p1, p2⟩ := x
  have h : mm_turn_b26 gl p0 p1 p2 st = some (rF, stF, i, j) := h
  unfold mm_turn_b26 at h
  have hl : lh_ ls 8 [(0, (va_rf p0)), (1, (.int p1)), (2, (.int p2))] := hl
  refine W.eq (g2 := F0 m 26 ls []) rfl ?_
  refine rr_aldn X dd_mm_turn_26 rfl (lv_at hl.1 0 rfl) ?_
  refine lv_iload_n X.1 X.2.1 dd_mm_turn_27 rfl (lv_at hl.1 1 rfl) ?_
  obtain ⟨t34, ht34, h⟩ := st_g_some h
  obtain ⟨t4, t5, t6, t7, t8, t9, ht4, h, ei, ej⟩ := st_b_some h
  refine rr_callV (n := 1) (As := [(.int p1)]) (rest := []) X hw (kn_ok D ac a0 gl) hKs (kc_mm_vat l D ac a0 gl p0 p1 _ _ _ _ _ ht4) tb_good tw_516 tw_469 tw_517 tw_518 se_54 ht34 (by decide +kernel) rfl (show 0 + 1 ≤ _ ∧ 8 + (2 + 11) + 0 ≤ _ from ⟨Nat.le_of_ble_eq_true rfl, Nat.le_of_ble_eq_true rfl⟩) (show cells + t6 ≤ iT ∧ slots + t7 ≤ jT from ⟨ar_1 hci ei, ar_1 hcj ej⟩) hl.1.1 (by simp [rf_cat, ic_cat]) rfl dd_mm_turn_28 (sk := [(.int t4)]) rfl (fun H locs hw => ?_)
  have hci : cells + t6 + t8 = iT := ar_2 hci ei
  have hcj : slots + t7 + t9 = jT := ar_2 hcj ej
  clear ei ej
  generalize cells + t6 = t10 at hci ⊢
  generalize slots + t7 = t11 at hcj ⊢
  by_cases hc31 : t4 = 0
  · rw [if_pos hc31] at h
    refine lv_if_eq (tgt := 42) X.1 X.2.1 dd_mm_turn_31 (by decide) (fun _ => ?_) (fun z => absurd hc31 z)
    exact (kb_mm_turn_b42 X hKs hlk hret hnm) () _ _ _ _ _ _ _ _ hw (lh_pk hl [] rfl) h hci hcj
  · rw [if_neg hc31] at h
    refine lv_if_eq (tgt := 42) X.1 X.2.1 dd_mm_turn_31 (by decide) (fun z => absurd z hc31) (fun _ => ?_)
    refine lv_iload_n X.1 X.2.1 dd_mm_turn_34 rfl (lv_at hl.1 2 rfl) ?_
    refine rr_aldn X dd_mm_turn_35 rfl (lv_at hl.1 0 rfl) ?_
    obtain ⟨t12, ht12, h⟩ := st_g_some h
    refine rr_geti X hw ff_10_18 ht12 tw_474 (Or.inl rfl) dd_mm_turn_36 ?_
    by_cases hc39 : p2 < t12
    · rw [if_pos hc39] at h
      refine lv_icmp_lt (tgt := 44) X.1 X.2.1 dd_mm_turn_39 (by decide) (fun _ => ?_) (fun z => absurd hc39 z)
      refine rr_aldn X dd_mm_turn_44 rfl (lv_at hl.1 0 rfl) ?_
      obtain ⟨t13, ht13, h⟩ := st_g_some h
      refine rr_getq X hw ff_10_20 ht13 tw_449 (Or.inl rfl) dd_mm_turn_45 ?_
      refine lv_iload_n X.1 X.2.1 dd_mm_turn_48 rfl (lv_at hl.1 2 rfl) ?_
      obtain ⟨t14, ht14, h⟩ := st_g_some h
      refine rr_iald (t := 0) X hw rfl ht14 dd_mm_turn_49 ?_
      refine rr_istn (lv' := [(3, (.int t14)), (0, (va_rf p0)), (1, (.int p1)), (2, (.int p2))]) X dd_mm_turn_50 rfl hl (by decide) rfl (fun ls hl => ?_)
      refine rr_aldn X dd_mm_turn_51 rfl (lv_at hl.1 1 rfl) ?_
      refine rr_aldn X dd_mm_turn_52 rfl (lv_at hl.1 1 rfl) ?_
      obtain ⟨t15, ht15, h⟩ := st_g_some h
      refine rr_getq X hw ff_10_21 ht15 tw_448 (Or.inl rfl) dd_mm_turn_53 ?_
      refine lv_iload_n X.1 X.2.1 dd_mm_turn_56 rfl (lv_at hl.1 3 rfl) ?_
      obtain ⟨t16, ht16, h⟩ := st_g_some h
      refine rr_iald (t := 0) X hw rfl ht16 dd_mm_turn_57 ?_
      obtain ⟨t17, hp58, h⟩ := st_w_some h
      refine rr_put (ty := .int) X hw ff_10_34 hp58 tw_533 (Or.inl rfl) (by decide +kernel) rfl rfl dd_mm_turn_58 (fun H locs hw => ?_)
      refine rr_aldn X dd_mm_turn_61 rfl (lv_at hl.1 1 rfl) ?_
      refine rr_aldn X dd_mm_turn_62 rfl (lv_at hl.1 1 rfl) ?_
      obtain ⟨t18, ht18, h⟩ := st_g_some h
      refine rr_getq X hw ff_10_22 ht18 tw_447 (Or.inl rfl) dd_mm_turn_63 ?_
      refine lv_iload_n X.1 X.2.1 dd_mm_turn_66 rfl (lv_at hl.1 3 rfl) ?_
      obtain ⟨t19, ht19, h⟩ := st_g_some h
      refine rr_iald (t := 0) X hw rfl ht19 dd_mm_turn_67 ?_
      obtain ⟨t20, hp68, h⟩ := st_w_some h
      refine rr_put (ty := .int) X hw ff_10_35 hp68 tw_532 (Or.inl rfl) (by decide +kernel) rfl rfl dd_mm_turn_68 (fun H locs hw => ?_)
      refine rr_aldn X dd_mm_turn_71 rfl (lv_at hl.1 1 rfl) ?_
      obtain ⟨t21, ht21, h⟩ := st_g_some h
      refine rr_getq X hw ff_10_23 ht21 tw_446 (Or.inl rfl) dd_mm_turn_72 ?_
      refine lv_iload_n X.1 X.2.1 dd_mm_turn_75 rfl (lv_at hl.1 3 rfl) ?_
      obtain ⟨t22, ht22, h⟩ := st_g_some h
      refine rr_iald (t := 0) X hw rfl ht22 dd_mm_turn_76 ?_
      refine rr_ist (lv' := [(4, (.int t22)), (3, (.int t14)), (0, (va_rf p0)), (1, (.int p1)), (2, (.int p2))]) X dd_mm_turn_77 hl (by decide) rfl (fun ls hl => ?_)
      refine rr_aldn X dd_mm_turn_79 rfl (lv_at hl.1 2 rfl) ?_
      refine lv_iload_n X.1 X.2.1 dd_mm_turn_80 rfl (lv_at hl.1 4 rfl) ?_
      obtain ⟨t33, ht33, h⟩ := st_g_some h
      obtain ⟨t23, t24, t25, t26, t27, t28, ht23, h, ei, ej⟩ := st_b_some h
      refine rr_callV (n := 1) (As := [(.int p2)]) (rest := []) X hw (kn_ok D ac a0 gl) hKs (kc_mm_unrest l D ac a0 gl p0 p2 _ _ _ _ _ ht23) tb_good tw_496 tw_469 tw_497 tw_498 se_49 ht33 (by decide +kernel) rfl (show 0 + 1 ≤ _ ∧ 8 + (3 + 11) + 0 ≤ _ from ⟨Nat.le_of_ble_eq_true rfl, Nat.le_of_ble_eq_true rfl⟩) (show t10 + t25 ≤ iT ∧ t11 + t26 ≤ jT from ⟨ar_1 hci ei, ar_1 hcj ej⟩) hl.1.1 (by simp [rf_cat, ic_cat]) rfl dd_mm_turn_81 (sk := []) rfl (fun H locs hw => ?_)
      have hci : t10 + t25 + t27 = iT := ar_2 hci ei
      have hcj : t11 + t26 + t28 = jT := ar_2 hcj ej
      clear ei ej
      generalize t10 + t25 = t29 at hci ⊢
      generalize t11 + t26 = t30 at hcj ⊢
      refine rr_aldn X dd_mm_turn_84 rfl (lv_at hl.1 2 rfl) ?_
      obtain ⟨t31, ht31, h⟩ := st_g_some h
      refine rr_getq X hw ff_10_11 ht31 tw_456 (Or.inl rfl) dd_mm_turn_85 ?_
      refine lv_iload_n X.1 X.2.1 dd_mm_turn_88 rfl (lv_at hl.1 1 rfl) ?_
      obtain ⟨t32, ht32, h⟩ := st_g_some h
      refine rr_bald (t := 1) X hw rfl ht32 dd_mm_turn_89 ?_
      refine rr_ist (lv' := [(5, (.int t32)), (4, (.int t22)), (3, (.int t14)), (0, (va_rf p0)), (1, (.int p1)), (2, (.int p2))]) X dd_mm_turn_90 hl (by decide) rfl (fun ls hl => ?_)
      refine lv_iconst (v := (0 : Int32)) X.1 X.2.1 dd_mm_turn_92 (by decide) ?_
      refine rr_ist (lv' := [(6, (.int (0 : Int32))), (5, (.int t32)), (4, (.int t22)), (3, (.int t14)), (0, (va_rf p0)), (1, (.int p1)), (2, (.int p2))]) X dd_mm_turn_93 hl (by decide) rfl (fun ls hl => ?_)
      exact (kb_mm_turn_b95 X hKs hlk hret hnm) (p0, p1, t14, t22, t32, (0 : Int32)) _ _ _ _ _ _ _ _ hw (lh_pk hl [4, 5, 3, 2, 1, 0] rfl) h hci hcj
    · rw [if_neg hc39] at h
      refine lv_icmp_lt (tgt := 44) X.1 X.2.1 dd_mm_turn_39 (by decide) (fun z => absurd z hc39) (fun _ => ?_)
      exact (kb_mm_turn_b42 X hKs hlk hret hnm) () _ _ _ _ _ _ _ _ hw (lh_pk hl [] rfl) h hci hcj
set_option maxHeartbeats 4000000 in
set_option maxRecDepth 100000 in
theorem kb_mm_turn_b2 {p : Program} {l : Launch} {e : Env} {s : State} {m : MethodId} {args : Array Value} {below : List Frame} {meth : Method} {c : Code} {D : va_G} {ac : Nat → ClassId} {a0 : Nat} {gl : gl_T} {rF : Int32} {stF : st_S} {iT jT : Nat}
    (X : cx_ p s m args c prog_12_method_28_code 8 "PromiseVatsModel" tb_ D cl_ (ty_ ac)) (hKs : kn_ D ac a0 gl s) (hlk : meth.locks = false) (hret : meth.sig.returnType = (Option.some FieldType.int)) (hnm : meth.name = "turn") : wk_ p l e 7 175 s m args below meth c D cl_ ac a0 8 vb_i rF stF iT jT 2 (fun x : Option Nat × Int32 × Int32 => [(0, (va_rf x.1)), (1, (.int x.2.1)), (2, (.int x.2.2))]) (fun x : Option Nat × Int32 × Int32 => []) (st_it (fun rec2 => (fun x : Option Nat × Int32 × Int32 => mm_turn_b2 gl rec2 x.1 x.2.1 x.2.2)) fu_) := by
  refine wk_it ?_ _
  intro rec2 hr2 x st H locs cells slots i j ls hw hl h hci hcj
  obtain ⟨p0, p1, p2⟩ := x
  have h : mm_turn_b2 gl rec2 p0 p1 p2 st = some (rF, stF, i, j) := h
  unfold mm_turn_b2 at h
  have hl : lh_ ls 8 [(0, (va_rf p0)), (1, (.int p1)), (2, (.int p2))] := hl
  refine W.eq (g2 := F0 m 2 ls []) rfl ?_
  refine lv_iload_n X.1 X.2.1 dd_mm_turn_2 rfl (lv_at hl.1 2 rfl) ?_
  refine rr_aldn X dd_mm_turn_3 rfl (lv_at hl.1 0 rfl) ?_
  obtain ⟨t1, ht1, h⟩ := st_g_some h
  refine rr_geti X hw ff_10_18 ht1 tw_474 (Or.inl rfl) dd_mm_turn_4 ?_
  by_cases hc7 : t1 ≤ p2
  · rw [if_pos hc7] at h
    refine lv_icmp_ge (tgt := 26) X.1 X.2.1 dd_mm_turn_7 (by decide) (fun _ => ?_) (fun z => absurd hc7 z)
    exact (kb_mm_turn_b26 X hKs hlk hret hnm) (p0, p1, p2) _ _ _ _ _ _ _ _ hw (lh_pk hl [0, 1, 2] rfl) h hci hcj
  · rw [if_neg hc7] at h
    refine lv_icmp_ge (tgt := 26) X.1 X.2.1 dd_mm_turn_7 (by decide) (fun z => absurd z hc7) (fun _ => ?_)
    refine rr_aldn X dd_mm_turn_10 rfl (lv_at hl.1 0 rfl) ?_
    obtain ⟨t2, ht2, h⟩ := st_g_some h
    refine rr_getq X hw ff_10_19 ht2 tw_450 (Or.inl rfl) dd_mm_turn_11 ?_
    refine lv_iload_n X.1 X.2.1 dd_mm_turn_14 rfl (lv_at hl.1 2 rfl) ?_
    obtain ⟨t3, ht3, h⟩ := st_g_some h
    refine rr_iald (t := 0) X hw rfl ht3 dd_mm_turn_15 ?_
    refine lv_iload_n X.1 X.2.1 dd_mm_turn_16 rfl (lv_at hl.1 1 rfl) ?_
    by_cases hc17 : t3 = p1
    · rw [if_pos hc17] at h
      refine lv_icmp_eq (tgt := 26) X.1 X.2.1 dd_mm_turn_17 (by decide) (fun _ => ?_) (fun z => absurd hc17 z)
      exact (kb_mm_turn_b26 X hKs hlk hret hnm) (p0, p1, p2) _ _ _ _ _ _ _ _ hw (lh_pk hl [0, 1, 2] rfl) h hci hcj
    · rw [if_neg hc17] at h
      refine lv_icmp_eq (tgt := 26) X.1 X.2.1 dd_mm_turn_17 (by decide) (fun z => absurd z hc17) (fun _ => ?_)
      refine rr_iinc (k := 2) (v := (p2 + (1 : Int32))) (lv' := [(2, (.int (p2 + (1 : Int32)))), (0, (va_rf p0)), (1, (.int p1))]) X dd_mm_turn_20 hl rfl (by rw [show Int32.ofInt (1) = (1 : Int32) from by decide]) (by decide) rfl (fun ls hl => ?_)
      refine lv_goto (tgt := 2) X.1 X.2.1 dd_mm_turn_23 (by decide) ?_
      exact hr2 (p0, p1, (p2 + (1 : Int32))) _ _ _ _ _ _ _ _ hw (lh_pk hl [1, 2, 0] rfl) h hci hcj
set_option maxHeartbeats 4000000 in
set_option maxRecDepth 100000 in
theorem kc_mm_turn (l : Launch) (D : va_G) (ac : Nat → ClassId) (a0 : Nat) (gl : gl_T) (v0 : Option Nat) (v1 : Int32) (st : st_S) (rF : Int32) (stF : st_S) (iT jT : Nat) (h : mm_turn gl v0 v1 st = some (rF, stF, iT, jT)) :
    ct_ l ⟨"PromiseVatsModel", "turn", "(I)I"⟩ (Cond.code ⟨"PromiseVatsModel", "turn", "(I)I"⟩ prog_12_method_28_code 8 (Option.some FieldType.int) :: tb_) 7 175 D cl_ ac a0 (kn_ D ac a0 gl) [(va_rf v0), (.int v1)] st (vb_i rF) stF iT jT := by
  refine ct_of (kn_ok D ac a0 gl) (plainFor_of_name (by decide +kernel)) (by simp [rf_cat, ic_cat]) (by simp) ?_
  intro p e s m args below meth c ls X hw hKs hlk hret hnm hl
  unfold mm_turn at h
  have hl : lh_ ls 8 [(0, (va_rf v0)), (1, (.int v1))] := hl
  obtain ⟨z0, hz0⟩ : ∃ z : Nat, 0 = z := ⟨0, rfl⟩
  obtain ⟨z1, hz1⟩ : ∃ z : Nat, 0 = z := ⟨0, rfl⟩
  refine W.cs hz0 hz1 ?_
  have hci : z0 + iT = iT := by omega
  have hcj : z1 + jT = jT := by omega
  refine lv_iconst (v := (0 : Int32)) X.1 X.2.1 dd_mm_turn_0 (by decide) ?_
  refine rr_istn (lv' := [(2, (.int (0 : Int32))), (0, (va_rf v0)), (1, (.int v1))]) X dd_mm_turn_1 rfl hl (by decide) rfl (fun ls hl => ?_)
  exact (kb_mm_turn_b2 X hKs hlk hret hnm) (v0, v1, (0 : Int32)) _ _ _ _ _ _ _ _ hw (lh_pk hl [1, 2, 0] rfl) h hci hcj
/-! PromiseVatsModel.made(I)Z -/
theorem dd_mm_made_0 : decode prog_12_method_3_code 0 = .ok (.iload_n 1, 1) := by decide +kernel
theorem dd_mm_made_1 : decode prog_12_method_3_code 1 = .ok (.iconst 1, 1) := by decide +kernel
theorem dd_mm_made_2 : decode prog_12_method_3_code 2 = .ok (.if_icmp .lt 11, 3) := by decide +kernel
theorem dd_mm_made_5 : decode prog_12_method_3_code 5 = .ok (.iload_n 1, 1) := by decide +kernel
theorem dd_mm_made_6 : decode prog_12_method_3_code 6 = .ok (.aload_n 0, 1) := by decide +kernel
theorem dd_mm_made_7 : decode prog_12_method_3_code 7 = .ok (.getfield 98, 3) := by decide +kernel
theorem dd_mm_made_10 : decode prog_12_method_3_code 10 = .ok (.if_icmp .le 20, 3) := by decide +kernel
theorem dd_mm_made_13 : decode prog_12_method_3_code 13 = .ok (.iload_n 1, 1) := by decide +kernel
theorem dd_mm_made_14 : decode prog_12_method_3_code 14 = .ok (.bipush 101, 2) := by decide +kernel
theorem dd_mm_made_16 : decode prog_12_method_3_code 16 = .ok (.if_icmp .lt 18, 3) := by decide +kernel
theorem dd_mm_made_19 : decode prog_12_method_3_code 19 = .ok (.iload_n 1, 1) := by decide +kernel
theorem dd_mm_made_20 : decode prog_12_method_3_code 20 = .ok (.bipush 100, 2) := by decide +kernel
theorem dd_mm_made_22 : decode prog_12_method_3_code 22 = .ok (.aload_n 0, 1) := by decide +kernel
theorem dd_mm_made_23 : decode prog_12_method_3_code 23 = .ok (.getfield 101, 3) := by decide +kernel
theorem dd_mm_made_26 : decode prog_12_method_3_code 26 = .ok (.iadd, 1) := by decide +kernel
theorem dd_mm_made_27 : decode prog_12_method_3_code 27 = .ok (.if_icmp .gt 7, 3) := by decide +kernel
theorem dd_mm_made_30 : decode prog_12_method_3_code 30 = .ok (.iconst 1, 1) := by decide +kernel
theorem dd_mm_made_31 : decode prog_12_method_3_code 31 = .ok (.goto 4, 3) := by decide +kernel
theorem dd_mm_made_34 : decode prog_12_method_3_code 34 = .ok (.iconst 0, 1) := by decide +kernel
theorem dd_mm_made_35 : decode prog_12_method_3_code 35 = .ok (.ireturn, 1) := by decide +kernel
set_option maxHeartbeats 4000000 in
set_option maxRecDepth 100000 in
theorem kb_mm_made_b30 {p : Program} {l : Launch} {e : Env} {s : State} {m : MethodId} {args : Array Value} {below : List Frame} {meth : Method} {c : Code} {D : va_G} {ac : Nat → ClassId} {a0 : Nat} {gl : gl_T} {rF : Int32} {stF : st_S} {iT jT : Nat}
    (X : cx_ p s m args c prog_12_method_3_code 2 "PromiseVatsModel" tb_ D cl_ (ty_ ac)) (hKs : kn_ D ac a0 gl s) (hlk : meth.locks = false) (hret : meth.sig.returnType = (Option.some FieldType.boolean)) (hnm : meth.name = "made") : wk_ p l e 0 0 s m args below meth c D cl_ ac a0 2 vb_i rF stF iT jT 30 (fun x : Unit => []) (fun x : Unit => []) (fun _ : Unit => mm_made_b30 gl) := by
  intro x st H locs cells slots i j ls hw hl h hci hcj
  have h : mm_made_b30 gl  st = some (rF, stF, i, j) := h
  unfold mm_made_b30 at h
  have hl : lh_ ls 2 [] := hl
  refine W.eq (g2 := F0 m 30 ls []) rfl ?_
  refine lv_iconst (v := (1 : Int32)) X.1 X.2.1 dd_mm_made_30 (by decide) ?_
  refine lv_goto (tgt := 35) X.1 X.2.1 dd_mm_made_31 (by decide) ?_
  obtain ⟨rfl, rfl, rfl, rfl⟩ := st_r_some h
  exact rr_iret X hw hlk hret (by decide) hci hcj dd_mm_made_35
set_option maxHeartbeats 4000000 in
set_option maxRecDepth 100000 in
theorem kb_mm_made_b34 {p : Program} {l : Launch} {e : Env} {s : State} {m : MethodId} {args : Array Value} {below : List Frame} {meth : Method} {c : Code} {D : va_G} {ac : Nat → ClassId} {a0 : Nat} {gl : gl_T} {rF : Int32} {stF : st_S} {iT jT : Nat}
    (X : cx_ p s m args c prog_12_method_3_code 2 "PromiseVatsModel" tb_ D cl_ (ty_ ac)) (hKs : kn_ D ac a0 gl s) (hlk : meth.locks = false) (hret : meth.sig.returnType = (Option.some FieldType.boolean)) (hnm : meth.name = "made") : wk_ p l e 0 0 s m args below meth c D cl_ ac a0 2 vb_i rF stF iT jT 34 (fun x : Unit => []) (fun x : Unit => []) (fun _ : Unit => mm_made_b34 gl) := by
  intro x st H locs cells slots i j ls hw hl h hci hcj
  have h : mm_made_b34 gl  st = some (rF, stF, i, j) := h
  unfold mm_made_b34 at h
  have hl : lh_ ls 2 [] := hl
  refine W.eq (g2 := F0 m 34 ls []) rfl ?_
  refine lv_iconst (v := (0 : Int32)) X.1 X.2.1 dd_mm_made_34 (by decide) ?_
  obtain ⟨rfl, rfl, rfl, rfl⟩ := st_r_some h
  exact rr_iret X hw hlk hret (by decide) hci hcj dd_mm_made_35
set_option maxHeartbeats 4000000 in
set_option maxRecDepth 100000 in
theorem kb_mm_made_b13 {p : Program} {l : Launch} {e : Env} {s : State} {m : MethodId} {args : Array Value} {below : List Frame} {meth : Method} {c : Code} {D : va_G} {ac : Nat → ClassId} {a0 : Nat} {gl : gl_T} {rF : Int32} {stF : st_S} {iT jT : Nat}
    (X : cx_ p s m args c prog_12_method_3_code 2 "PromiseVatsModel" tb_ D cl_ (ty_ ac)) (hKs : kn_ D ac a0 gl s) (hlk : meth.locks = false) (hret : meth.sig.returnType = (Option.some FieldType.boolean)) (hnm : meth.name = "made") : wk_ p l e 0 0 s m args below meth c D cl_ ac a0 2 vb_i rF stF iT jT 13 (fun x : Option Nat × Int32 => [(0, (va_rf x.1)), (1, (.int x.2))]) (fun x : Option Nat × Int32 => []) (fun x : Option Nat × Int32 => mm_made_b13 gl x.1 x.2) := by
  intro x st H locs cells slots i j ls hw hl h hci hcj
  obtain ⟨p0, p1⟩ := x
  have h : mm_made_b13 gl p0 p1 st = some (rF, stF, i, j) := h
  unfold mm_made_b13 at h
  have hl : lh_ ls 2 [(0, (va_rf p0)), (1, (.int p1))] := hl
  refine W.eq (g2 := F0 m 13 ls []) rfl ?_
  refine lv_iload_n X.1 X.2.1 dd_mm_made_13 rfl (lv_at hl.1 1 rfl) ?_
  refine lv_bipush (v := (101 : Int32)) X.1 X.2.1 dd_mm_made_14 (by decide) ?_
  by_cases hc16 : p1 < (101 : Int32)
  · rw [if_pos hc16] at h
    refine lv_icmp_lt (tgt := 34) X.1 X.2.1 dd_mm_made_16 (by decide) (fun _ => ?_) (fun z => absurd hc16 z)
    exact (kb_mm_made_b34 X hKs hlk hret hnm) () _ _ _ _ _ _ _ _ hw (lh_pk hl [] rfl) h hci hcj
  · rw [if_neg hc16] at h
    refine lv_icmp_lt (tgt := 34) X.1 X.2.1 dd_mm_made_16 (by decide) (fun z => absurd z hc16) (fun _ => ?_)
    refine lv_iload_n X.1 X.2.1 dd_mm_made_19 rfl (lv_at hl.1 1 rfl) ?_
    refine lv_bipush (v := (100 : Int32)) X.1 X.2.1 dd_mm_made_20 (by decide) ?_
    refine rr_aldn X dd_mm_made_22 rfl (lv_at hl.1 0 rfl) ?_
    obtain ⟨t2, ht2, h⟩ := st_g_some h
    refine rr_geti X hw ff_10_2 ht2 tw_534 (Or.inl rfl) dd_mm_made_23 ?_
    refine lv_iadd X.1 X.2.1 dd_mm_made_26 ?_
    by_cases hc27 : ((100 : Int32) + t2) < p1
    · rw [if_pos hc27] at h
      refine lv_icmp_gt (tgt := 34) X.1 X.2.1 dd_mm_made_27 (by decide) (fun _ => ?_) (fun z => absurd hc27 z)
      exact (kb_mm_made_b34 X hKs hlk hret hnm) () _ _ _ _ _ _ _ _ hw (lh_pk hl [] rfl) h hci hcj
    · rw [if_neg hc27] at h
      refine lv_icmp_gt (tgt := 34) X.1 X.2.1 dd_mm_made_27 (by decide) (fun z => absurd z hc27) (fun _ => ?_)
      exact (kb_mm_made_b30 X hKs hlk hret hnm) () _ _ _ _ _ _ _ _ hw (lh_pk hl [] rfl) h hci hcj
set_option maxHeartbeats 4000000 in
set_option maxRecDepth 100000 in
theorem kc_mm_made (l : Launch) (D : va_G) (ac : Nat → ClassId) (a0 : Nat) (gl : gl_T) (v0 : Option Nat) (v1 : Int32) (st : st_S) (rF : Int32) (stF : st_S) (iT jT : Nat) (h : mm_made gl v0 v1 st = some (rF, stF, iT, jT)) :
    ct_ l ⟨"PromiseVatsModel", "made", "(I)Z"⟩ (Cond.code ⟨"PromiseVatsModel", "made", "(I)Z"⟩ prog_12_method_3_code 2 (Option.some FieldType.boolean) :: tb_) 0 0 D cl_ ac a0 (kn_ D ac a0 gl) [(va_rf v0), (.int v1)] st (vb_i rF) stF iT jT := by
  refine ct_of (kn_ok D ac a0 gl) (plainFor_of_name (by decide +kernel)) (by simp [rf_cat, ic_cat]) (by simp) ?_
  intro p e s m args below meth c ls X hw hKs hlk hret hnm hl
  unfold mm_made at h
  have hl : lh_ ls 2 [(0, (va_rf v0)), (1, (.int v1))] := hl
  obtain ⟨z0, hz0⟩ : ∃ z : Nat, 0 = z := ⟨0, rfl⟩
  obtain ⟨z1, hz1⟩ : ∃ z : Nat, 0 = z := ⟨0, rfl⟩
  refine W.cs hz0 hz1 ?_
  have hci : z0 + iT = iT := by omega
  have hcj : z1 + jT = jT := by omega
  refine lv_iload_n X.1 X.2.1 dd_mm_made_0 rfl (lv_at hl.1 1 rfl) ?_
  refine lv_iconst (v := (1 : Int32)) X.1 X.2.1 dd_mm_made_1 (by decide) ?_
  by_cases hc2 : v1 < (1 : Int32)
  · rw [if_pos hc2] at h
    refine lv_icmp_lt (tgt := 13) X.1 X.2.1 dd_mm_made_2 (by decide) (fun _ => ?_) (fun z => absurd hc2 z)
    exact (kb_mm_made_b13 X hKs hlk hret hnm) (v0, v1) _ _ _ _ _ _ _ _ hw (lh_pk hl [0, 1] rfl) h hci hcj
  · rw [if_neg hc2] at h
    refine lv_icmp_lt (tgt := 13) X.1 X.2.1 dd_mm_made_2 (by decide) (fun z => absurd z hc2) (fun _ => ?_)
    refine lv_iload_n X.1 X.2.1 dd_mm_made_5 rfl (lv_at hl.1 1 rfl) ?_
    refine rr_aldn X dd_mm_made_6 rfl (lv_at hl.1 0 rfl) ?_
    obtain ⟨t1, ht1, h⟩ := st_g_some h
    refine rr_geti X hw ff_10_1 ht1 tw_467 (Or.inl rfl) dd_mm_made_7 ?_
    by_cases hc10 : v1 ≤ t1
    · rw [if_pos hc10] at h
      refine lv_icmp_le (tgt := 30) X.1 X.2.1 dd_mm_made_10 (by decide) (fun _ => ?_) (fun z => absurd hc10 z)
      exact (kb_mm_made_b30 X hKs hlk hret hnm) () _ _ _ _ _ _ _ _ hw (lh_pk hl [] rfl) h hci hcj
    · rw [if_neg hc10] at h
      refine lv_icmp_le (tgt := 30) X.1 X.2.1 dd_mm_made_10 (by decide) (fun z => absurd z hc10) (fun _ => ?_)
      exact (kb_mm_made_b13 X hKs hlk hret hnm) (v0, v1) _ _ _ _ _ _ _ _ hw (lh_pk hl [0, 1] rfl) h hci hcj
