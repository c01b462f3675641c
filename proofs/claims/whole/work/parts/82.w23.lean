/-! PromiseVatsModel.code(III)Z -/
theorem dd_mm_code_0 : decode prog_12_method_5_code 0 = .ok (.iload_n 1, 1) := by decide +kernel
theorem dd_mm_code_1 : decode prog_12_method_5_code 1 = .ok (.ifCond .lt 30, 3) := by decide +kernel
theorem dd_mm_code_4 : decode prog_12_method_5_code 4 = .ok (.iload_n 1, 1) := by decide +kernel
theorem dd_mm_code_5 : decode prog_12_method_5_code 5 = .ok (.bipush 7, 2) := by decide +kernel
theorem dd_mm_code_7 : decode prog_12_method_5_code 7 = .ok (.if_icmp .gt 24, 3) := by decide +kernel
theorem dd_mm_code_10 : decode prog_12_method_5_code 10 = .ok (.iload_n 2, 1) := by decide +kernel
theorem dd_mm_code_11 : decode prog_12_method_5_code 11 = .ok (.ifCond .lt 20, 3) := by decide +kernel
theorem dd_mm_code_14 : decode prog_12_method_5_code 14 = .ok (.iload_n 2, 1) := by decide +kernel
theorem dd_mm_code_15 : decode prog_12_method_5_code 15 = .ok (.bipush 10, 2) := by decide +kernel
theorem dd_mm_code_17 : decode prog_12_method_5_code 17 = .ok (.if_icmp .gt 14, 3) := by decide +kernel
theorem dd_mm_code_20 : decode prog_12_method_5_code 20 = .ok (.aload_n 0, 1) := by decide +kernel
theorem dd_mm_code_21 : decode prog_12_method_5_code 21 = .ok (.getfield 7, 3) := by decide +kernel
theorem dd_mm_code_24 : decode prog_12_method_5_code 24 = .ok (.iload_n 1, 1) := by decide +kernel
theorem dd_mm_code_25 : decode prog_12_method_5_code 25 = .ok (.iaload, 1) := by decide +kernel
theorem dd_mm_code_26 : decode prog_12_method_5_code 26 = .ok (.bipush 8, 2) := by decide +kernel
theorem dd_mm_code_28 : decode prog_12_method_5_code 28 = .ok (.if_icmp .lt 5, 3) := by decide +kernel
theorem dd_mm_code_31 : decode prog_12_method_5_code 31 = .ok (.iconst 0, 1) := by decide +kernel
theorem dd_mm_code_32 : decode prog_12_method_5_code 32 = .ok (.ireturn, 1) := by decide +kernel
theorem dd_mm_code_33 : decode prog_12_method_5_code 33 = .ok (.iload_n 2, 1) := by decide +kernel
theorem dd_mm_code_34 : decode prog_12_method_5_code 34 = .ok (.iconst 3, 1) := by decide +kernel
theorem dd_mm_code_35 : decode prog_12_method_5_code 35 = .ok (.if_icmp .eq 14, 3) := by decide +kernel
theorem dd_mm_code_38 : decode prog_12_method_5_code 38 = .ok (.iload_n 2, 1) := by decide +kernel
theorem dd_mm_code_39 : decode prog_12_method_5_code 39 = .ok (.iconst 4, 1) := by decide +kernel
theorem dd_mm_code_40 : decode prog_12_method_5_code 40 = .ok (.if_icmp .eq 9, 3) := by decide +kernel
theorem dd_mm_code_43 : decode prog_12_method_5_code 43 = .ok (.iload_n 2, 1) := by decide +kernel
theorem dd_mm_code_44 : decode prog_12_method_5_code 44 = .ok (.bipush 7, 2) := by decide +kernel
theorem dd_mm_code_46 : decode prog_12_method_5_code 46 = .ok (.if_icmp .ne 7, 3) := by decide +kernel
theorem dd_mm_code_49 : decode prog_12_method_5_code 49 = .ok (.iconst 1, 1) := by decide +kernel
theorem dd_mm_code_50 : decode prog_12_method_5_code 50 = .ok (.goto 4, 3) := by decide +kernel
theorem dd_mm_code_53 : decode prog_12_method_5_code 53 = .ok (.iconst 0, 1) := by decide +kernel
theorem dd_mm_code_54 : decode prog_12_method_5_code 54 = .ok (.istore 4, 2) := by decide +kernel
theorem dd_mm_code_56 : decode prog_12_method_5_code 56 = .ok (.iload 4, 2) := by decide +kernel
theorem dd_mm_code_58 : decode prog_12_method_5_code 58 = .ok (.ifCond .eq 12, 3) := by decide +kernel
theorem dd_mm_code_61 : decode prog_12_method_5_code 61 = .ok (.iload_n 3, 1) := by decide +kernel
theorem dd_mm_code_62 : decode prog_12_method_5_code 62 = .ok (.ifCond .lt 30, 3) := by decide +kernel
theorem dd_mm_code_65 : decode prog_12_method_5_code 65 = .ok (.iload_n 3, 1) := by decide +kernel
theorem dd_mm_code_66 : decode prog_12_method_5_code 66 = .ok (.iconst 3, 1) := by decide +kernel
theorem dd_mm_code_67 : decode prog_12_method_5_code 67 = .ok (.if_icmp .gt 25, 3) := by decide +kernel
theorem dd_mm_code_70 : decode prog_12_method_5_code 70 = .ok (.iload_n 2, 1) := by decide +kernel
theorem dd_mm_code_71 : decode prog_12_method_5_code 71 = .ok (.bipush 6, 2) := by decide +kernel
theorem dd_mm_code_73 : decode prog_12_method_5_code 73 = .ok (.if_icmp .eq 9, 3) := by decide +kernel
theorem dd_mm_code_76 : decode prog_12_method_5_code 76 = .ok (.iload_n 2, 1) := by decide +kernel
theorem dd_mm_code_77 : decode prog_12_method_5_code 77 = .ok (.bipush 8, 2) := by decide +kernel
theorem dd_mm_code_79 : decode prog_12_method_5_code 79 = .ok (.if_icmp .ne 15, 3) := by decide +kernel
theorem dd_mm_code_82 : decode prog_12_method_5_code 82 = .ok (.iload_n 3, 1) := by decide +kernel
theorem dd_mm_code_83 : decode prog_12_method_5_code 83 = .ok (.ifCond .lt 9, 3) := by decide +kernel
theorem dd_mm_code_86 : decode prog_12_method_5_code 86 = .ok (.iload_n 3, 1) := by decide +kernel
theorem dd_mm_code_87 : decode prog_12_method_5_code 87 = .ok (.bipush 7, 2) := by decide +kernel
theorem dd_mm_code_89 : decode prog_12_method_5_code 89 = .ok (.if_icmp .le 5, 3) := by decide +kernel
theorem dd_mm_code_92 : decode prog_12_method_5_code 92 = .ok (.iconst 0, 1) := by decide +kernel
theorem dd_mm_code_93 : decode prog_12_method_5_code 93 = .ok (.ireturn, 1) := by decide +kernel
theorem dd_mm_code_94 : decode prog_12_method_5_code 94 = .ok (.bipush 8, 2) := by decide +kernel
theorem dd_mm_code_96 : decode prog_12_method_5_code 96 = .ok (.iload_n 1, 1) := by decide +kernel
theorem dd_mm_code_97 : decode prog_12_method_5_code 97 = .ok (.imul, 1) := by decide +kernel
theorem dd_mm_code_98 : decode prog_12_method_5_code 98 = .ok (.aload_n 0, 1) := by decide +kernel
theorem dd_mm_code_99 : decode prog_12_method_5_code 99 = .ok (.getfield 7, 3) := by decide +kernel
theorem dd_mm_code_102 : decode prog_12_method_5_code 102 = .ok (.iload_n 1, 1) := by decide +kernel
theorem dd_mm_code_103 : decode prog_12_method_5_code 103 = .ok (.iaload, 1) := by decide +kernel
theorem dd_mm_code_104 : decode prog_12_method_5_code 104 = .ok (.iadd, 1) := by decide +kernel
theorem dd_mm_code_105 : decode prog_12_method_5_code 105 = .ok (.istore 5, 2) := by decide +kernel
theorem dd_mm_code_107 : decode prog_12_method_5_code 107 = .ok (.aload_n 0, 1) := by decide +kernel
theorem dd_mm_code_108 : decode prog_12_method_5_code 108 = .ok (.getfield 13, 3) := by decide +kernel
theorem dd_mm_code_111 : decode prog_12_method_5_code 111 = .ok (.iload 5, 2) := by decide +kernel
theorem dd_mm_code_113 : decode prog_12_method_5_code 113 = .ok (.iload_n 2, 1) := by decide +kernel
theorem dd_mm_code_114 : decode prog_12_method_5_code 114 = .ok (.iastore, 1) := by decide +kernel
theorem dd_mm_code_115 : decode prog_12_method_5_code 115 = .ok (.aload_n 0, 1) := by decide +kernel
theorem dd_mm_code_116 : decode prog_12_method_5_code 116 = .ok (.getfield 16, 3) := by decide +kernel
theorem dd_mm_code_119 : decode prog_12_method_5_code 119 = .ok (.iload 5, 2) := by decide +kernel
theorem dd_mm_code_121 : decode prog_12_method_5_code 121 = .ok (.iload_n 3, 1) := by decide +kernel
theorem dd_mm_code_122 : decode prog_12_method_5_code 122 = .ok (.iastore, 1) := by decide +kernel
theorem dd_mm_code_123 : decode prog_12_method_5_code 123 = .ok (.aload_n 0, 1) := by decide +kernel
theorem dd_mm_code_124 : decode prog_12_method_5_code 124 = .ok (.getfield 7, 3) := by decide +kernel
theorem dd_mm_code_127 : decode prog_12_method_5_code 127 = .ok (.iload_n 1, 1) := by decide +kernel
theorem dd_mm_code_128 : decode prog_12_method_5_code 128 = .ok (.dup2, 1) := by decide +kernel
theorem dd_mm_code_129 : decode prog_12_method_5_code 129 = .ok (.iaload, 1) := by decide +kernel
theorem dd_mm_code_130 : decode prog_12_method_5_code 130 = .ok (.iconst 1, 1) := by decide +kernel
theorem dd_mm_code_131 : decode prog_12_method_5_code 131 = .ok (.iadd, 1) := by decide +kernel
theorem dd_mm_code_132 : decode prog_12_method_5_code 132 = .ok (.iastore, 1) := by decide +kernel
theorem dd_mm_code_133 : decode prog_12_method_5_code 133 = .ok (.iconst 1, 1) := by decide +kernel
theorem dd_mm_code_134 : decode prog_12_method_5_code 134 = .ok (.ireturn, 1) := by decide +kernel
set_option maxHeartbeats 4000000 in
set_option maxRecDepth 100000 in
theorem kb_mm_code_b31 {p : Program} {l : Launch} {e : Env} {s : State} {m : MethodId} {args : Array Value} {below : List Frame} {meth : Method} {c : Code} {D : va_G} {ac : Nat → ClassId} {a0 : Nat} {gl : gl_T} {rF : Int32} {stF : st_S} {iT jT : Nat}
    (X : cx_ p s m args c prog_12_method_5_code 6 "PromiseVatsModel" tb_ D cl_ (ty_ ac)) (hKs : kn_ D ac a0 gl s) (hlk : meth.locks = false) (hret : meth.sig.returnType = (Option.some FieldType.boolean)) (hnm : meth.name = "code") : wk_ p l e 0 0 s m args below meth c D cl_ ac a0 6 vb_i rF stF iT jT 31 (fun x : Unit => []) (fun x : Unit => []) (fun _ : Unit => mm_code_b31 gl) := by
  intro x st H locs cells slots i j ls hw hl h hci hcj
  have h : mm_code_b31 gl  st = some (rF, stF, i, j) := h
  unfold mm_code_b31 at h
  have hl : lh_ ls 6 [] := hl
  refine W.eq (g2 := F0 m 31 ls []) rfl ?_
  refine lv_iconst (v := (0 : Int32)) X.1 X.2.1 dd_mm_code_31 (by decide) ?_
  obtain ⟨rfl, rfl, rfl, rfl⟩ := st_r_some h
  exact rr_iret X hw hlk hret (by decide) hci hcj dd_mm_code_32
set_option maxHeartbeats 4000000 in
set_option maxRecDepth 100000 in
theorem kb_mm_code_b92 {p : Program} {l : Launch} {e : Env} {s : State} {m : MethodId} {args : Array Value} {below : List Frame} {meth : Method} {c : Code} {D : va_G} {ac : Nat → ClassId} {a0 : Nat} {gl : gl_T} {rF : Int32} {stF : st_S} {iT jT : Nat}
    (X : cx_ p s m args c prog_12_method_5_code 6 "PromiseVatsModel" tb_ D cl_ (ty_ ac)) (hKs : kn_ D ac a0 gl s) (hlk : meth.locks = false) (hret : meth.sig.returnType = (Option.some FieldType.boolean)) (hnm : meth.name = "code") : wk_ p l e 0 0 s m args below meth c D cl_ ac a0 6 vb_i rF stF iT jT 92 (fun x : Unit => []) (fun x : Unit => []) (fun _ : Unit => mm_code_b92 gl) := by
  intro x st H locs cells slots i j ls hw hl h hci hcj
  have h : mm_code_b92 gl  st = some (rF, stF, i, j) := h
  unfold mm_code_b92 at h
  have hl : lh_ ls 6 [] := hl
  refine W.eq (g2 := F0 m 92 ls []) rfl ?_
  refine lv_iconst (v := (0 : Int32)) X.1 X.2.1 dd_mm_code_92 (by decide) ?_
  obtain ⟨rfl, rfl, rfl, rfl⟩ := st_r_some h
  exact rr_iret X hw hlk hret (by decide) hci hcj dd_mm_code_93
set_option maxHeartbeats 4000000 in
set_option maxRecDepth 100000 in
theorem kb_mm_code_b94 {p : Program} {l : Launch} {e : Env} {s : State} {m : MethodId} {args : Array Value} {below : List Frame} {meth : Method} {c : Code} {D : va_G} {ac : Nat → ClassId} {a0 : Nat} {gl : gl_T} {rF : Int32} {stF : st_S} {iT jT : Nat}
    (X : cx_ p s m args c prog_12_method_5_code 6 "PromiseVatsModel" tb_ D cl_ (ty_ ac)) (hKs : kn_ D ac a0 gl s) (hlk : meth.locks = false) (hret : meth.sig.returnType = (Option.some FieldType.boolean)) (hnm : meth.name = "code") : wk_ p l e 0 0 s m args below meth c D cl_ ac a0 6 vb_i rF stF iT jT 94 (fun x : Option Nat × Int32 × Int32 × Int32 => [(0, (va_rf x.1)), (1, (.int x.2.1)), (2, (.int x.2.2.1)), (3, (.int x.2.2.2))]) (fun x : Option Nat × Int32 × Int32 × Int32 => []) (fun x : Option Nat × Int32 × Int32 × Int32 => mm_code_b94 gl x.1 x.2.1 x.2.2.1 x.2.2.2) := by
  intro x st H locs cells slots i j ls hw hl h hci hcj
  obtain ⟨p0, p1, p2, p3⟩ := x
  have h : mm_code_b94 gl p0 p1 p2 p3 st = some (rF, stF, i, j) := h
  unfold mm_code_b94 at h
  have hl : lh_ ls 6 [(0, (va_rf p0)), (1, (.int p1)), (2, (.int p2)), (3, (.int p3))] := hl
  refine W.eq (g2 := F0 m 94 ls []) rfl ?_
  refine lv_bipush (v := (8 : Int32)) X.1 X.2.1 dd_mm_code_94 (by decide) ?_
  refine lv_iload_n X.1 X.2.1 dd_mm_code_96 rfl (lv_at hl.1 1 rfl) ?_
  refine lv_imul X.1 X.2.1 dd_mm_code_97 ?_
  refine rr_aldn X dd_mm_code_98 rfl (lv_at hl.1 0 rfl) ?_
  obtain ⟨t3, ht3, h⟩ := st_g_some h
  refine rr_getq X hw ff_10_3 ht3 tw_464 (Or.inl rfl) dd_mm_code_99 ?_
  refine lv_iload_n X.1 X.2.1 dd_mm_code_102 rfl (lv_at hl.1 1 rfl) ?_
  obtain ⟨t4, ht4, h⟩ := st_g_some h
  refine rr_iald (t := 0) X hw rfl ht4 dd_mm_code_103 ?_
  refine lv_iadd X.1 X.2.1 dd_mm_code_104 ?_
  refine rr_ist (lv' := [(5, (.int (((8 : Int32) * p1) + t4))), (0, (va_rf p0)), (1, (.int p1)), (2, (.int p2)), (3, (.int p3))]) X dd_mm_code_105 hl (by decide) rfl (fun ls hl => ?_)
  refine rr_aldn X dd_mm_code_107 rfl (lv_at hl.1 1 rfl) ?_
  obtain ⟨t5, ht5, h⟩ := st_g_some h
  refine rr_getq X hw ff_10_4 ht5 tw_463 (Or.inl rfl) dd_mm_code_108 ?_
  refine lv_iload X.1 X.2.1 dd_mm_code_111 (lv_at hl.1 0 rfl) ?_
  refine lv_iload_n X.1 X.2.1 dd_mm_code_113 rfl (lv_at hl.1 3 rfl) ?_
  obtain ⟨t6, hp114, h⟩ := st_w_some h
  refine rr_iast (t := 0) X hw rfl hp114 dd_mm_code_114 (fun H locs hw => ?_)
  refine rr_aldn X dd_mm_code_115 rfl (lv_at hl.1 1 rfl) ?_
  obtain ⟨t7, ht7, h⟩ := st_g_some h
  refine rr_getq X hw ff_10_5 ht7 tw_462 (Or.inl rfl) dd_mm_code_116 ?_
  refine lv_iload X.1 X.2.1 dd_mm_code_119 (lv_at hl.1 0 rfl) ?_
  refine lv_iload_n X.1 X.2.1 dd_mm_code_121 rfl (lv_at hl.1 4 rfl) ?_
  obtain ⟨t8, hp122, h⟩ := st_w_some h
  refine rr_iast (t := 0) X hw rfl hp122 dd_mm_code_122 (fun H locs hw => ?_)
  refine rr_aldn X dd_mm_code_123 rfl (lv_at hl.1 1 rfl) ?_
  obtain ⟨t9, ht9, h⟩ := st_g_some h
  refine rr_getq X hw ff_10_3 ht9 tw_464 (Or.inl rfl) dd_mm_code_124 ?_
  refine lv_iload_n X.1 X.2.1 dd_mm_code_127 rfl (lv_at hl.1 2 rfl) ?_
  refine lv_dup2_11 X.1 X.2.1 dd_mm_code_128 rfl (rf_cat _) ?_
  obtain ⟨t10, ht10, h⟩ := st_g_some h
  refine rr_iald (t := 0) X hw rfl ht10 dd_mm_code_129 ?_
  refine lv_iconst (v := (1 : Int32)) X.1 X.2.1 dd_mm_code_130 (by decide) ?_
  refine lv_iadd X.1 X.2.1 dd_mm_code_131 ?_
  obtain ⟨t11, hp132, h⟩ := st_w_some h
  refine rr_iast (t := 0) X hw rfl hp132 dd_mm_code_132 (fun H locs hw => ?_)
  refine lv_iconst (v := (1 : Int32)) X.1 X.2.1 dd_mm_code_133 (by decide) ?_
  obtain ⟨rfl, rfl, rfl, rfl⟩ := st_r_some h
  exact rr_iret X hw hlk hret (by decide) hci hcj dd_mm_code_134
set_option maxHeartbeats 4000000 in
set_option maxRecDepth 100000 in
theorem kb_mm_code_b82 {p : Program} {l : Launch} {e : Env} {s : State} {m : MethodId} {args : Array Value} {below : List Frame} {meth : Method} {c : Code} {D : va_G} {ac : Nat → ClassId} {a0 : Nat} {gl : gl_T} {rF : Int32} {stF : st_S} {iT jT : Nat}
    (X : cx_ p s m args c prog_12_method_5_code 6 "PromiseVatsModel" tb_ D cl_ (ty_ ac)) (hKs : kn_ D ac a0 gl s) (hlk : meth.locks = false) (hret : meth.sig.returnType = (Option.some FieldType.boolean)) (hnm : meth.name = "code") : wk_ p l e 0 0 s m args below meth c D cl_ ac a0 6 vb_i rF stF iT jT 82 (fun x : Option Nat × Int32 × Int32 × Int32 => [(0, (va_rf x.1)), (1, (.int x.2.1)), (2, (.int x.2.2.1)), (3, (.int x.2.2.2))]) (fun x : Option Nat × Int32 × Int32 × Int32 => []) (fun x : Option Nat × Int32 × Int32 × Int32 => mm_code_b82 gl x.1 x.2.1 x.2.2.1 x.2.2.2) := by
  intro x st H locs cells slots i j ls hw hl h hci hcj
  obtain ⟨p0, p1, p2, p3⟩ := x
  have h : mm_code_b82 gl p0 p1 p2 p3 st = some (rF, stF, i, j) := h
  unfold mm_code_b82 at h
  have hl : lh_ ls 6 [(0, (va_rf p0)), (1, (.int p1)), (2, (.int p2)), (3, (.int p3))] := hl
  refine W.eq (g2 := F0 m 82 ls []) rfl ?_
  refine lv_iload_n X.1 X.2.1 dd_mm_code_82 rfl (lv_at hl.1 3 rfl) ?_
  by_cases hc83 : p3 < 0
  · rw [if_pos hc83] at h
    refine lv_if_lt (tgt := 92) X.1 X.2.1 dd_mm_code_83 (by decide) (fun _ => ?_) (fun z => absurd hc83 z)
    exact (kb_mm_code_b92 X hKs hlk hret hnm) () _ _ _ _ _ _ _ _ hw (lh_pk hl [] rfl) h hci hcj
  · rw [if_neg hc83] at h
    refine lv_if_lt (tgt := 92) X.1 X.2.1 dd_mm_code_83 (by decide) (fun z => absurd z hc83) (fun _ => ?_)
    refine lv_iload_n X.1 X.2.1 dd_mm_code_86 rfl (lv_at hl.1 3 rfl) ?_
    refine lv_bipush (v := (7 : Int32)) X.1 X.2.1 dd_mm_code_87 (by decide) ?_
    by_cases hc89 : p3 ≤ (7 : Int32)
    · rw [if_pos hc89] at h
      refine lv_icmp_le (tgt := 94) X.1 X.2.1 dd_mm_code_89 (by decide) (fun _ => ?_) (fun z => absurd hc89 z)
      exact (kb_mm_code_b94 X hKs hlk hret hnm) (p0, p1, p2, p3) _ _ _ _ _ _ _ _ hw (lh_pk hl [0, 1, 2, 3] rfl) h hci hcj
    · rw [if_neg hc89] at h
      refine lv_icmp_le (tgt := 94) X.1 X.2.1 dd_mm_code_89 (by decide) (fun z => absurd z hc89) (fun _ => ?_)
      exact (kb_mm_code_b92 X hKs hlk hret hnm) () _ _ _ _ _ _ _ _ hw (lh_pk hl [] rfl) h hci hcj
set_option maxHeartbeats 4000000 in
set_option maxRecDepth 100000 in
theorem kb_mm_code_b70 {p : Program} {l : Launch} {e : Env} {s : State} {m : MethodId} {args : Array Value} {below : List Frame} {meth : Method} {c : Code} {D : va_G} {ac : Nat → ClassId} {a0 : Nat} {gl : gl_T} {rF : Int32} {stF : st_S} {iT jT : Nat}
    (X : cx_ p s m args c prog_12_method_5_code 6 "PromiseVatsModel" tb_ D cl_ (ty_ ac)) (hKs : kn_ D ac a0 gl s) (hlk : meth.locks = false) (hret : meth.sig.returnType = (Option.some FieldType.boolean)) (hnm : meth.name = "code") : wk_ p l e 0 0 s m args below meth c D cl_ ac a0 6 vb_i rF stF iT jT 70 (fun x : Option Nat × Int32 × Int32 × Int32 => [(0, (va_rf x.1)), (1, (.int x.2.1)), (2, (.int x.2.2.1)), (3, (.int x.2.2.2))]) (fun x : Option Nat × Int32 × Int32 × Int32 => []) (fun x : Option Nat × Int32 × Int32 × Int32 => mm_code_b70 gl x.1 x.2.1 x.2.2.1 x.2.2.2) := by
  intro x st H locs cells slots i j ls hw hl h hci hcj
  obtain ⟨p0, p1, p2, p3⟩ := x
  have h : mm_code_b70 gl p0 p1 p2 p3 st = some (rF, stF, i, j) := h
  unfold mm_code_b70 at h
  have hl : lh_ ls 6 [(0, (va_rf p0)), (1, (.int p1)), (2, (.int p2)), (3, (.int p3))] := hl
  refine W.eq (g2 := F0 m 70 ls []) rfl ?_
  refine lv_iload_n X.1 X.2.1 dd_mm_code_70 rfl (lv_at hl.1 2 rfl) ?_
  refine lv_bipush (v := (6 : Int32)) X.1 X.2.1 dd_mm_code_71 (by decide) ?_
  by_cases hc73 : p2 = (6 : Int32)
  · rw [if_pos hc73] at h
    refine lv_icmp_eq (tgt := 82) X.1 X.2.1 dd_mm_code_73 (by decide) (fun _ => ?_) (fun z => absurd hc73 z)
    exact (kb_mm_code_b82 X hKs hlk hret hnm) (p0, p1, p2, p3) _ _ _ _ _ _ _ _ hw (lh_pk hl [0, 1, 2, 3] rfl) h hci hcj
  · rw [if_neg hc73] at h
    refine lv_icmp_eq (tgt := 82) X.1 X.2.1 dd_mm_code_73 (by decide) (fun z => absurd z hc73) (fun _ => ?_)
    refine lv_iload_n X.1 X.2.1 dd_mm_code_76 rfl (lv_at hl.1 2 rfl) ?_
    refine lv_bipush (v := (8 : Int32)) X.1 X.2.1 dd_mm_code_77 (by decide) ?_
    by_cases hc79 : p2 = (8 : Int32)
    · rw [if_pos hc79] at h
      refine lv_icmp_ne (tgt := 94) X.1 X.2.1 dd_mm_code_79 (by decide) (fun z => absurd hc79 z) (fun _ => ?_)
      exact (kb_mm_code_b82 X hKs hlk hret hnm) (p0, p1, p2, p3) _ _ _ _ _ _ _ _ hw (lh_pk hl [0, 1, 2, 3] rfl) h hci hcj
    · rw [if_neg hc79] at h
      refine lv_icmp_ne (tgt := 94) X.1 X.2.1 dd_mm_code_79 (by decide) (fun _ => ?_) (fun z => absurd z hc79)
      exact (kb_mm_code_b94 X hKs hlk hret hnm) (p0, p1, p2, p3) _ _ _ _ _ _ _ _ hw (lh_pk hl [0, 1, 2, 3] rfl) h hci hcj
set_option maxHeartbeats 4000000 in
set_option maxRecDepth 100000 in
theorem kb_mm_code_b54 {p : Program} {l : Launch} {e : Env} {s : State} {m : MethodId} {args : Array Value} {below : List Frame} {meth : Method} {c : Code} {D : va_G} {ac : Nat → ClassId} {a0 : Nat} {gl : gl_T} {rF : Int32} {stF : st_S} {iT jT : Nat}
    (X : cx_ p s m args c prog_12_method_5_code 6 "PromiseVatsModel" tb_ D cl_ (ty_ ac)) (hKs : kn_ D ac a0 gl s) (hlk : meth.locks = false) (hret : meth.sig.returnType = (Option.some FieldType.boolean)) (hnm : meth.name = "code") : wk_ p l e 0 0 s m args below meth c D cl_ ac a0 6 vb_i rF stF iT jT 54 (fun x : Option Nat × Int32 × Int32 × Int32 × Int32 => [(0, (va_rf x.1)), (1, (.int x.2.1)), (2, (.int x.2.2.1)), (3, (.int x.2.2.2.1))]) (fun x : Option Nat × Int32 × Int32 × Int32 × Int32 => [(.int x.2.2.2.2)]) (fun x : Option Nat × Int32 × Int32 × Int32 × Int32 => mm_code_b54 gl x.1 x.2.1 x.2.2.1 x.2.2.2.1 x.2.2.2.2) := by
  intro x st H locs cells slots i j ls hw hl h hci hcj
  obtain ⟨p0, p1, p2, p3, q0⟩ := x
  have h : mm_code_b54 gl p0 p1 p2 p3 q0 st = some (rF, stF, i, j) := h
  unfold mm_code_b54 at h
  have hl : lh_ ls 6 [(0, (va_rf p0)), (1, (.int p1)), (2, (.int p2)), (3, (.int p3))] := hl
  refine W.eq (g2 := F0 m 54 ls [(.int q0)]) rfl ?_
  refine rr_ist (lv' := [(4, (.int q0)), (0, (va_rf p0)), (1, (.int p1)), (2, (.int p2)), (3, (.int p3))]) X dd_mm_code_54 hl (by decide) rfl (fun ls hl => ?_)
  refine lv_iload X.1 X.2.1 dd_mm_code_56 (lv_at hl.1 0 rfl) ?_
  by_cases hc58 : q0 = 0
  · rw [if_pos hc58] at h
    refine lv_if_eq (tgt := 70) X.1 X.2.1 dd_mm_code_58 (by decide) (fun _ => ?_) (fun z => absurd hc58 z)
    exact (kb_mm_code_b70 X hKs hlk hret hnm) (p0, p1, p2, p3) _ _ _ _ _ _ _ _ hw (lh_pk hl [1, 2, 3, 4] rfl) h hci hcj
  · rw [if_neg hc58] at h
    refine lv_if_eq (tgt := 70) X.1 X.2.1 dd_mm_code_58 (by decide) (fun z => absurd z hc58) (fun _ => ?_)
    refine lv_iload_n X.1 X.2.1 dd_mm_code_61 rfl (lv_at hl.1 4 rfl) ?_
    by_cases hc62 : p3 < 0
    · rw [if_pos hc62] at h
      refine lv_if_lt (tgt := 92) X.1 X.2.1 dd_mm_code_62 (by decide) (fun _ => ?_) (fun z => absurd hc62 z)
      exact (kb_mm_code_b92 X hKs hlk hret hnm) () _ _ _ _ _ _ _ _ hw (lh_pk hl [] rfl) h hci hcj
    · rw [if_neg hc62] at h
      refine lv_if_lt (tgt := 92) X.1 X.2.1 dd_mm_code_62 (by decide) (fun z => absurd z hc62) (fun _ => ?_)
      refine lv_iload_n X.1 X.2.1 dd_mm_code_65 rfl (lv_at hl.1 4 rfl) ?_
      refine lv_iconst (v := (3 : Int32)) X.1 X.2.1 dd_mm_code_66 (by decide) ?_
      by_cases hc67 : (3 : Int32) < p3
      · rw [if_pos hc67] at h
        refine lv_icmp_gt (tgt := 92) X.1 X.2.1 dd_mm_code_67 (by decide) (fun _ => ?_) (fun z => absurd hc67 z)
        exact (kb_mm_code_b92 X hKs hlk hret hnm) () _ _ _ _ _ _ _ _ hw (lh_pk hl [] rfl) h hci hcj
      · rw [if_neg hc67] at h
        refine lv_icmp_gt (tgt := 92) X.1 X.2.1 dd_mm_code_67 (by decide) (fun z => absurd z hc67) (fun _ => ?_)
        exact (kb_mm_code_b70 X hKs hlk hret hnm) (p0, p1, p2, p3) _ _ _ _ _ _ _ _ hw (lh_pk hl [1, 2, 3, 4] rfl) h hci hcj
set_option maxHeartbeats 4000000 in
set_option maxRecDepth 100000 in
theorem kb_mm_code_b49 {p : Program} {l : Launch} {e : Env} {s : State} {m : MethodId} {args : Array Value} {below : List Frame} {meth : Method} {c : Code} {D : va_G} {ac : Nat → ClassId} {a0 : Nat} {gl : gl_T} {rF : Int32} {stF : st_S} {iT jT : Nat}
    (X : cx_ p s m args c prog_12_method_5_code 6 "PromiseVatsModel" tb_ D cl_ (ty_ ac)) (hKs : kn_ D ac a0 gl s) (hlk : meth.locks = false) (hret : meth.sig.returnType = (Option.some FieldType.boolean)) (hnm : meth.name = "code") : wk_ p l e 0 0 s m args below meth c D cl_ ac a0 6 vb_i rF stF iT jT 49 (fun x : Option Nat × Int32 × Int32 × Int32 => [(0, (va_rf x.1)), (1, (.int x.2.1)), (2, (.int x.2.2.1)), (3, (.int x.2.2.2))]) (fun x : Option Nat × Int32 × Int32 × Int32 => []) (fun x : Option Nat × Int32 × Int32 × Int32 => mm_code_b49 gl x.1 x.2.1 x.2.2.1 x.2.2.2) := by
  intro x st H locs cells slots i j ls hw hl h hci hcj
  obtain ⟨p0, p1, p2, p3⟩ := x
  have h : mm_code_b49 gl p0 p1 p2 p3 st = some (rF, stF, i, j) := h
  unfold mm_code_b49 at h
  have hl : lh_ ls 6 [(0, (va_rf p0)), (1, (.int p1)), (2, (.int p2)), (3, (.int p3))] := hl
  refine W.eq (g2 := F0 m 49 ls []) rfl ?_
  refine lv_iconst (v := (1 : Int32)) X.1 X.2.1 dd_mm_code_49 (by decide) ?_
  refine lv_goto (tgt := 54) X.1 X.2.1 dd_mm_code_50 (by decide) ?_
  exact (kb_mm_code_b54 X hKs hlk hret hnm) (p0, p1, p2, p3, (1 : Int32)) _ _ _ _ _ _ _ _ hw (lh_pk hl [0, 1, 2, 3] rfl) h hci hcj
set_option maxHeartbeats 4000000 in
set_option maxRecDepth 100000 in
theorem kc_mm_code (l : Launch) (D : va_G) (ac : Nat → ClassId) (a0 : Nat) (gl : gl_T) (v0 : Option Nat) (v1 : Int32) (v2 : Int32) (v3 : Int32) (st : st_S) (rF : Int32) (stF : st_S) (iT jT : Nat) (h : mm_code gl v0 v1 v2 v3 st = some (rF, stF, iT, jT)) :
    ct_ l ⟨"PromiseVatsModel", "code", "(III)Z"⟩ (Cond.code ⟨"PromiseVatsModel", "code", "(III)Z"⟩ prog_12_method_5_code 6 (Option.some FieldType.boolean) :: tb_) 0 0 D cl_ ac a0 (kn_ D ac a0 gl) [(va_rf v0), (.int v1), (.int v2), (.int v3)] st (vb_i rF) stF iT jT := by
  refine ct_of (kn_ok D ac a0 gl) (plainFor_of_name (by decide +kernel)) (by simp [rf_cat, ic_cat]) (by simp) ?_
  intro p e s m args below meth c ls X hw hKs hlk hret hnm hl
  unfold mm_code at h
  have hl : lh_ ls 6 [(0, (va_rf v0)), (1, (.int v1)), (2, (.int v2)), (3, (.int v3))] := hl
  obtain ⟨z0, hz0⟩ : ∃ z : Nat, 0 = z := ⟨0, rfl⟩
  obtain ⟨z1, hz1⟩ : ∃ z : Nat, 0 = z := ⟨0, rfl⟩
  refine W.cs hz0 hz1 ?_
  have hci : z0 + iT = iT := by omega
  have hcj : z1 + jT = jT := by omega
  refine lv_iload_n X.1 X.2.1 dd_mm_code_0 rfl (lv_at hl.1 1 rfl) ?_
  by_cases hc1 : v1 < 0
  · rw [if_pos hc1] at h
    refine lv_if_lt (tgt := 31) X.1 X.2.1 dd_mm_code_1 (by decide) (fun _ => ?_) (fun z => absurd hc1 z)
    exact (kb_mm_code_b31 X hKs hlk hret hnm) () _ _ _ _ _ _ _ _ hw (lh_pk hl [] rfl) h hci hcj
  · rw [if_neg hc1] at h
    refine lv_if_lt (tgt := 31) X.1 X.2.1 dd_mm_code_1 (by decide) (fun z => absurd z hc1) (fun _ => ?_)
    refine lv_iload_n X.1 X.2.1 dd_mm_code_4 rfl (lv_at hl.1 1 rfl) ?_
    refine lv_bipush (v := (7 : Int32)) X.1 X.2.1 dd_mm_code_5 (by decide) ?_
    by_cases hc7 : (7 : Int32) < v1
    · rw [if_pos hc7] at h
      refine lv_icmp_gt (tgt := 31) X.1 X.2.1 dd_mm_code_7 (by decide) (fun _ => ?_) (fun z => absurd hc7 z)
      exact (kb_mm_code_b31 X hKs hlk hret hnm) () _ _ _ _ _ _ _ _ hw (lh_pk hl [] rfl) h hci hcj
    · rw [if_neg hc7] at h
      refine lv_icmp_gt (tgt := 31) X.1 X.2.1 dd_mm_code_7 (by decide) (fun z => absurd z hc7) (fun _ => ?_)
      refine lv_iload_n X.1 X.2.1 dd_mm_code_10 rfl (lv_at hl.1 2 rfl) ?_
      by_cases hc11 : v2 < 0
      · rw [if_pos hc11] at h
        refine lv_if_lt (tgt := 31) X.1 X.2.1 dd_mm_code_11 (by decide) (fun _ => ?_) (fun z => absurd hc11 z)
        exact (kb_mm_code_b31 X hKs hlk hret hnm) () _ _ _ _ _ _ _ _ hw (lh_pk hl [] rfl) h hci hcj
      · rw [if_neg hc11] at h
        refine lv_if_lt (tgt := 31) X.1 X.2.1 dd_mm_code_11 (by decide) (fun z => absurd z hc11) (fun _ => ?_)
        refine lv_iload_n X.1 X.2.1 dd_mm_code_14 rfl (lv_at hl.1 2 rfl) ?_
        refine lv_bipush (v := (10 : Int32)) X.1 X.2.1 dd_mm_code_15 (by decide) ?_
        by_cases hc17 : (10 : Int32) < v2
        · rw [if_pos hc17] at h
          refine lv_icmp_gt (tgt := 31) X.1 X.2.1 dd_mm_code_17 (by decide) (fun _ => ?_) (fun z => absurd hc17 z)
          exact (kb_mm_code_b31 X hKs hlk hret hnm) () _ _ _ _ _ _ _ _ hw (lh_pk hl [] rfl) h hci hcj
        · rw [if_neg hc17] at h
          refine lv_icmp_gt (tgt := 31) X.1 X.2.1 dd_mm_code_17 (by decide) (fun z => absurd z hc17) (fun _ => ?_)
          refine rr_aldn X dd_mm_code_20 rfl (lv_at hl.1 0 rfl) ?_
          obtain ⟨t1, ht1, h⟩ := st_g_some h
          refine rr_getq X hw ff_10_3 ht1 tw_464 (Or.inl rfl) dd_mm_code_21 ?_
          refine lv_iload_n X.1 X.2.1 dd_mm_code_24 rfl (lv_at hl.1 1 rfl) ?_
          obtain ⟨t2, ht2, h⟩ := st_g_some h
          refine rr_iald (t := 0) X hw rfl ht2 dd_mm_code_25 ?_
          refine lv_bipush (v := (8 : Int32)) X.1 X.2.1 dd_mm_code_26 (by decide) ?_
          by_cases hc28 : t2 < (8 : Int32)
          · rw [if_pos hc28] at h
            refine lv_icmp_lt (tgt := 33) X.1 X.2.1 dd_mm_code_28 (by decide) (fun _ => ?_) (fun z => absurd hc28 z)
            refine lv_iload_n X.1 X.2.1 dd_mm_code_33 rfl (lv_at hl.1 2 rfl) ?_
            refine lv_iconst (v := (3 : Int32)) X.1 X.2.1 dd_mm_code_34 (by decide) ?_
            by_cases hc35 : v2 = (3 : Int32)
            · rw [if_pos hc35] at h
              refine lv_icmp_eq (tgt := 49) X.1 X.2.1 dd_mm_code_35 (by decide) (fun _ => ?_) (fun z => absurd hc35 z)
              exact (kb_mm_code_b49 X hKs hlk hret hnm) (v0, v1, v2, v3) _ _ _ _ _ _ _ _ hw (lh_pk hl [0, 1, 2, 3] rfl) h hci hcj
            · rw [if_neg hc35] at h
              refine lv_icmp_eq (tgt := 49) X.1 X.2.1 dd_mm_code_35 (by decide) (fun z => absurd z hc35) (fun _ => ?_)
              refine lv_iload_n X.1 X.2.1 dd_mm_code_38 rfl (lv_at hl.1 2 rfl) ?_
              refine lv_iconst (v := (4 : Int32)) X.1 X.2.1 dd_mm_code_39 (by decide) ?_
              by_cases hc40 : v2 = (4 : Int32)
              · rw [if_pos hc40] at h
                refine lv_icmp_eq (tgt := 49) X.1 X.2.1 dd_mm_code_40 (by decide) (fun _ => ?_) (fun z => absurd hc40 z)
                exact (kb_mm_code_b49 X hKs hlk hret hnm) (v0, v1, v2, v3) _ _ _ _ _ _ _ _ hw (lh_pk hl [0, 1, 2, 3] rfl) h hci hcj
              · rw [if_neg hc40] at h
                refine lv_icmp_eq (tgt := 49) X.1 X.2.1 dd_mm_code_40 (by decide) (fun z => absurd z hc40) (fun _ => ?_)
                refine lv_iload_n X.1 X.2.1 dd_mm_code_43 rfl (lv_at hl.1 2 rfl) ?_
                refine lv_bipush (v := (7 : Int32)) X.1 X.2.1 dd_mm_code_44 (by decide) ?_
                by_cases hc46 : v2 = (7 : Int32)
                · rw [if_pos hc46] at h
                  refine lv_icmp_ne (tgt := 53) X.1 X.2.1 dd_mm_code_46 (by decide) (fun z => absurd hc46 z) (fun _ => ?_)
                  exact (kb_mm_code_b49 X hKs hlk hret hnm) (v0, v1, v2, v3) _ _ _ _ _ _ _ _ hw (lh_pk hl [0, 1, 2, 3] rfl) h hci hcj
                · rw [if_neg hc46] at h
                  refine lv_icmp_ne (tgt := 53) X.1 X.2.1 dd_mm_code_46 (by decide) (fun _ => ?_) (fun z => absurd z hc46)
                  refine lv_iconst (v := (0 : Int32)) X.1 X.2.1 dd_mm_code_53 (by decide) ?_
                  exact (kb_mm_code_b54 X hKs hlk hret hnm) (v0, v1, v2, v3, (0 : Int32)) _ _ _ _ _ _ _ _ hw (lh_pk hl [0, 1, 2, 3] rfl) h hci hcj
          · rw [if_neg hc28] at h
            refine lv_icmp_lt (tgt := 33) X.1 X.2.1 dd_mm_code_28 (by decide) (fun z => absurd z hc28) (fun _ => ?_)
            exact (kb_mm_code_b31 X hKs hlk hret hnm) () _ _ _ _ _ _ _ _ hw (lh_pk hl [] rfl) h hci hcj
/-! PromiseVatsModel.clear(I)Z -/
theorem dd_mm_clear_0 : decode prog_12_method_6_code 0 = .ok (.iload_n 1, 1) := by decide +kernel
theorem dd_mm_clear_1 : decode prog_12_method_6_code 1 = .ok (.ifCond .lt 9, 3) := by decide +kernel
theorem dd_mm_clear_4 : decode prog_12_method_6_code 4 = .ok (.iload_n 1, 1) := by decide +kernel
theorem dd_mm_clear_5 : decode prog_12_method_6_code 5 = .ok (.bipush 7, 2) := by decide +kernel
theorem dd_mm_clear_7 : decode prog_12_method_6_code 7 = .ok (.if_icmp .le 5, 3) := by decide +kernel
theorem dd_mm_clear_10 : decode prog_12_method_6_code 10 = .ok (.iconst 0, 1) := by decide +kernel
theorem dd_mm_clear_11 : decode prog_12_method_6_code 11 = .ok (.ireturn, 1) := by decide +kernel
theorem dd_mm_clear_12 : decode prog_12_method_6_code 12 = .ok (.aload_n 0, 1) := by decide +kernel
theorem dd_mm_clear_13 : decode prog_12_method_6_code 13 = .ok (.getfield 7, 3) := by decide +kernel
theorem dd_mm_clear_16 : decode prog_12_method_6_code 16 = .ok (.iload_n 1, 1) := by decide +kernel
theorem dd_mm_clear_17 : decode prog_12_method_6_code 17 = .ok (.iconst 0, 1) := by decide +kernel
theorem dd_mm_clear_18 : decode prog_12_method_6_code 18 = .ok (.iastore, 1) := by decide +kernel
theorem dd_mm_clear_19 : decode prog_12_method_6_code 19 = .ok (.iconst 1, 1) := by decide +kernel
theorem dd_mm_clear_20 : decode prog_12_method_6_code 20 = .ok (.ireturn, 1) := by decide +kernel
set_option maxHeartbeats 4000000 in
set_option maxRecDepth 100000 in
theorem kb_mm_clear_b10 {p : Program} {l : Launch} {e : Env} {s : State} {m : MethodId} {args : Array Value} {below : List Frame} {meth : Method} {c : Code} {D : va_G} {ac : Nat → ClassId} {a0 : Nat} {gl : gl_T} {rF : Int32} {stF : st_S} {iT jT : Nat}
    (X : cx_ p s m args c prog_12_method_6_code 2 "PromiseVatsModel" tb_ D cl_ (ty_ ac)) (hKs : kn_ D ac a0 gl s) (hlk : meth.locks = false) (hret : meth.sig.returnType = (Option.some FieldType.boolean)) (hnm : meth.name = "clea\x72") : wk_ p l e 0 0 s m args below meth c D cl_ ac a0 2 vb_i rF stF iT jT 10 (fun x : Unit => []) (fun x : Unit => []) (fun _ : Unit => mm_clear_b10 gl) := by
  intro x st H locs cells slots i j ls hw hl h hci hcj
  have h : mm_clear_b10 gl  st = some (rF, stF, i, j) := h
  unfold mm_clear_b10 at h
  have hl : lh_ ls 2 [] := hl
  refine W.eq (g2 := F0 m 10 ls []) rfl ?_
  refine lv_iconst (v := (0 : Int32)) X.1 X.2.1 dd_mm_clear_10 (by decide) ?_
  obtain ⟨rfl, rfl, rfl, rfl⟩ := st_r_some h
  exact rr_iret X hw hlk hret (by decide) hci hcj dd_mm_clear_11
set_option maxHeartbeats 4000000 in
set_option maxRecDepth 100000 in
theorem kc_mm_clear (l : Launch) (D : va_G) (ac : Nat → ClassId) (a0 : Nat) (gl : gl_T) (v0 : Option Nat) (v1 : Int32) (st : st_S) (rF : Int32) (stF : st_S) (iT jT : Nat) (h : mm_clear gl v0 v1 st = some (rF, stF, iT, jT)) :
    ct_ l ⟨"PromiseVatsModel", "clea\x72", "(I)Z"⟩ (Cond.code ⟨"PromiseVatsModel", "clea\x72", "(I)Z"⟩ prog_12_method_6_code 2 (Option.some FieldType.boolean) :: tb_) 0 0 D cl_ ac a0 (kn_ D ac a0 gl) [(va_rf v0), (.int v1)] st (vb_i rF) stF iT jT := by
  refine ct_of (kn_ok D ac a0 gl) (plainFor_of_name (by decide +kernel)) (by simp [rf_cat, ic_cat]) (by simp) ?_
  intro p e s m args below meth c ls X hw hKs hlk hret hnm hl
  unfold mm_clear at h
  have hl : lh_ ls 2 [(0, (va_rf v0)), (1, (.int v1))] := hl
  obtain ⟨z0, hz0⟩ : ∃ z : Nat, 0 = z := ⟨0, rfl⟩
  obtain ⟨z1, hz1⟩ : ∃ z : Nat, 0 = z := ⟨0, rfl⟩
  refine W.cs hz0 hz1 ?_
  have hci : z0 + iT = iT := by omega
  have hcj : z1 + jT = jT := by omega
  refine lv_iload_n X.1 X.2.1 dd_mm_clear_0 rfl (lv_at hl.1 1 rfl) ?_
  by_cases hc1 : v1 < 0
  · rw [if_pos hc1] at h
    refine lv_if_lt (tgt := 10) X.1 X.2.1 dd_mm_clear_1 (by decide) (fun _ => ?_) (fun z => absurd hc1 z)
    exact (kb_mm_clear_b10 X hKs hlk hret hnm) () _ _ _ _ _ _ _ _ hw (lh_pk hl [] rfl) h hci hcj
  · rw [if_neg hc1] at h
    refine lv_if_lt (tgt := 10) X.1 X.2.1 dd_mm_clear_1 (by decide) (fun z => absurd z hc1) (fun _ => ?_)
    refine lv_iload_n X.1 X.2.1 dd_mm_clear_4 rfl (lv_at hl.1 1 rfl) ?_
    refine lv_bipush (v := (7 : Int32)) X.1 X.2.1 dd_mm_clear_5 (by decide) ?_
    by_cases hc7 : v1 ≤ (7 : Int32)
    · rw [if_pos hc7] at h
      refine lv_icmp_le (tgt := 12) X.1 X.2.1 dd_mm_clear_7 (by decide) (fun _ => ?_) (fun z => absurd hc7 z)
      refine rr_aldn X dd_mm_clear_12 rfl (lv_at hl.1 0 rfl) ?_
      obtain ⟨t1, ht1, h⟩ := st_g_some h
      refine rr_getq X hw ff_10_3 ht1 tw_464 (Or.inl rfl) dd_mm_clear_13 ?_
      refine lv_iload_n X.1 X.2.1 dd_mm_clear_16 rfl (lv_at hl.1 1 rfl) ?_
      refine lv_iconst (v := (0 : Int32)) X.1 X.2.1 dd_mm_clear_17 (by decide) ?_
      obtain ⟨t2, hp18, h⟩ := st_w_some h
      refine rr_iast (t := 0) X hw rfl hp18 dd_mm_clear_18 (fun H locs hw => ?_)
      refine lv_iconst (v := (1 : Int32)) X.1 X.2.1 dd_mm_clear_19 (by decide) ?_
      obtain ⟨rfl, rfl, rfl, rfl⟩ := st_r_some h
      exact rr_iret X hw hlk hret (by decide) hci hcj dd_mm_clear_20
    · rw [if_neg hc7] at h
      refine lv_icmp_le (tgt := 12) X.1 X.2.1 dd_mm_clear_7 (by decide) (fun z => absurd z hc7) (fun _ => ?_)
      exact (kb_mm_clear_b10 X hKs hlk hret hnm) () _ _ _ _ _ _ _ _ hw (lh_pk hl [] rfl) h hci hcj
/-! PromiseVatsModel.vat(I)Z -/
theorem dd_mm_vat_0 : decode prog_12_method_2_code 0 = .ok (.iload_n 1, 1) := by decide +kernel
theorem dd_mm_vat_1 : decode prog_12_method_2_code 1 = .ok (.ifCond .lt 15, 3) := by decide +kernel
theorem dd_mm_vat_4 : decode prog_12_method_2_code 4 = .ok (.iload_n 1, 1) := by decide +kernel
theorem dd_mm_vat_5 : decode prog_12_method_2_code 5 = .ok (.aload_n 0, 1) := by decide +kernel
theorem dd_mm_vat_6 : decode prog_12_method_2_code 6 = .ok (.getfield 94, 3) := by decide +kernel
theorem dd_mm_vat_9 : decode prog_12_method_2_code 9 = .ok (.if_icmp .ge 7, 3) := by decide +kernel
theorem dd_mm_vat_12 : decode prog_12_method_2_code 12 = .ok (.iconst 1, 1) := by decide +kernel
theorem dd_mm_vat_13 : decode prog_12_method_2_code 13 = .ok (.goto 4, 3) := by decide +kernel
theorem dd_mm_vat_16 : decode prog_12_method_2_code 16 = .ok (.iconst 0, 1) := by decide +kernel
theorem dd_mm_vat_17 : decode prog_12_method_2_code 17 = .ok (.ireturn, 1) := by decide +kernel
set_option maxHeartbeats 4000000 in
set_option maxRecDepth 100000 in
theorem kb_mm_vat_b16 {p : Program} {l : Launch} {e : Env} {s : State} {m : MethodId} {args : Array Value} {below : List Frame} {meth : Method} {c : Code} {D : va_G} {ac : Nat → ClassId} {a0 : Nat} {gl : gl_T} {rF : Int32} {stF : st_S} {iT jT : Nat}
    (X : cx_ p s m args c prog_12_method_2_code 2 "PromiseVatsModel" tb_ D cl_ (ty_ ac)) (hKs : kn_ D ac a0 gl s) (hlk : meth.locks = false) (hret : meth.sig.returnType = (Option.some FieldType.boolean)) (hnm : meth.name = "vat") : wk_ p l e 0 0 s m args below meth c D cl_ ac a0 2 vb_i rF stF iT jT 16 (fun x : Unit => []) (fun x : Unit => []) (fun _ : Unit => mm_vat_b16 gl) := by
  intro x st H locs cells slots i j ls hw hl h hci hcj
  have h : mm_vat_b16 gl  st = some (rF, stF, i, j) := h
  unfold mm_vat_b16 at h
  have hl : lh_ ls 2 [] := hl
  refine W.eq (g2 := F0 m 16 ls []) rfl ?_
  refine lv_iconst (v := (0 : Int32)) X.1 X.2.1 dd_mm_vat_16 (by decide) ?_
  obtain ⟨rfl, rfl, rfl, rfl⟩ := st_r_some h
  exact rr_iret X hw hlk hret (by decide) hci hcj dd_mm_vat_17
set_option maxHeartbeats 4000000 in
set_option maxRecDepth 100000 in
theorem kc_mm_vat (l : Launch) (D : va_G) (ac : Nat → ClassId) (a0 : Nat) (gl : gl_T) (v0 : Option Nat) (v1 : Int32) (st : st_S) (rF : Int32) (stF : st_S) (iT jT : Nat) (h : mm_vat gl v0 v1 st = some (rF, stF, iT, jT)) :
    ct_ l ⟨"PromiseVatsModel", "vat", "(I)Z"⟩ (Cond.code ⟨"PromiseVatsModel", "vat", "(I)Z"⟩ prog_12_method_2_code 2 (Option.some FieldType.boolean) :: tb_) 0 0 D cl_ ac a0 (kn_ D ac a0 gl) [(va_rf v0), (.int v1)] st (vb_i rF) stF iT jT := by
  refine ct_of (kn_ok D ac a0 gl) (plainFor_of_name (by decide +kernel)) (by simp [rf_cat, ic_cat]) (by simp) ?_
  intro p e s m args below meth c ls X hw hKs hlk hret hnm hl
  unfold mm_vat at h
  have hl : lh_ ls 2 [(0, (va_rf v0)), (1, (.int v1))] := hl
  obtain ⟨z0, hz0⟩ : ∃ z : Nat, 0 = z := ⟨0, rfl⟩
  obtain ⟨z1, hz1⟩ : ∃ z : Nat, 0 = z := ⟨0, rfl⟩
  refine W.cs hz0 hz1 ?_
  have hci : z0 + iT = iT := by omega
  have hcj : z1 + jT = jT := by omega
  refine lv_iload_n X.1 X.2.1 dd_mm_vat_0 rfl (lv_at hl.1 1 rfl) ?_
  by_cases hc1 : v1 < 0
  · rw [if_pos hc1] at h
    refine lv_if_lt (tgt := 16) X.1 X.2.1 dd_mm_vat_1 (by decide) (fun _ => ?_) (fun z => absurd hc1 z)
    exact (kb_mm_vat_b16 X hKs hlk hret hnm) () _ _ _ _ _ _ _ _ hw (lh_pk hl [] rfl) h hci hcj
  · rw [if_neg hc1] at h
    refine lv_if_lt (tgt := 16) X.1 X.2.1 dd_mm_vat_1 (by decide) (fun z => absurd z hc1) (fun _ => ?_)
    refine lv_iload_n X.1 X.2.1 dd_mm_vat_4 rfl (lv_at hl.1 1 rfl) ?_
    refine rr_aldn X dd_mm_vat_5 rfl (lv_at hl.1 0 rfl) ?_
    obtain ⟨t1, ht1, h⟩ := st_g_some h
    refine rr_geti X hw ff_10_0 ht1 tw_466 (Or.inl rfl) dd_mm_vat_6 ?_
    by_cases hc9 : t1 ≤ v1
    · rw [if_pos hc9] at h
      refine lv_icmp_ge (tgt := 16) X.1 X.2.1 dd_mm_vat_9 (by decide) (fun _ => ?_) (fun z => absurd hc9 z)
      exact (kb_mm_vat_b16 X hKs hlk hret hnm) () _ _ _ _ _ _ _ _ hw (lh_pk hl [] rfl) h hci hcj
    · rw [if_neg hc9] at h
      refine lv_icmp_ge (tgt := 16) X.1 X.2.1 dd_mm_vat_9 (by decide) (fun z => absurd z hc9) (fun _ => ?_)
      refine lv_iconst (v := (1 : Int32)) X.1 X.2.1 dd_mm_vat_12 (by decide) ?_
      refine lv_goto (tgt := 17) X.1 X.2.1 dd_mm_vat_13 (by decide) ?_
      obtain ⟨rfl, rfl, rfl, rfl⟩ := st_r_some h
      exact rr_iret X hw hlk hret (by decide) hci hcj dd_mm_vat_17
