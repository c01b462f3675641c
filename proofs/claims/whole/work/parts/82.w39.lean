/-! PromiseVatsModel.count(II)I -/
theorem dd_mm_count_0 : decode prog_12_method_35_code 0 = .ok (.aload_n 0, 1) := by decide +kernel
theorem dd_mm_count_1 : decode prog_12_method_35_code 1 = .ok (.iload_n 1, 1) := by decide +kernel
theorem dd_mm_count_2 : decode prog_12_method_35_code 2 = .ok (.invokevirtual 115, 3) := by decide +kernel
theorem dd_mm_count_5 : decode prog_12_method_35_code 5 = .ok (.ifCond .eq 13, 3) := by decide +kernel
theorem dd_mm_count_8 : decode prog_12_method_35_code 8 = .ok (.iload_n 2, 1) := by decide +kernel
theorem dd_mm_count_9 : decode prog_12_method_35_code 9 = .ok (.ifCond .lt 9, 3) := by decide +kernel
theorem dd_mm_count_12 : decode prog_12_method_35_code 12 = .ok (.iload_n 2, 1) := by decide +kernel
theorem dd_mm_count_13 : decode prog_12_method_35_code 13 = .ok (.bipush 7, 2) := by decide +kernel
theorem dd_mm_count_15 : decode prog_12_method_35_code 15 = .ok (.if_icmp .le 5, 3) := by decide +kernel
theorem dd_mm_count_18 : decode prog_12_method_35_code 18 = .ok (.iconst 0, 1) := by decide +kernel
theorem dd_mm_count_19 : decode prog_12_method_35_code 19 = .ok (.ireturn, 1) := by decide +kernel
theorem dd_mm_count_20 : decode prog_12_method_35_code 20 = .ok (.iconst 0, 1) := by decide +kernel
theorem dd_mm_count_21 : decode prog_12_method_35_code 21 = .ok (.istore_n 3, 1) := by decide +kernel
theorem dd_mm_count_22 : decode prog_12_method_35_code 22 = .ok (.iconst 1, 1) := by decide +kernel
theorem dd_mm_count_23 : decode prog_12_method_35_code 23 = .ok (.istore 4, 2) := by decide +kernel
theorem dd_mm_count_25 : decode prog_12_method_35_code 25 = .ok (.iload 4, 2) := by decide +kernel
theorem dd_mm_count_27 : decode prog_12_method_35_code 27 = .ok (.sipush 200, 3) := by decide +kernel
theorem dd_mm_count_30 : decode prog_12_method_35_code 30 = .ok (.if_icmp .gt 33, 3) := by decide +kernel
theorem dd_mm_count_33 : decode prog_12_method_35_code 33 = .ok (.iload_n 2, 1) := by decide +kernel
theorem dd_mm_count_34 : decode prog_12_method_35_code 34 = .ok (.iconst 4, 1) := by decide +kernel
theorem dd_mm_count_35 : decode prog_12_method_35_code 35 = .ok (.if_icmp .ge 28, 3) := by decide +kernel
theorem dd_mm_count_38 : decode prog_12_method_35_code 38 = .ok (.aload_n 0, 1) := by decide +kernel
theorem dd_mm_count_39 : decode prog_12_method_35_code 39 = .ok (.iload_n 1, 1) := by decide +kernel
theorem dd_mm_count_40 : decode prog_12_method_35_code 40 = .ok (.iload_n 2, 1) := by decide +kernel
theorem dd_mm_count_41 : decode prog_12_method_35_code 41 = .ok (.iload 4, 2) := by decide +kernel
theorem dd_mm_count_43 : decode prog_12_method_35_code 43 = .ok (.invokevirtual 205, 3) := by decide +kernel
theorem dd_mm_count_46 : decode prog_12_method_35_code 46 = .ok (.ifCond .eq 9, 3) := by decide +kernel
theorem dd_mm_count_49 : decode prog_12_method_35_code 49 = .ok (.iload_n 3, 1) := by decide +kernel
theorem dd_mm_count_50 : decode prog_12_method_35_code 50 = .ok (.iconst 1, 1) := by decide +kernel
theorem dd_mm_count_51 : decode prog_12_method_35_code 51 = .ok (.iadd, 1) := by decide +kernel
theorem dd_mm_count_52 : decode prog_12_method_35_code 52 = .ok (.goto 4, 3) := by decide +kernel
theorem dd_mm_count_55 : decode prog_12_method_35_code 55 = .ok (.iload_n 3, 1) := by decide +kernel
theorem dd_mm_count_56 : decode prog_12_method_35_code 56 = .ok (.istore_n 3, 1) := by decide +kernel
theorem dd_mm_count_57 : decode prog_12_method_35_code 57 = .ok (.iinc 4 1, 3) := by decide +kernel
theorem dd_mm_count_60 : decode prog_12_method_35_code 60 = .ok (.goto (-35), 3) := by decide +kernel
theorem dd_mm_count_63 : decode prog_12_method_35_code 63 = .ok (.iconst 0, 1) := by decide +kernel
theorem dd_mm_count_64 : decode prog_12_method_35_code 64 = .ok (.istore 4, 2) := by decide +kernel
theorem dd_mm_count_66 : decode prog_12_method_35_code 66 = .ok (.iload 4, 2) := by decide +kernel
theorem dd_mm_count_68 : decode prog_12_method_35_code 68 = .ok (.aload_n 0, 1) := by decide +kernel
theorem dd_mm_count_69 : decode prog_12_method_35_code 69 = .ok (.getfield 144, 3) := by decide +kernel
theorem dd_mm_count_72 : decode prog_12_method_35_code 72 = .ok (.if_icmp .ge 51, 3) := by decide +kernel
theorem dd_mm_count_75 : decode prog_12_method_35_code 75 = .ok (.iload_n 2, 1) := by decide +kernel
theorem dd_mm_count_76 : decode prog_12_method_35_code 76 = .ok (.bipush 6, 2) := by decide +kernel
theorem dd_mm_count_78 : decode prog_12_method_35_code 78 = .ok (.if_icmp .ne 45, 3) := by decide +kernel
theorem dd_mm_count_81 : decode prog_12_method_35_code 81 = .ok (.aload_n 0, 1) := by decide +kernel
theorem dd_mm_count_82 : decode prog_12_method_35_code 82 = .ok (.getfield 54, 3) := by decide +kernel
theorem dd_mm_count_85 : decode prog_12_method_35_code 85 = .ok (.iload 4, 2) := by decide +kernel
theorem dd_mm_count_87 : decode prog_12_method_35_code 87 = .ok (.iaload, 1) := by decide +kernel
theorem dd_mm_count_88 : decode prog_12_method_35_code 88 = .ok (.bipush 100, 2) := by decide +kernel
theorem dd_mm_count_90 : decode prog_12_method_35_code 90 = .ok (.if_icmp .le 25, 3) := by decide +kernel
theorem dd_mm_count_93 : decode prog_12_method_35_code 93 = .ok (.aload_n 0, 1) := by decide +kernel
theorem dd_mm_count_94 : decode prog_12_method_35_code 94 = .ok (.getfield 19, 3) := by decide +kernel
theorem dd_mm_count_97 : decode prog_12_method_35_code 97 = .ok (.aload_n 0, 1) := by decide +kernel
theorem dd_mm_count_98 : decode prog_12_method_35_code 98 = .ok (.getfield 54, 3) := by decide +kernel
theorem dd_mm_count_101 : decode prog_12_method_35_code 101 = .ok (.iload 4, 2) := by decide +kernel
theorem dd_mm_count_103 : decode prog_12_method_35_code 103 = .ok (.iaload, 1) := by decide +kernel
theorem dd_mm_count_104 : decode prog_12_method_35_code 104 = .ok (.baload, 1) := by decide +kernel
theorem dd_mm_count_105 : decode prog_12_method_35_code 105 = .ok (.iload_n 1, 1) := by decide +kernel
theorem dd_mm_count_106 : decode prog_12_method_35_code 106 = .ok (.if_icmp .ne 9, 3) := by decide +kernel
theorem dd_mm_count_109 : decode prog_12_method_35_code 109 = .ok (.iload_n 3, 1) := by decide +kernel
theorem dd_mm_count_110 : decode prog_12_method_35_code 110 = .ok (.iconst 1, 1) := by decide +kernel
theorem dd_mm_count_111 : decode prog_12_method_35_code 111 = .ok (.iadd, 1) := by decide +kernel
theorem dd_mm_count_112 : decode prog_12_method_35_code 112 = .ok (.goto 4, 3) := by decide +kernel
theorem dd_mm_count_115 : decode prog_12_method_35_code 115 = .ok (.iload_n 3, 1) := by decide +kernel
theorem dd_mm_count_116 : decode prog_12_method_35_code 116 = .ok (.istore_n 3, 1) := by decide +kernel
theorem dd_mm_count_117 : decode prog_12_method_35_code 117 = .ok (.iinc 4 1, 3) := by decide +kernel
theorem dd_mm_count_120 : decode prog_12_method_35_code 120 = .ok (.goto (-54), 3) := by decide +kernel
theorem dd_mm_count_123 : decode prog_12_method_35_code 123 = .ok (.bipush 16, 2) := by decide +kernel
theorem dd_mm_count_125 : decode prog_12_method_35_code 125 = .ok (.istore 4, 2) := by decide +kernel
theorem dd_mm_count_127 : decode prog_12_method_35_code 127 = .ok (.iload 4, 2) := by decide +kernel
theorem dd_mm_count_129 : decode prog_12_method_35_code 129 = .ok (.sipush 3216, 3) := by decide +kernel
theorem dd_mm_count_132 : decode prog_12_method_35_code 132 = .ok (.if_icmp .ge 72, 3) := by decide +kernel
theorem dd_mm_count_135 : decode prog_12_method_35_code 135 = .ok (.iload_n 2, 1) := by decide +kernel
theorem dd_mm_count_136 : decode prog_12_method_35_code 136 = .ok (.iconst 4, 1) := by decide +kernel
theorem dd_mm_count_137 : decode prog_12_method_35_code 137 = .ok (.if_icmp .eq 8, 3) := by decide +kernel
theorem dd_mm_count_140 : decode prog_12_method_35_code 140 = .ok (.iload_n 2, 1) := by decide +kernel
theorem dd_mm_count_141 : decode prog_12_method_35_code 141 = .ok (.iconst 5, 1) := by decide +kernel
theorem dd_mm_count_142 : decode prog_12_method_35_code 142 = .ok (.if_icmp .ne 62, 3) := by decide +kernel
theorem dd_mm_count_145 : decode prog_12_method_35_code 145 = .ok (.iload_n 2, 1) := by decide +kernel
theorem dd_mm_count_146 : decode prog_12_method_35_code 146 = .ok (.iconst 4, 1) := by decide +kernel
theorem dd_mm_count_147 : decode prog_12_method_35_code 147 = .ok (.if_icmp .ne 13, 3) := by decide +kernel
theorem dd_mm_count_150 : decode prog_12_method_35_code 150 = .ok (.aload_n 0, 1) := by decide +kernel
theorem dd_mm_count_151 : decode prog_12_method_35_code 151 = .ok (.getfield 51, 3) := by decide +kernel
theorem dd_mm_count_154 : decode prog_12_method_35_code 154 = .ok (.iload 4, 2) := by decide +kernel
theorem dd_mm_count_156 : decode prog_12_method_35_code 156 = .ok (.iaload, 1) := by decide +kernel
theorem dd_mm_count_157 : decode prog_12_method_35_code 157 = .ok (.goto 11, 3) := by decide +kernel
theorem dd_mm_count_160 : decode prog_12_method_35_code 160 = .ok (.aload_n 0, 1) := by decide +kernel
theorem dd_mm_count_161 : decode prog_12_method_35_code 161 = .ok (.getfield 51, 3) := by decide +kernel
theorem dd_mm_count_164 : decode prog_12_method_35_code 164 = .ok (.iload 4, 2) := by decide +kernel
theorem dd_mm_count_166 : decode prog_12_method_35_code 166 = .ok (.iaload, 1) := by decide +kernel
theorem dd_mm_count_167 : decode prog_12_method_35_code 167 = .ok (.ineg, 1) := by decide +kernel
theorem dd_mm_count_168 : decode prog_12_method_35_code 168 = .ok (.istore 5, 2) := by decide +kernel
theorem dd_mm_count_170 : decode prog_12_method_35_code 170 = .ok (.iload 5, 2) := by decide +kernel
theorem dd_mm_count_172 : decode prog_12_method_35_code 172 = .ok (.ifCond .le 24, 3) := by decide +kernel
theorem dd_mm_count_175 : decode prog_12_method_35_code 175 = .ok (.aload_n 0, 1) := by decide +kernel
theorem dd_mm_count_176 : decode prog_12_method_35_code 176 = .ok (.getfield 19, 3) := by decide +kernel
theorem dd_mm_count_179 : decode prog_12_method_35_code 179 = .ok (.iload 4, 2) := by decide +kernel
theorem dd_mm_count_181 : decode prog_12_method_35_code 181 = .ok (.bipush 16, 2) := by decide +kernel
theorem dd_mm_count_183 : decode prog_12_method_35_code 183 = .ok (.idiv, 1) := by decide +kernel
theorem dd_mm_count_184 : decode prog_12_method_35_code 184 = .ok (.baload, 1) := by decide +kernel
theorem dd_mm_count_185 : decode prog_12_method_35_code 185 = .ok (.iload_n 1, 1) := by decide +kernel
theorem dd_mm_count_186 : decode prog_12_method_35_code 186 = .ok (.if_icmp .ne 10, 3) := by decide +kernel
theorem dd_mm_count_189 : decode prog_12_method_35_code 189 = .ok (.iload_n 3, 1) := by decide +kernel
theorem dd_mm_count_190 : decode prog_12_method_35_code 190 = .ok (.iload 5, 2) := by decide +kernel
theorem dd_mm_count_192 : decode prog_12_method_35_code 192 = .ok (.iadd, 1) := by decide +kernel
theorem dd_mm_count_193 : decode prog_12_method_35_code 193 = .ok (.goto 4, 3) := by decide +kernel
theorem dd_mm_count_196 : decode prog_12_method_35_code 196 = .ok (.iload_n 3, 1) := by decide +kernel
theorem dd_mm_count_197 : decode prog_12_method_35_code 197 = .ok (.istore_n 3, 1) := by decide +kernel
theorem dd_mm_count_198 : decode prog_12_method_35_code 198 = .ok (.iinc 4 1, 3) := by decide +kernel
theorem dd_mm_count_201 : decode prog_12_method_35_code 201 = .ok (.goto (-74), 3) := by decide +kernel
theorem dd_mm_count_204 : decode prog_12_method_35_code 204 = .ok (.iload_n 2, 1) := by decide +kernel
theorem dd_mm_count_205 : decode prog_12_method_35_code 205 = .ok (.bipush 7, 2) := by decide +kernel
theorem dd_mm_count_207 : decode prog_12_method_35_code 207 = .ok (.if_icmp .ne 12, 3) := by decide +kernel
theorem dd_mm_count_210 : decode prog_12_method_35_code 210 = .ok (.aload_n 0, 1) := by decide +kernel
theorem dd_mm_count_211 : decode prog_12_method_35_code 211 = .ok (.getfield 88, 3) := by decide +kernel
theorem dd_mm_count_214 : decode prog_12_method_35_code 214 = .ok (.iload_n 1, 1) := by decide +kernel
theorem dd_mm_count_215 : decode prog_12_method_35_code 215 = .ok (.iaload, 1) := by decide +kernel
theorem dd_mm_count_216 : decode prog_12_method_35_code 216 = .ok (.goto 4, 3) := by decide +kernel
theorem dd_mm_count_219 : decode prog_12_method_35_code 219 = .ok (.iload_n 3, 1) := by decide +kernel
theorem dd_mm_count_220 : decode prog_12_method_35_code 220 = .ok (.ireturn, 1) := by decide +kernel
set_option maxHeartbeats 4000000 in
set_option maxRecDepth 100000 in
theorem kb_mm_count_b18 {p : Program} {l : Launch} {e : Env} {s : State} {m : MethodId} {args : Array Value} {below : List Frame} {meth : Method} {c : Code} {D : va_G} {ac : Nat → ClassId} {a0 : Nat} {gl : gl_T} {rF : Int32} {stF : st_S} {iT jT : Nat}
    (X : cx_ p s m args c prog_12_method_35_code 6 "PromiseVatsModel" tb_ D cl_ (ty_ ac)) (hKs : kn_ D ac a0 gl s) (hlk : meth.locks = false) (hret : meth.sig.returnType = (Option.some FieldType.int)) (hnm : meth.name = "count") : wk_ p l e 3 65 s m args below meth c D cl_ ac a0 6 vb_i rF stF iT jT 18 (fun x : Unit => []) (fun x : Unit => []) (fun _ : Unit => mm_count_b18 gl) := by
  intro x st H locs cells slots i j ls hw hl h hci hcj
  have h : mm_count_b18 gl  st = some (rF, stF, i, j) := h
  unfold mm_count_b18 at h
  have hl : lh_ ls 6 [] := hl
  refine W.eq (g2 := F0 m 18 ls []) rfl ?_
  refine lv_iconst (v := (0 : Int32)) X.1 X.2.1 dd_mm_count_18 (by decide) ?_
  obtain ⟨rfl, rfl, rfl, rfl⟩ := st_r_some h
  exact rr_iret X hw hlk hret rfl hci hcj dd_mm_count_19
set_option maxHeartbeats 4000000 in
set_option maxRecDepth 100000 in
theorem kb_mm_count_b56 {p : Program} {l : Launch} {e : Env} {s : State} {m : MethodId} {args : Array Value} {below : List Frame} {meth : Method} {c : Code} {D : va_G} {ac : Nat → ClassId} {a0 : Nat} {gl : gl_T} {rF : Int32} {stF : st_S} {iT jT : Nat} {rec25 : Option Nat × Int32 × Int32 × Int32 × Int32 → st_M (Int32)}
    (X : cx_ p s m args c prog_12_method_35_code 6 "PromiseVatsModel" tb_ D cl_ (ty_ ac)) (hKs : kn_ D ac a0 gl s) (hlk : meth.locks = false) (hret : meth.sig.returnType = (Option.some FieldType.int)) (hnm : meth.name = "count") (hr25 : wk_ p l e 3 65 s m args below meth c D cl_ ac a0 6 vb_i rF stF iT jT 25 (fun x : Option Nat × Int32 × Int32 × Int32 × Int32 => [(0, (va_rf x.1)), (1, (.int x.2.1)), (2, (.int x.2.2.1)), (3, (.int x.2.2.2.1)), (4, (.int x.2.2.2.2))]) (fun x : Option Nat × Int32 × Int32 × Int32 × Int32 => []) rec25) : wk_ p l e 3 65 s m args below meth c D cl_ ac a0 6 vb_i rF stF iT jT 56 (fun x : Option Nat × Int32 × Int32 × Int32 × Int32 => [(0, (va_rf x.1)), (1, (.int x.2.1)), (2, (.int x.2.2.1)), (4, (.int x.2.2.2.1))]) (fun x : Option Nat × Int32 × Int32 × Int32 × Int32 => [(.int x.2.2.2.2)]) (fun x : Option Nat × Int32 × Int32 × Int32 × Int32 => mm_count_b56 gl rec25 x.1 x.2.1 x.2.2.1 x.2.2.2.1 x.2.2.2.2) := by
  intro x st H locs cells slots i j ls hw hl h hci hcj
  obtain ⟨p0, p1, p2, p4, q0⟩ := x
  have h : mm_count_b56 gl rec25 p0 p1 p2 p4 q0 st = some (rF, stF, i, j) := h
  unfold mm_count_b56 at h
  have hl : lh_ ls 6 [(0, (va_rf p0)), (1, (.int p1)), (2, (.int p2)), (4, (.int p4))] := hl
  refine W.eq (g2 := F0 m 56 ls [(.int q0)]) rfl ?_
  refine rr_istn (lv' := [(3, (.int q0)), (0, (va_rf p0)), (1, (.int p1)), (2, (.int p2)), (4, (.int p4))]) X dd_mm_count_56 rfl hl (by decide) rfl (fun ls hl => ?_)
  refine rr_iinc (k := 4) (v := (p4 + (1 : Int32))) (lv' := [(4, (.int (p4 + (1 : Int32)))), (3, (.int q0)), (0, (va_rf p0)), (1, (.int p1)), (2, (.int p2))]) X dd_mm_count_57 hl rfl (by rw [show Int32.ofInt (1) = (1 : Int32) from by decide]) (by decide) rfl (fun ls hl => ?_)
  refine lv_goto (tgt := 25) X.1 X.2.1 dd_mm_count_60 (by decide) ?_
  exact hr25 (p0, p1, p2, q0, (p4 + (1 : Int32))) _ _ _ _ _ _ _ _ hw (lh_pk hl [2, 3, 4, 1, 0] rfl) h hci hcj
set_option maxHeartbeats 4000000 in
set_option maxRecDepth 100000 in
theorem kb_mm_count_b116 {p : Program} {l : Launch} {e : Env} {s : State} {m : MethodId} {args : Array Value} {below : List Frame} {meth : Method} {c : Code} {D : va_G} {ac : Nat → ClassId} {a0 : Nat} {gl : gl_T} {rF : Int32} {stF : st_S} {iT jT : Nat} {rec66 : Option Nat × Int32 × Int32 × Int32 × Int32 → st_M (Int32)}
    (X : cx_ p s m args c prog_12_method_35_code 6 "PromiseVatsModel" tb_ D cl_ (ty_ ac)) (hKs : kn_ D ac a0 gl s) (hlk : meth.locks = false) (hret : meth.sig.returnType = (Option.some FieldType.int)) (hnm : meth.name = "count") (hr66 : wk_ p l e 3 65 s m args below meth c D cl_ ac a0 6 vb_i rF stF iT jT 66 (fun x : Option Nat × Int32 × Int32 × Int32 × Int32 => [(0, (va_rf x.1)), (1, (.int x.2.1)), (2, (.int x.2.2.1)), (3, (.int x.2.2.2.1)), (4, (.int x.2.2.2.2))]) (fun x : Option Nat × Int32 × Int32 × Int32 × Int32 => []) rec66) : wk_ p l e 3 65 s m args below meth c D cl_ ac a0 6 vb_i rF stF iT jT 116 (fun x : Option Nat × Int32 × Int32 × Int32 × Int32 => [(0, (va_rf x.1)), (1, (.int x.2.1)), (2, (.int x.2.2.1)), (4, (.int x.2.2.2.1))]) (fun x : Option Nat × Int32 × Int32 × Int32 × Int32 => [(.int x.2.2.2.2)]) (fun x : Option Nat × Int32 × Int32 × Int32 × Int32 => mm_count_b116 gl rec66 x.1 x.2.1 x.2.2.1 x.2.2.2.1 x.2.2.2.2) := by
  intro x st H locs cells slots i j ls hw hl h hci hcj
  obtain ⟨p0, p1, p2, p4, q0⟩ := x
  have h : mm_count_b116 gl rec66 p0 p1 p2 p4 q0 st = some (rF, stF, i, j) := h
  unfold mm_count_b116 at h
  have hl : lh_ ls 6 [(0, (va_rf p0)), (1, (.int p1)), (2, (.int p2)), (4, (.int p4))] := hl
  refine W.eq (g2 := F0 m 116 ls [(.int q0)]) rfl ?_
  refine rr_istn (lv' := [(3, (.int q0)), (0, (va_rf p0)), (1, (.int p1)), (2, (.int p2)), (4, (.int p4))]) X dd_mm_count_116 rfl hl (by decide) rfl (fun ls hl => ?_)
  refine rr_iinc (k := 4) (v := (p4 + (1 : Int32))) (lv' := [(4, (.int (p4 + (1 : Int32)))), (3, (.int q0)), (0, (va_rf p0)), (1, (.int p1)), (2, (.int p2))]) X dd_mm_count_117 hl rfl (by rw [show Int32.ofInt (1) = (1 : Int32) from by decide]) (by decide) rfl (fun ls hl => ?_)
  refine lv_goto (tgt := 66) X.1 X.2.1 dd_mm_count_120 (by decide) ?_
  exact hr66 (p0, p1, p2, q0, (p4 + (1 : Int32))) _ _ _ _ _ _ _ _ hw (lh_pk hl [2, 3, 4, 1, 0] rfl) h hci hcj
set_option maxHeartbeats 4000000 in
set_option maxRecDepth 100000 in
theorem kb_mm_count_b115 {p : Program} {l : Launch} {e : Env} {s : State} {m : MethodId} {args : Array Value} {below : List Frame} {meth : Method} {c : Code} {D : va_G} {ac : Nat → ClassId} {a0 : Nat} {gl : gl_T} {rF : Int32} {stF : st_S} {iT jT : Nat} {rec66 : Option Nat × Int32 × Int32 × Int32 × Int32 → st_M (Int32)}
    (X : cx_ p s m args c prog_12_method_35_code 6 "PromiseVatsModel" tb_ D cl_ (ty_ ac)) (hKs : kn_ D ac a0 gl s) (hlk : meth.locks = false) (hret : meth.sig.returnType = (Option.some FieldType.int)) (hnm : meth.name = "count") (hr66 : wk_ p l e 3 65 s m args below meth c D cl_ ac a0 6 vb_i rF stF iT jT 66 (fun x : Option Nat × Int32 × Int32 × Int32 × Int32 => [(0, (va_rf x.1)), (1, (.int x.2.1)), (2, (.int x.2.2.1)), (3, (.int x.2.2.2.1)), (4, (.int x.2.2.2.2))]) (fun x : Option Nat × Int32 × Int32 × Int32 × Int32 => []) rec66) : wk_ p l e 3 65 s m args below meth c D cl_ ac a0 6 vb_i rF stF iT jT 115 (fun x : Option Nat × Int32 × Int32 × Int32 × Int32 => [(0, (va_rf x.1)), (1, (.int x.2.1)), (2, (.int x.2.2.1)), (3, (.int x.2.2.2.1)), (4, (.int x.2.2.2.2))]) (fun x : Option Nat × Int32 × Int32 × Int32 × Int32 => []) (fun x : Option Nat × Int32 × Int32 × Int32 × Int32 => mm_count_b115 gl rec66 x.1 x.2.1 x.2.2.1 x.2.2.2.1 x.2.2.2.2) := by
  intro x st H locs cells slots i j ls hw hl h hci hcj
  obtain ⟨p0, p1, p2, p3, p4⟩ := x
  have h : mm_count_b115 gl rec66 p0 p1 p2 p3 p4 st = some (rF, stF, i, j) := h
  unfold mm_count_b115 at h
  have hl : lh_ ls 6 [(0, (va_rf p0)), (1, (.int p1)), (2, (.int p2)), (3, (.int p3)), (4, (.int p4))] := hl
  refine W.eq (g2 := F0 m 115 ls []) rfl ?_
  refine lv_iload_n X.1 X.2.1 dd_mm_count_115 rfl (lv_at hl.1 3 rfl) ?_
  exact (kb_mm_count_b116 X hKs hlk hret hnm hr66) (p0, p1, p2, p4, p3) _ _ _ _ _ _ _ _ hw (lh_pk hl [0, 1, 2, 4] rfl) h hci hcj
set_option maxHeartbeats 4000000 in
set_option maxRecDepth 100000 in
theorem kb_mm_count_b197 {p : Program} {l : Launch} {e : Env} {s : State} {m : MethodId} {args : Array Value} {below : List Frame} {meth : Method} {c : Code} {D : va_G} {ac : Nat → ClassId} {a0 : Nat} {gl : gl_T} {rF : Int32} {stF : st_S} {iT jT : Nat} {rec127 : Option Nat × Int32 × Int32 × Int32 × Int32 → st_M (Int32)}
    (X : cx_ p s m args c prog_12_method_35_code 6 "PromiseVatsModel" tb_ D cl_ (ty_ ac)) (hKs : kn_ D ac a0 gl s) (hlk : meth.locks = false) (hret : meth.sig.returnType = (Option.some FieldType.int)) (hnm : meth.name = "count") (hr127 : wk_ p l e 3 65 s m args below meth c D cl_ ac a0 6 vb_i rF stF iT jT 127 (fun x : Option Nat × Int32 × Int32 × Int32 × Int32 => [(0, (va_rf x.1)), (1, (.int x.2.1)), (2, (.int x.2.2.1)), (3, (.int x.2.2.2.1)), (4, (.int x.2.2.2.2))]) (fun x : Option Nat × Int32 × Int32 × Int32 × Int32 => []) rec127) : wk_ p l e 3 65 s m args below meth c D cl_ ac a0 6 vb_i rF stF iT jT 197 (fun x : Option Nat × Int32 × Int32 × Int32 × Int32 => [(0, (va_rf x.1)), (1, (.int x.2.1)), (2, (.int x.2.2.1)), (4, (.int x.2.2.2.1))]) (fun x : Option Nat × Int32 × Int32 × Int32 × Int32 => [(.int x.2.2.2.2)]) (fun x : Option Nat × Int32 × Int32 × Int32 × Int32 => mm_count_b197 gl rec127 x.1 x.2.1 x.2.2.1 x.2.2.2.1 x.2.2.2.2) := by
  intro x st H locs cells slots i j ls hw hl h hci hcj
  obtain ⟨p0, p1, p2, p4, q0⟩ := x
  have h : mm_count_b197 gl rec127 p0 p1 p2 p4 q0 st = some (rF, stF, i, j) := h
  unfold mm_count_b197 at h
  have hl : lh_ ls 6 [(0, (va_rf p0)), (1, (.int p1)), (2, (.int p2)), (4, (.int p4))] := hl
  refine W.eq (g2 := F0 m 197 ls [(.int q0)]) rfl ?_
  refine rr_istn (lv' := [(3, (.int q0)), (0, (va_rf p0)), (1, (.int p1)), (2, (.int p2)), (4, (.int p4))]) X dd_mm_count_197 rfl hl (by decide) rfl (fun ls hl => ?_)
  refine rr_iinc (k := 4) (v := (p4 + (1 : Int32))) (lv' := [(4, (.int (p4 + (1 : Int32)))), (3, (.int q0)), (0, (va_rf p0)), (1, (.int p1)), (2, (.int p2))]) X dd_mm_count_198 hl rfl (by rw [show Int32.ofInt (1) = (1 : Int32) from by decide]) (by decide) rfl (fun ls hl => ?_)
  refine lv_goto (tgt := 127) X.1 X.2.1 dd_mm_count_201 (by decide) ?_
  exact hr127 (p0, p1, p2, q0, (p4 + (1 : Int32))) _ _ _ _ _ _ _ _ hw (lh_pk hl [2, 3, 4, 1, 0] rfl) h hci hcj
set_option maxHeartbeats 4000000 in
set_option maxRecDepth 100000 in
theorem kb_mm_count_b196 {p : Program} {l : Launch} {e : Env} {s : State} {m : MethodId} {args : Array Value} {below : List Frame} {meth : Method} {c : Code} {D : va_G} {ac : Nat → ClassId} {a0 : Nat} {gl : gl_T} {rF : Int32} {stF : st_S} {iT jT : Nat} {rec127 : Option Nat × Int32 × Int32 × Int32 × Int32 → st_M (Int32)}
    (X : cx_ p s m args c prog_12_method_35_code 6 "PromiseVatsModel" tb_ D cl_ (ty_ ac)) (hKs : kn_ D ac a0 gl s) (hlk : meth.locks = false) (hret : meth.sig.returnType = (Option.some FieldType.int)) (hnm : meth.name = "count") (hr127 : wk_ p l e 3 65 s m args below meth c D cl_ ac a0 6 vb_i rF stF iT jT 127 (fun x : Option Nat × Int32 × Int32 × Int32 × Int32 => [(0, (va_rf x.1)), (1, (.int x.2.1)), (2, (.int x.2.2.1)), (3, (.int x.2.2.2.1)), (4, (.int x.2.2.2.2))]) (fun x : Option Nat × Int32 × Int32 × Int32 × Int32 => []) rec127) : wk_ p l e 3 65 s m args below meth c D cl_ ac a0 6 vb_i rF stF iT jT 196 (fun x : Option Nat × Int32 × Int32 × Int32 × Int32 => [(0, (va_rf x.1)), (1, (.int x.2.1)), (2, (.int x.2.2.1)), (3, (.int x.2.2.2.1)), (4, (.int x.2.2.2.2))]) (fun x : Option Nat × Int32 × Int32 × Int32 × Int32 => []) (fun x : Option Nat × Int32 × Int32 × Int32 × Int32 => mm_count_b196 gl rec127 x.1 x.2.1 x.2.2.1 x.2.2.2.1 x.2.2.2.2) := by
  intro x st H locs cells slots i j ls hw hl h hci hcj
  obtain ⟨p0, p1, p2, p3, p4⟩ := x
  have h : mm_count_b196 gl rec127 p0 p1 p2 p3 p4 st = some (rF, stF, i, j) := h
  unfold mm_count_b196 at h
  have hl : lh_ ls 6 [(0, (va_rf p0)), (1, (.int p1)), (2, (.int p2)), (3, (.int p3)), (4, (.int p4))] := hl
  refine W.eq (g2 := F0 m 196 ls []) rfl ?_
  refine lv_iload_n X.1 X.2.1 dd_mm_count_196 rfl (lv_at hl.1 3 rfl) ?_
  exact (kb_mm_count_b197 X hKs hlk hret hnm hr127) (p0, p1, p2, p4, p3) _ _ _ _ _ _ _ _ hw (lh_pk hl [0, 1, 2, 4] rfl) h hci hcj
set_option maxHeartbeats 4000000 in
set_option maxRecDepth 100000 in
theorem kb_mm_count_b168 {p : Program} {l : Launch} {e : Env} {s : State} {m : MethodId} {args : Array Value} {below : List Frame} {meth : Method} {c : Code} {D : va_G} {ac : Nat → ClassId} {a0 : Nat} {gl : gl_T} {rF : Int32} {stF : st_S} {iT jT : Nat} {rec127 : Option Nat × Int32 × Int32 × Int32 × Int32 → st_M (Int32)}
    (X : cx_ p s m args c prog_12_method_35_code 6 "PromiseVatsModel" tb_ D cl_ (ty_ ac)) (hKs : kn_ D ac a0 gl s) (hlk : meth.locks = false) (hret : meth.sig.returnType = (Option.some FieldType.int)) (hnm : meth.name = "count") (hr127 : wk_ p l e 3 65 s m args below meth c D cl_ ac a0 6 vb_i rF stF iT jT 127 (fun x : Option Nat × Int32 × Int32 × Int32 × Int32 => [(0, (va_rf x.1)), (1, (.int x.2.1)), (2, (.int x.2.2.1)), (3, (.int x.2.2.2.1)), (4, (.int x.2.2.2.2))]) (fun x : Option Nat × Int32 × Int32 × Int32 × Int32 => []) rec127) : wk_ p l e 3 65 s m args below meth c D cl_ ac a0 6 vb_i rF stF iT jT 168 (fun x : Option Nat × Int32 × Int32 × Int32 × Int32 × Int32 => [(0, (va_rf x.1)), (1, (.int x.2.1)), (2, (.int x.2.2.1)), (3, (.int x.2.2.2.1)), (4, (.int x.2.2.2.2.1))]) (fun x : Option Nat × Int32 × Int32 × Int32 × Int32 × Int32 => [(.int x.2.2.2.2.2)]) (fun x : Option Nat × Int32 × Int32 × Int32 × Int32 × Int32 => mm_count_b168 gl rec127 x.1 x.2.1 x.2.2.1 x.2.2.2.1 x.2.2.2.2.1 x.2.2.2.2.2) := by
  intro x st H locs cells slots i j ls hw hl h hci hcj
  obtain ⟨p0, p1, p2, p3, p4, q0⟩ := x
  have h : mm_count_b168 gl rec127 p0 p1 p2 p3 p4 q0 st = some (rF, stF, i, j) := h
  unfold mm_count_b168 at h
  have hl : lh_ ls 6 [(0, (va_rf p0)), (1, (.int p1)), (2, (.int p2)), (3, (.int p3)), (4, (.int p4))] := hl
  refine W.eq (g2 := F0 m 168 ls [(.int q0)]) rfl ?_
  refine rr_ist (lv' := [(5, (.int q0)), (0, (va_rf p0)), (1, (.int p1)), (2, (.int p2)), (3, (.int p3)), (4, (.int p4))]) X dd_mm_count_168 hl (by decide) rfl (fun ls hl => ?_)
  refine lv_iload X.1 X.2.1 dd_mm_count_170 (lv_at hl.1 0 rfl) ?_
  by_cases hc172 : q0 ≤ 0
  · rw [if_pos hc172] at h
    refine lv_if_le (tgt := 196) X.1 X.2.1 dd_mm_count_172 (by decide) (fun _ => ?_) (fun z => absurd hc172 z)
    exact (kb_mm_count_b196 X hKs hlk hret hnm hr127) (p0, p1, p2, p3, p4) _ _ _ _ _ _ _ _ hw (lh_pk hl [1, 2, 3, 4, 5] rfl) h hci hcj
  · rw [if_neg hc172] at h
    refine lv_if_le (tgt := 196) X.1 X.2.1 dd_mm_count_172 (by decide) (fun z => absurd z hc172) (fun _ => ?_)
    refine rr_aldn X dd_mm_count_175 rfl (lv_at hl.1 1 rfl) ?_
    obtain ⟨t32, ht32, h⟩ := st_g_some h
    refine rr_getq X hw ff_10_6 ht32 tw_461 (Or.inl rfl) dd_mm_count_176 ?_
    refine lv_iload X.1 X.2.1 dd_mm_count_179 (lv_at hl.1 5 rfl) ?_
    refine lv_bipush (v := (16 : Int32)) X.1 X.2.1 dd_mm_count_181 (by decide) ?_
    refine lv_idiv X.1 X.2.1 dd_mm_count_183 (by decide) ?_
    obtain ⟨t33, ht33, h⟩ := st_g_some h
    refine rr_bald (t := 1) X hw rfl ht33 dd_mm_count_184 ?_
    refine lv_iload_n X.1 X.2.1 dd_mm_count_185 rfl (lv_at hl.1 2 rfl) ?_
    by_cases hc186 : t33 = p1
    · rw [if_pos hc186] at h
      refine lv_icmp_ne (tgt := 196) X.1 X.2.1 dd_mm_count_186 (by decide) (fun z => absurd hc186 z) (fun _ => ?_)
      refine lv_iload_n X.1 X.2.1 dd_mm_count_189 rfl (lv_at hl.1 4 rfl) ?_
      refine lv_iload X.1 X.2.1 dd_mm_count_190 (lv_at hl.1 0 rfl) ?_
      refine lv_iadd X.1 X.2.1 dd_mm_count_192 ?_
      refine lv_goto (tgt := 197) X.1 X.2.1 dd_mm_count_193 (by decide) ?_
      exact (kb_mm_count_b197 X hKs hlk hret hnm hr127) (p0, p1, p2, p4, (p3 + q0)) _ _ _ _ _ _ _ _ hw (lh_pk hl [1, 2, 3, 5] rfl) h hci hcj
    · rw [if_neg hc186] at h
      refine lv_icmp_ne (tgt := 196) X.1 X.2.1 dd_mm_count_186 (by decide) (fun _ => ?_) (fun z => absurd z hc186)
      exact (kb_mm_count_b196 X hKs hlk hret hnm hr127) (p0, p1, p2, p3, p4) _ _ _ _ _ _ _ _ hw (lh_pk hl [1, 2, 3, 4, 5] rfl) h hci hcj
set_option maxHeartbeats 4000000 in
set_option maxRecDepth 100000 in
theorem kb_mm_count_b145 {p : Program} {l : Launch} {e : Env} {s : State} {m : MethodId} {args : Array Value} {below : List Frame} {meth : Method} {c : Code} {D : va_G} {ac : Nat → ClassId} {a0 : Nat} {gl : gl_T} {rF : Int32} {stF : st_S} {iT jT : Nat} {rec127 : Option Nat × Int32 × Int32 × Int32 × Int32 → st_M (Int32)}
    (X : cx_ p s m args c prog_12_method_35_code 6 "PromiseVatsModel" tb_ D cl_ (ty_ ac)) (hKs : kn_ D ac a0 gl s) (hlk : meth.locks = false) (hret : meth.sig.returnType = (Option.some FieldType.int)) (hnm : meth.name = "count") (hr127 : wk_ p l e 3 65 s m args below meth c D cl_ ac a0 6 vb_i rF stF iT jT 127 (fun x : Option Nat × Int32 × Int32 × Int32 × Int32 => [(0, (va_rf x.1)), (1, (.int x.2.1)), (2, (.int x.2.2.1)), (3, (.int x.2.2.2.1)), (4, (.int x.2.2.2.2))]) (fun x : Option Nat × Int32 × Int32 × Int32 × Int32 => []) rec127) : wk_ p l e 3 65 s m args below meth c D cl_ ac a0 6 vb_i rF stF iT jT 145 (fun x : Option Nat × Int32 × Int32 × Int32 × Int32 => [(0, (va_rf x.1)), (1, (.int x.2.1)), (2, (.int x.2.2.1)), (3, (.int x.2.2.2.1)), (4, (.int x.2.2.2.2))]) (fun x : Option Nat × Int32 × Int32 × Int32 × Int32 => []) (fun x : Option Nat × Int32 × Int32 × Int32 × Int32 => mm_count_b145 gl rec127 x.1 x.2.1 x.2.2.1 x.2.2.2.1 x.2.2.2.2) := by
  intro x st H locs cells slots i j ls hw hl h hci hcj
  obtain ⟨p0, p1, p2, p3, p4⟩ := x
  have h : mm_count_b145 gl rec127 p0 p1 p2 p3 p4 st = some (rF, stF, i, j) := h
  unfold mm_count_b145 at h
  have hl : lh_ ls 6 [(0, (va_rf p0)), (1, (.int p1)), (2, (.int p2)), (3, (.int p3)), (4, (.int p4))] := hl
  refine W.eq (g2 := F0 m 145 ls []) rfl ?_
  refine lv_iload_n X.1 X.2.1 dd_mm_count_145 rfl (lv_at hl.1 2 rfl) ?_
  refine lv_iconst (v := (4 : Int32)) X.1 X.2.1 dd_mm_count_146 (by decide) ?_
  by_cases hc147 : p2 = (4 : Int32)
  · rw [if_pos hc147] at h
    refine lv_icmp_ne (tgt := 160) X.1 X.2.1 dd_mm_count_147 (by decide) (fun z => absurd hc147 z) (fun _ => ?_)
    refine rr_aldn X dd_mm_count_150 rfl (lv_at hl.1 0 rfl) ?_
    obtain ⟨t28, ht28, h⟩ := st_g_some h
    refine rr_getq X hw ff_10_17 ht28 tw_451 (Or.inl rfl) dd_mm_count_151 ?_
    refine lv_iload X.1 X.2.1 dd_mm_count_154 (lv_at hl.1 4 rfl) ?_
    obtain ⟨t29, ht29, h⟩ := st_g_some h
    refine rr_iald (t := 0) X hw rfl ht29 dd_mm_count_156 ?_
    refine lv_goto (tgt := 168) X.1 X.2.1 dd_mm_count_157 (by decide) ?_
    exact (kb_mm_count_b168 X hKs hlk hret hnm hr127) (p0, p1, p2, p3, p4, t29) _ _ _ _ _ _ _ _ hw (lh_pk hl [0, 1, 2, 3, 4] rfl) h hci hcj
  · rw [if_neg hc147] at h
    refine lv_icmp_ne (tgt := 160) X.1 X.2.1 dd_mm_count_147 (by decide) (fun _ => ?_) (fun z => absurd z hc147)
    refine rr_aldn X dd_mm_count_160 rfl (lv_at hl.1 0 rfl) ?_
    obtain ⟨t30, ht30, h⟩ := st_g_some h
    refine rr_getq X hw ff_10_17 ht30 tw_451 (Or.inl rfl) dd_mm_count_161 ?_
    refine lv_iload X.1 X.2.1 dd_mm_count_164 (lv_at hl.1 4 rfl) ?_
    obtain ⟨t31, ht31, h⟩ := st_g_some h
    refine rr_iald (t := 0) X hw rfl ht31 dd_mm_count_166 ?_
    refine lv_ineg X.1 X.2.1 dd_mm_count_167 ?_
    exact (kb_mm_count_b168 X hKs hlk hret hnm hr127) (p0, p1, p2, p3, p4, (-t31)) _ _ _ _ _ _ _ _ hw (lh_pk hl [0, 1, 2, 3, 4] rfl) h hci hcj
set_option maxHeartbeats 4000000 in
set_option maxRecDepth 100000 in
theorem kb_mm_count_b204 {p : Program} {l : Launch} {e : Env} {s : State} {m : MethodId} {args : Array Value} {below : List Frame} {meth : Method} {c : Code} {D : va_G} {ac : Nat → ClassId} {a0 : Nat} {gl : gl_T} {rF : Int32} {stF : st_S} {iT jT : Nat}
    (X : cx_ p s m args c prog_12_method_35_code 6 "PromiseVatsModel" tb_ D cl_ (ty_ ac)) (hKs : kn_ D ac a0 gl s) (hlk : meth.locks = false) (hret : meth.sig.returnType = (Option.some FieldType.int)) (hnm : meth.name = "count") : wk_ p l e 3 65 s m args below meth c D cl_ ac a0 6 vb_i rF stF iT jT 204 (fun x : Option Nat × Int32 × Int32 × Int32 => [(0, (va_rf x.1)), (1, (.int x.2.1)), (2, (.int x.2.2.1)), (3, (.int x.2.2.2))]) (fun x : Option Nat × Int32 × Int32 × Int32 => []) (fun x : Option Nat × Int32 × Int32 × Int32 => mm_count_b204 gl x.1 x.2.1 x.2.2.1 x.2.2.2) := by
  intro x st H locs cells slots i j ls hw hl h hci hcj
  obtain ⟨p0, p1, p2, p3⟩ := x
  have h : mm_count_b204 gl p0 p1 p2 p3 st = some (rF, stF, i, j) := h
  unfold mm_count_b204 at h
  have hl : lh_ ls 6 [(0, (va_rf p0)), (1, (.int p1)), (2, (.int p2)), (3, (.int p3))] := hl
  refine W.eq (g2 := F0 m 204 ls []) rfl ?_
  refine lv_iload_n X.1 X.2.1 dd_mm_count_204 rfl (lv_at hl.1 2 rfl) ?_
  refine lv_bipush (v := (7 : Int32)) X.1 X.2.1 dd_mm_count_205 (by decide) ?_
  by_cases hc207 : p2 = (7 : Int32)
  · rw [if_pos hc207] at h
    refine lv_icmp_ne (tgt := 219) X.1 X.2.1 dd_mm_count_207 (by decide) (fun z => absurd hc207 z) (fun _ => ?_)
    refine rr_aldn X dd_mm_count_210 rfl (lv_at hl.1 0 rfl) ?_
    obtain ⟨t26, ht26, h⟩ := st_g_some h
    refine rr_getq X hw ff_10_32 ht26 tw_439 (Or.inl rfl) dd_mm_count_211 ?_
    refine lv_iload_n X.1 X.2.1 dd_mm_count_214 rfl (lv_at hl.1 1 rfl) ?_
    obtain ⟨t27, ht27, h⟩ := st_g_some h
    refine rr_iald (t := 0) X hw rfl ht27 dd_mm_count_215 ?_
    refine lv_goto (tgt := 220) X.1 X.2.1 dd_mm_count_216 (by decide) ?_
    obtain ⟨rfl, rfl, rfl, rfl⟩ := st_r_some h
    exact rr_iret X hw hlk hret rfl hci hcj dd_mm_count_220
  · rw [if_neg hc207] at h
    refine lv_icmp_ne (tgt := 219) X.1 X.2.1 dd_mm_count_207 (by decide) (fun _ => ?_) (fun z => absurd z hc207)
    refine lv_iload_n X.1 X.2.1 dd_mm_count_219 rfl (lv_at hl.1 3 rfl) ?_
    obtain ⟨rfl, rfl, rfl, rfl⟩ := st_r_some h
    exact rr_iret X hw hlk hret rfl hci hcj dd_mm_count_220
set_option maxHeartbeats 4000000 in
set_option maxRecDepth 100000 in
theorem kb_mm_count_b127 {p : Program} {l : Launch} {e : Env} {s : State} {m : MethodId} {args : Array Value} {below : List Frame} {meth : Method} {c : Code} {D : va_G} {ac : Nat → ClassId} {a0 : Nat} {gl : gl_T} {rF : Int32} {stF : st_S} {iT jT : Nat}
    (X : cx_ p s m args c prog_12_method_35_code 6 "PromiseVatsModel" tb_ D cl_ (ty_ ac)) (hKs : kn_ D ac a0 gl s) (hlk : meth.locks = false) (hret : meth.sig.returnType = (Option.some FieldType.int)) (hnm : meth.name = "count") : wk_ p l e 3 65 s m args below meth c D cl_ ac a0 6 vb_i rF stF iT jT 127 (fun x : Option Nat × Int32 × Int32 × Int32 × Int32 => [(0, (va_rf x.1)), (1, (.int x.2.1)), (2, (.int x.2.2.1)), (3, (.int x.2.2.2.1)), (4, (.int x.2.2.2.2))]) (fun x : Option Nat × Int32 × Int32 × Int32 × Int32 => []) (st_it (fun rec127 => (fun x : Option Nat × Int32 × Int32 × Int32 × Int32 => mm_count_b127 gl rec127 x.1 x.2.1 x.2.2.1 x.2.2.2.1 x.2.2.2.2)) fu_) := by
  refine wk_it ?_ _
  intro rec127 hr127 x st H locs cells slots i j ls hw hl h hci hcj
  obtain ⟨p0, p1, p2, p3, p4⟩ := x
  have h : mm_count_b127 gl rec127 p0 p1 p2 p3 p4 st = some (rF, stF, i, j) := h
  unfold mm_count_b127 at h
  have hl : lh_ ls 6 [(0, (va_rf p0)), (1, (.int p1)), (2, (.int p2)), (3, (.int p3)), (4, (.int p4))] := hl
  refine W.eq (g2 := F0 m 127 ls []) rfl ?_
  refine lv_iload X.1 X.2.1 dd_mm_count_127 (lv_at hl.1 4 rfl) ?_
  refine lv_sipush (v := (3216 : Int32)) X.1 X.2.1 dd_mm_count_129 (by decide) ?_
  by_cases hc132 : (3216 : Int32) ≤ p4
  · rw [if_pos hc132] at h
    refine lv_icmp_ge (tgt := 204) X.1 X.2.1 dd_mm_count_132 (by decide) (fun _ => ?_) (fun z => absurd hc132 z)
    exact (kb_mm_count_b204 X hKs hlk hret hnm) (p0, p1, p2, p3) _ _ _ _ _ _ _ _ hw (lh_pk hl [0, 1, 2, 3] rfl) h hci hcj
  · rw [if_neg hc132] at h
    refine lv_icmp_ge (tgt := 204) X.1 X.2.1 dd_mm_count_132 (by decide) (fun z => absurd z hc132) (fun _ => ?_)
    refine lv_iload_n X.1 X.2.1 dd_mm_count_135 rfl (lv_at hl.1 2 rfl) ?_
    refine lv_iconst (v := (4 : Int32)) X.1 X.2.1 dd_mm_count_136 (by decide) ?_
    by_cases hc137 : p2 = (4 : Int32)
    · rw [if_pos hc137] at h
      refine lv_icmp_eq (tgt := 145) X.1 X.2.1 dd_mm_count_137 (by decide) (fun _ => ?_) (fun z => absurd hc137 z)
      exact (kb_mm_count_b145 X hKs hlk hret hnm hr127) (p0, p1, p2, p3, p4) _ _ _ _ _ _ _ _ hw (lh_pk hl [0, 1, 2, 3, 4] rfl) h hci hcj
    · rw [if_neg hc137] at h
      refine lv_icmp_eq (tgt := 145) X.1 X.2.1 dd_mm_count_137 (by decide) (fun z => absurd z hc137) (fun _ => ?_)
      refine lv_iload_n X.1 X.2.1 dd_mm_count_140 rfl (lv_at hl.1 2 rfl) ?_
      refine lv_iconst (v := (5 : Int32)) X.1 X.2.1 dd_mm_count_141 (by decide) ?_
      by_cases hc142 : p2 = (5 : Int32)
      · rw [if_pos hc142] at h
        refine lv_icmp_ne (tgt := 204) X.1 X.2.1 dd_mm_count_142 (by decide) (fun z => absurd hc142 z) (fun _ => ?_)
        exact (kb_mm_count_b145 X hKs hlk hret hnm hr127) (p0, p1, p2, p3, p4) _ _ _ _ _ _ _ _ hw (lh_pk hl [0, 1, 2, 3, 4] rfl) h hci hcj
      · rw [if_neg hc142] at h
        refine lv_icmp_ne (tgt := 204) X.1 X.2.1 dd_mm_count_142 (by decide) (fun _ => ?_) (fun z => absurd z hc142)
        exact (kb_mm_count_b204 X hKs hlk hret hnm) (p0, p1, p2, p3) _ _ _ _ _ _ _ _ hw (lh_pk hl [0, 1, 2, 3] rfl) h hci hcj
set_option maxHeartbeats 4000000 in
set_option maxRecDepth 100000 in
theorem kb_mm_count_b123 {p : Program} {l : Launch} {e : Env} {s : State} {m : MethodId} {args : Array Value} {below : List Frame} {meth : Method} {c : Code} {D : va_G} {ac : Nat → ClassId} {a0 : Nat} {gl : gl_T} {rF : Int32} {stF : st_S} {iT jT : Nat}
    (X : cx_ p s m args c prog_12_method_35_code 6 "PromiseVatsModel" tb_ D cl_ (ty_ ac)) (hKs : kn_ D ac a0 gl s) (hlk : meth.locks = false) (hret : meth.sig.returnType = (Option.some FieldType.int)) (hnm : meth.name = "count") : wk_ p l e 3 65 s m args below meth c D cl_ ac a0 6 vb_i rF stF iT jT 123 (fun x : Option Nat × Int32 × Int32 × Int32 => [(0, (va_rf x.1)), (1, (.int x.2.1)), (2, (.int x.2.2.1)), (3, (.int x.2.2.2))]) (fun x : Option Nat × Int32 × Int32 × Int32 => []) (fun x : Option Nat × Int32 × Int32 × Int32 => mm_count_b123 gl x.1 x.2.1 x.2.2.1 x.2.2.2) := by
  intro x st H locs cells slots i j ls hw hl h hci hcj
  obtain ⟨p0, p1, p2, p3⟩ := x
  have h : mm_count_b123 gl p0 p1 p2 p3 st = some (rF, stF, i, j) := h
  unfold mm_count_b123 at h
  have hl : lh_ ls 6 [(0, (va_rf p0)), (1, (.int p1)), (2, (.int p2)), (3, (.int p3))] := hl
  refine W.eq (g2 := F0 m 123 ls []) rfl ?_
  refine lv_bipush (v := (16 : Int32)) X.1 X.2.1 dd_mm_count_123 (by decide) ?_
  refine rr_ist (lv' := [(4, (.int (16 : Int32))), (0, (va_rf p0)), (1, (.int p1)), (2, (.int p2)), (3, (.int p3))]) X dd_mm_count_125 hl (by decide) rfl (fun ls hl => ?_)
  exact (kb_mm_count_b127 X hKs hlk hret hnm) (p0, p1, p2, p3, (16 : Int32)) _ _ _ _ _ _ _ _ hw (lh_pk hl [1, 2, 3, 4, 0] rfl) h hci hcj
set_option maxHeartbeats 4000000 in
set_option maxRecDepth 100000 in
theorem kb_mm_count_b66 {p : Program} {l : Launch} {e : Env} {s : State} {m : MethodId} {args : Array Value} {below : List Frame} {meth : Method} {c : Code} {D : va_G} {ac : Nat → ClassId} {a0 : Nat} {gl : gl_T} {rF : Int32} {stF : st_S} {iT jT : Nat}
    (X : cx_ p s m args c prog_12_method_35_code 6 "PromiseVatsModel" tb_ D cl_ (ty_ ac)) (hKs : kn_ D ac a0 gl s) (hlk : meth.locks = false) (hret : meth.sig.returnType = (Option.some FieldType.int)) (hnm : meth.name = "count") : wk_ p l e 3 65 s m args below meth c D cl_ ac a0 6 vb_i rF stF iT jT 66 (fun x : Option Nat × Int32 × Int32 × Int32 × Int32 => [(0, (va_rf x.1)), (1, (.int x.2.1)), (2, (.int x.2.2.1)), (3, (.int x.2.2.2.1)), (4, (.int x.2.2.2.2))]) (fun x : Option Nat × Int32 × Int32 × Int32 × Int32 => []) (st_it (fun rec66 => (fun x : Option Nat × Int32 × Int32 × Int32 × Int32 => mm_count_b66 gl rec66 x.1 x.2.1 x.2.2.1 x.2.2.2.1 x.2.2.2.2)) fu_) := by
  refine wk_it ?_ _
  intro rec66 hr66 x st H locs cells slots i j ls hw hl h hci hcj
  obtain ⟨p0, p1, p2, p3, p4⟩ := x
  have h : mm_count_b66 gl rec66 p0 p1 p2 p3 p4 st = some (rF, stF, i, j) := h
  unfold mm_count_b66 at h
  have hl : lh_ ls 6 [(0, (va_rf p0)), (1, (.int p1)), (2, (.int p2)), (3, (.int p3)), (4, (.int p4))] := hl
  refine W.eq (g2 := F0 m 66 ls []) rfl ?_
  refine lv_iload X.1 X.2.1 dd_mm_count_66 (lv_at hl.1 4 rfl) ?_
  refine rr_aldn X dd_mm_count_68 rfl (lv_at hl.1 0 rfl) ?_
  obtain ⟨t19, ht19, h⟩ := st_g_some h
  refine rr_geti X hw ff_10_18 ht19 tw_474 (Or.inl rfl) dd_mm_count_69 ?_
  by_cases hc72 : t19 ≤ p4
  · rw [if_pos hc72] at h
    refine lv_icmp_ge (tgt := 123) X.1 X.2.1 dd_mm_count_72 (by decide) (fun _ => ?_) (fun z => absurd hc72 z)
    exact (kb_mm_count_b123 X hKs hlk hret hnm) (p0, p1, p2, p3) _ _ _ _ _ _ _ _ hw (lh_pk hl [0, 1, 2, 3] rfl) h hci hcj
  · rw [if_neg hc72] at h
    refine lv_icmp_ge (tgt := 123) X.1 X.2.1 dd_mm_count_72 (by decide) (fun z => absurd z hc72) (fun _ => ?_)
    refine lv_iload_n X.1 X.2.1 dd_mm_count_75 rfl (lv_at hl.1 2 rfl) ?_
    refine lv_bipush (v := (6 : Int32)) X.1 X.2.1 dd_mm_count_76 (by decide) ?_
    by_cases hc78 : p2 = (6 : Int32)
    · rw [if_pos hc78] at h
      refine lv_icmp_ne (tgt := 123) X.1 X.2.1 dd_mm_count_78 (by decide) (fun z => absurd hc78 z) (fun _ => ?_)
      refine rr_aldn X dd_mm_count_81 rfl (lv_at hl.1 0 rfl) ?_
      obtain ⟨t20, ht20, h⟩ := st_g_some h
      refine rr_getq X hw ff_10_19 ht20 tw_450 (Or.inl rfl) dd_mm_count_82 ?_
      refine lv_iload X.1 X.2.1 dd_mm_count_85 (lv_at hl.1 4 rfl) ?_
      obtain ⟨t21, ht21, h⟩ := st_g_some h
      refine rr_iald (t := 0) X hw rfl ht21 dd_mm_count_87 ?_
      refine lv_bipush (v := (100 : Int32)) X.1 X.2.1 dd_mm_count_88 (by decide) ?_
      by_cases hc90 : t21 ≤ (100 : Int32)
      · rw [if_pos hc90] at h
        refine lv_icmp_le (tgt := 115) X.1 X.2.1 dd_mm_count_90 (by decide) (fun _ => ?_) (fun z => absurd hc90 z)
        exact (kb_mm_count_b115 X hKs hlk hret hnm hr66) (p0, p1, p2, p3, p4) _ _ _ _ _ _ _ _ hw (lh_pk hl [0, 1, 2, 3, 4] rfl) h hci hcj
      · rw [if_neg hc90] at h
        refine lv_icmp_le (tgt := 115) X.1 X.2.1 dd_mm_count_90 (by decide) (fun z => absurd z hc90) (fun _ => ?_)
        refine rr_aldn X dd_mm_count_93 rfl (lv_at hl.1 0 rfl) ?_
        obtain ⟨t22, ht22, h⟩ := st_g_some h
        refine rr_getq X hw ff_10_6 ht22 tw_461 (Or.inl rfl) dd_mm_count_94 ?_
        refine rr_aldn X dd_mm_count_97 rfl (lv_at hl.1 0 rfl) ?_
        obtain ⟨t23, ht23, h⟩ := st_g_some h
        refine rr_getq X hw ff_10_19 ht23 tw_450 (Or.inl rfl) dd_mm_count_98 ?_
        refine lv_iload X.1 X.2.1 dd_mm_count_101 (lv_at hl.1 4 rfl) ?_
        obtain ⟨t24, ht24, h⟩ := st_g_some h
        refine rr_iald (t := 0) X hw rfl ht24 dd_mm_count_103 ?_
        obtain ⟨t25, ht25, h⟩ := st_g_some h
        refine rr_bald (t := 1) X hw rfl ht25 dd_mm_count_104 ?_
        refine lv_iload_n X.1 X.2.1 dd_mm_count_105 rfl (lv_at hl.1 1 rfl) ?_
        by_cases hc106 : t25 = p1
        · rw [if_pos hc106] at h
          refine lv_icmp_ne (tgt := 115) X.1 X.2.1 dd_mm_count_106 (by decide) (fun z => absurd hc106 z) (fun _ => ?_)
          refine lv_iload_n X.1 X.2.1 dd_mm_count_109 rfl (lv_at hl.1 3 rfl) ?_
          refine lv_iconst (v := (1 : Int32)) X.1 X.2.1 dd_mm_count_110 (by decide) ?_
          refine lv_iadd X.1 X.2.1 dd_mm_count_111 ?_
          refine lv_goto (tgt := 116) X.1 X.2.1 dd_mm_count_112 (by decide) ?_
          exact (kb_mm_count_b116 X hKs hlk hret hnm hr66) (p0, p1, p2, p4, (p3 + (1 : Int32))) _ _ _ _ _ _ _ _ hw (lh_pk hl [0, 1, 2, 4] rfl) h hci hcj
        · rw [if_neg hc106] at h
          refine lv_icmp_ne (tgt := 115) X.1 X.2.1 dd_mm_count_106 (by decide) (fun _ => ?_) (fun z => absurd z hc106)
          exact (kb_mm_count_b115 X hKs hlk hret hnm hr66) (p0, p1, p2, p3, p4) _ _ _ _ _ _ _ _ hw (lh_pk hl [0, 1, 2, 3, 4] rfl) h hci hcj
    · rw [if_neg hc78] at h
      refine lv_icmp_ne (tgt := 123) X.1 X.2.1 dd_mm_count_78 (by decide) (fun _ => ?_) (fun z => absurd z hc78)
      exact (kb_mm_count_b123 X hKs hlk hret hnm) (p0, p1, p2, p3) _ _ _ _ _ _ _ _ hw (lh_pk hl [0, 1, 2, 3] rfl) h hci hcj
set_option maxHeartbeats 4000000 in
set_option maxRecDepth 100000 in
theorem kb_mm_count_b63 {p : Program} {l : Launch} {e : Env} {s : State} {m : MethodId} {args : Array Value} {below : List Frame} {meth : Method} {c : Code} {D : va_G} {ac : Nat → ClassId} {a0 : Nat} {gl : gl_T} {rF : Int32} {stF : st_S} {iT jT : Nat}
    (X : cx_ p s m args c prog_12_method_35_code 6 "PromiseVatsModel" tb_ D cl_ (ty_ ac)) (hKs : kn_ D ac a0 gl s) (hlk : meth.locks = false) (hret : meth.sig.returnType = (Option.some FieldType.int)) (hnm : meth.name = "count") : wk_ p l e 3 65 s m args below meth c D cl_ ac a0 6 vb_i rF stF iT jT 63 (fun x : Option Nat × Int32 × Int32 × Int32 => [(0, (va_rf x.1)), (1, (.int x.2.1)), (2, (.int x.2.2.1)), (3, (.int x.2.2.2))]) (fun x : Option Nat × Int32 × Int32 × Int32 => []) (fun x : Option Nat × Int32 × Int32 × Int32 => mm_count_b63 gl x.1 x.2.1 x.2.2.1 x.2.2.2) := by
  intro x st H locs cells slots i j ls hw hl h hci hcj
  obtain ⟨p0, p1, p2, p3⟩ := x
  have h : mm_count_b63 gl p0 p1 p2 p3 st = some (rF, stF, i, j) := h
  unfold mm_count_b63 at h
  have hl : lh_ ls 6 [(0, (va_rf p0)), (1, (.int p1)), (2, (.int p2)), (3, (.int p3))] := hl
  refine W.eq (g2 := F0 m 63 ls []) rfl ?_
  refine lv_iconst (v := (0 : Int32)) X.1 X.2.1 dd_mm_count_63 (by decide) ?_
  refine rr_ist (lv' := [(4, (.int (0 : Int32))), (0, (va_rf p0)), (1, (.int p1)), (2, (.int p2)), (3, (.int p3))]) X dd_mm_count_64 hl (by decide) rfl (fun ls hl => ?_)
  exact (kb_mm_count_b66 X hKs hlk hret hnm) (p0, p1, p2, p3, (0 : Int32)) _ _ _ _ _ _ _ _ hw (lh_pk hl [1, 2, 3, 4, 0] rfl) h hci hcj
set_option maxHeartbeats 4000000 in
set_option maxRecDepth 100000 in
theorem kb_mm_count_b25 {p : Program} {l : Launch} {e : Env} {s : State} {m : MethodId} {args : Array Value} {below : List Frame} {meth : Method} {c : Code} {D : va_G} {ac : Nat → ClassId} {a0 : Nat} {gl : gl_T} {rF : Int32} {stF : st_S} {iT jT : Nat}
    (X : cx_ p s m args c prog_12_method_35_code 6 "PromiseVatsModel" tb_ D cl_ (ty_ ac)) (hKs : kn_ D ac a0 gl s) (hlk : meth.locks = false) (hret : meth.sig.returnType = (Option.some FieldType.int)) (hnm : meth.name = "count") : wk_ p l e 3 65 s m args below meth c D cl_ ac a0 6 vb_i rF stF iT jT 25 (fun x : Option Nat × Int32 × Int32 × Int32 × Int32 => [(0, (va_rf x.1)), (1, (.int x.2.1)), (2, (.int x.2.2.1)), (3, (.int x.2.2.2.1)), (4, (.int x.2.2.2.2))]) (fun x : Option Nat × Int32 × Int32 × Int32 × Int32 => []) (st_it (fun rec25 => (fun x : Option Nat × Int32 × Int32 × Int32 × Int32 => mm_count_b25 gl rec25 x.1 x.2.1 x.2.2.1 x.2.2.2.1 x.2.2.2.2)) fu_) := by
  refine wk_it ?_ _
  intro rec25 hr25 x st H locs cells slots i j ls hw hl h hci hcj
  obtain ⟨p0, p1, p2, p3, p4⟩ := x
  have h : mm_count_b25 gl rec25 p0 p1 p2 p3 p4 st = some (rF, stF, i, j) := h
  unfold mm_count_b25 at h
  have hl : lh_ ls 6 [(0, (va_rf p0)), (1, (.int p1)), (2, (.int p2)), (3, (.int p3)), (4, (.int p4))] := hl
  refine W.eq (g2 := F0 m 25 ls []) rfl ?_
  refine lv_iload X.1 X.2.1 dd_mm_count_25 (lv_at hl.1 4 rfl) ?_
  refine lv_sipush (v := (200 : Int32)) X.1 X.2.1 dd_mm_count_27 (by decide) ?_
  by_cases hc30 : (200 : Int32) < p4
  · rw [if_pos hc30] at h
    refine lv_icmp_gt (tgt := 63) X.1 X.2.1 dd_mm_count_30 (by decide) (fun _ => ?_) (fun z => absurd hc30 z)
    exact (kb_mm_count_b63 X hKs hlk hret hnm) (p0, p1, p2, p3) _ _ _ _ _ _ _ _ hw (lh_pk hl [0, 1, 2, 3] rfl) h hci hcj
  · rw [if_neg hc30] at h
    refine lv_icmp_gt (tgt := 63) X.1 X.2.1 dd_mm_count_30 (by decide) (fun z => absurd z hc30) (fun _ => ?_)
    refine lv_iload_n X.1 X.2.1 dd_mm_count_33 rfl (lv_at hl.1 2 rfl) ?_
    refine lv_iconst (v := (4 : Int32)) X.1 X.2.1 dd_mm_count_34 (by decide) ?_
    by_cases hc35 : (4 : Int32) ≤ p2
    · rw [if_pos hc35] at h
      refine lv_icmp_ge (tgt := 63) X.1 X.2.1 dd_mm_count_35 (by decide) (fun _ => ?_) (fun z => absurd hc35 z)
      exact (kb_mm_count_b63 X hKs hlk hret hnm) (p0, p1, p2, p3) _ _ _ _ _ _ _ _ hw (lh_pk hl [0, 1, 2, 3] rfl) h hci hcj
    · rw [if_neg hc35] at h
      refine lv_icmp_ge (tgt := 63) X.1 X.2.1 dd_mm_count_35 (by decide) (fun z => absurd z hc35) (fun _ => ?_)
      refine rr_aldn X dd_mm_count_38 rfl (lv_at hl.1 0 rfl) ?_
      refine lv_iload_n X.1 X.2.1 dd_mm_count_39 rfl (lv_at hl.1 1 rfl) ?_
      refine lv_iload_n X.1 X.2.1 dd_mm_count_40 rfl (lv_at hl.1 2 rfl) ?_
      refine lv_iload X.1 X.2.1 dd_mm_count_41 (lv_at hl.1 4 rfl) ?_
      obtain ⟨t18, ht18, h⟩ := st_g_some h
      obtain ⟨t10, t11, t12, t13, t14, t15, ht10, h, ei, ej⟩ := st_b_some h
      refine rr_callV (n := 3) (As := [(.int p1), (.int p2), (.int p4)]) (rest := []) X hw (kn_ok D ac a0 gl) hKs (kc_mm_counts l D ac a0 gl p0 p1 p2 p4 _ _ _ _ _ ht10) tb_good tw_572 tw_469 tw_573 tw_574 se_67 ht18 (by decide +kernel) rfl (show 2 + 1 ≤ _ ∧ 8 + (4 + 11) + 42 ≤ _ from ⟨Nat.le_of_ble_eq_true rfl, Nat.le_of_ble_eq_true rfl⟩) (show cells + t12 ≤ iT ∧ slots + t13 ≤ jT from ⟨ar_1 hci ei, ar_1 hcj ej⟩) hl.1.1 (by simp [rf_cat, ic_cat]) rfl dd_mm_count_43 (sk := [(.int t10)]) rfl (fun H locs hw => ?_)
      have hci : cells + t12 + t14 = iT := ar_2 hci ei
      have hcj : slots + t13 + t15 = jT := ar_2 hcj ej
      clear ei ej
      generalize cells + t12 = t16 at hci ⊢
      generalize slots + t13 = t17 at hcj ⊢
      by_cases hc46 : t10 = 0
      · rw [if_pos hc46] at h
        refine lv_if_eq (tgt := 55) X.1 X.2.1 dd_mm_count_46 (by decide) (fun _ => ?_) (fun z => absurd hc46 z)
        refine lv_iload_n X.1 X.2.1 dd_mm_count_55 rfl (lv_at hl.1 3 rfl) ?_
        exact (kb_mm_count_b56 X hKs hlk hret hnm hr25) (p0, p1, p2, p4, p3) _ _ _ _ _ _ _ _ hw (lh_pk hl [0, 1, 2, 4] rfl) h hci hcj
      · rw [if_neg hc46] at h
        refine lv_if_eq (tgt := 55) X.1 X.2.1 dd_mm_count_46 (by decide) (fun z => absurd z hc46) (fun _ => ?_)
        refine lv_iload_n X.1 X.2.1 dd_mm_count_49 rfl (lv_at hl.1 3 rfl) ?_
        refine lv_iconst (v := (1 : Int32)) X.1 X.2.1 dd_mm_count_50 (by decide) ?_
        refine lv_iadd X.1 X.2.1 dd_mm_count_51 ?_
        refine lv_goto (tgt := 56) X.1 X.2.1 dd_mm_count_52 (by decide) ?_
        exact (kb_mm_count_b56 X hKs hlk hret hnm hr25) (p0, p1, p2, p4, (p3 + (1 : Int32))) _ _ _ _ _ _ _ _ hw (lh_pk hl [0, 1, 2, 4] rfl) h hci hcj
set_option maxHeartbeats 4000000 in
set_option maxRecDepth 100000 in
theorem kc_mm_count (l : Launch) (D : va_G) (ac : Nat → ClassId) (a0 : Nat) (gl : gl_T) (v0 : Option Nat) (v1 : Int32) (v2 : Int32) (st : st_S) (rF : Int32) (stF : st_S) (iT jT : Nat) (h : mm_count gl v0 v1 v2 st = some (rF, stF, iT, jT)) :
    ct_ l ⟨"PromiseVatsModel", "count", "(II)I"⟩ (Cond.code ⟨"PromiseVatsModel", "count", "(II)I"⟩ prog_12_method_35_code 6 (Option.some FieldType.int) :: tb_) 3 65 D cl_ ac a0 (kn_ D ac a0 gl) [(va_rf v0), (.int v1), (.int v2)] st (vb_i rF) stF iT jT := by
  refine ct_of (kn_ok D ac a0 gl) (plainFor_of_name (by decide +kernel)) (by simp [rf_cat, ic_cat]) (by simp) ?_
  intro p e s m args below meth c ls X hw hKs hlk hret hnm hl
  unfold mm_count at h
  have hl : lh_ ls 6 [(0, (va_rf v0)), (1, (.int v1)), (2, (.int v2))] := hl
  obtain ⟨z0, hz0⟩ : ∃ z : Nat, 0 = z := ⟨0, rfl⟩
  obtain ⟨z1, hz1⟩ : ∃ z : Nat, 0 = z := ⟨0, rfl⟩
  refine W.cs hz0 hz1 ?_
  have hci : z0 + iT = iT := by omega
  have hcj : z1 + jT = jT := by omega
  refine rr_aldn X dd_mm_count_0 rfl (lv_at hl.1 0 rfl) ?_
  refine lv_iload_n X.1 X.2.1 dd_mm_count_1 rfl (lv_at hl.1 1 rfl) ?_
  obtain ⟨t9, ht9, h⟩ := st_g_some h
  obtain ⟨t1, t2, t3, t4, t5, t6, ht1, h, ei, ej⟩ := st_b_some h
  refine rr_callV (n := 1) (As := [(.int v1)]) (rest := []) X hw (kn_ok D ac a0 gl) hKs (kc_mm_vat l D ac a0 gl v0 v1 _ _ _ _ _ ht1) tb_good tw_516 tw_469 tw_517 tw_518 se_54 ht9 (by decide +kernel) rfl (show 0 + 1 ≤ _ ∧ 8 + (2 + 11) + 0 ≤ _ from ⟨Nat.le_of_ble_eq_true rfl, Nat.le_of_ble_eq_true rfl⟩) (show z0 + t3 ≤ iT ∧ z1 + t4 ≤ jT from ⟨ar_1 hci ei, ar_1 hcj ej⟩) hl.1.1 (by simp [rf_cat, ic_cat]) rfl dd_mm_count_2 (sk := [(.int t1)]) rfl (fun H locs hw => ?_)
  have hci : z0 + t3 + t5 = iT := ar_2 hci ei
  have hcj : z1 + t4 + t6 = jT := ar_2 hcj ej
  clear ei ej
  generalize z0 + t3 = t7 at hci ⊢
  generalize z1 + t4 = t8 at hcj ⊢
  by_cases hc5 : t1 = 0
  · rw [if_pos hc5] at h
    refine lv_if_eq (tgt := 18) X.1 X.2.1 dd_mm_count_5 (by decide) (fun _ => ?_) (fun z => absurd hc5 z)
    exact (kb_mm_count_b18 X hKs hlk hret hnm) () _ _ _ _ _ _ _ _ hw (lh_pk hl [] rfl) h hci hcj
  · rw [if_neg hc5] at h
    refine lv_if_eq (tgt := 18) X.1 X.2.1 dd_mm_count_5 (by decide) (fun z => absurd z hc5) (fun _ => ?_)
    refine lv_iload_n X.1 X.2.1 dd_mm_count_8 rfl (lv_at hl.1 2 rfl) ?_
    by_cases hc9 : v2 < 0
    · rw [if_pos hc9] at h
      refine lv_if_lt (tgt := 18) X.1 X.2.1 dd_mm_count_9 (by decide) (fun _ => ?_) (fun z => absurd hc9 z)
      exact (kb_mm_count_b18 X hKs hlk hret hnm) () _ _ _ _ _ _ _ _ hw (lh_pk hl [] rfl) h hci hcj
    · rw [if_neg hc9] at h
      refine lv_if_lt (tgt := 18) X.1 X.2.1 dd_mm_count_9 (by decide) (fun z => absurd z hc9) (fun _ => ?_)
      refine lv_iload_n X.1 X.2.1 dd_mm_count_12 rfl (lv_at hl.1 2 rfl) ?_
      refine lv_bipush (v := (7 : Int32)) X.1 X.2.1 dd_mm_count_13 (by decide) ?_
      by_cases hc15 : v2 ≤ (7 : Int32)
      · rw [if_pos hc15] at h
        refine lv_icmp_le (tgt := 20) X.1 X.2.1 dd_mm_count_15 (by decide) (fun _ => ?_) (fun z => absurd hc15 z)
        refine lv_iconst (v := (0 : Int32)) X.1 X.2.1 dd_mm_count_20 (by decide) ?_
        refine rr_istn (lv' := [(3, (.int (0 : Int32))), (0, (va_rf v0)), (1, (.int v1)), (2, (.int v2))]) X dd_mm_count_21 rfl hl (by decide) rfl (fun ls hl => ?_)
        refine lv_iconst (v := (1 : Int32)) X.1 X.2.1 dd_mm_count_22 (by decide) ?_
        refine rr_ist (lv' := [(4, (.int (1 : Int32))), (3, (.int (0 : Int32))), (0, (va_rf v0)), (1, (.int v1)), (2, (.int v2))]) X dd_mm_count_23 hl (by decide) rfl (fun ls hl => ?_)
        exact (kb_mm_count_b25 X hKs hlk hret hnm) (v0, v1, v2, (0 : Int32), (1 : Int32)) _ _ _ _ _ _ _ _ hw (lh_pk hl [2, 3, 4, 1, 0] rfl) h hci hcj
      · rw [if_neg hc15] at h
        refine lv_icmp_le (tgt := 20) X.1 X.2.1 dd_mm_count_15 (by decide) (fun z => absurd z hc15) (fun _ => ?_)
        exact (kb_mm_count_b18 X hKs hlk hret hnm) () _ _ _ _ _ _ _ _ hw (lh_pk hl [] rfl) h hci hcj
