/-! PromiseVatsModel.<init>(I)V -/
theorem dd_mm_init_0 : decode prog_12_method_1_code 0 = .ok (.aload_n 0, 1) := by decide +kernel
theorem dd_mm_init_1 : decode prog_12_method_1_code 1 = .ok (.invokespecial 1, 3) := by decide +kernel
theorem dd_mm_init_4 : decode prog_12_method_1_code 4 = .ok (.aload_n 0, 1) := by decide +kernel
theorem dd_mm_init_5 : decode prog_12_method_1_code 5 = .ok (.bipush 8, 2) := by decide +kernel
theorem dd_mm_init_7 : decode prog_12_method_1_code 7 = .ok (.newarray .int, 2) := by decide +kernel
theorem dd_mm_init_9 : decode prog_12_method_1_code 9 = .ok (.putfield 7, 3) := by decide +kernel
theorem dd_mm_init_12 : decode prog_12_method_1_code 12 = .ok (.aload_n 0, 1) := by decide +kernel
theorem dd_mm_init_13 : decode prog_12_method_1_code 13 = .ok (.bipush 64, 2) := by decide +kernel
theorem dd_mm_init_15 : decode prog_12_method_1_code 15 = .ok (.newarray .int, 2) := by decide +kernel
theorem dd_mm_init_17 : decode prog_12_method_1_code 17 = .ok (.putfield 13, 3) := by decide +kernel
theorem dd_mm_init_20 : decode prog_12_method_1_code 20 = .ok (.aload_n 0, 1) := by decide +kernel
theorem dd_mm_init_21 : decode prog_12_method_1_code 21 = .ok (.bipush 64, 2) := by decide +kernel
theorem dd_mm_init_23 : decode prog_12_method_1_code 23 = .ok (.newarray .int, 2) := by decide +kernel
theorem dd_mm_init_25 : decode prog_12_method_1_code 25 = .ok (.putfield 16, 3) := by decide +kernel
theorem dd_mm_init_28 : decode prog_12_method_1_code 28 = .ok (.aload_n 0, 1) := by decide +kernel
theorem dd_mm_init_29 : decode prog_12_method_1_code 29 = .ok (.sipush 201, 3) := by decide +kernel
theorem dd_mm_init_32 : decode prog_12_method_1_code 32 = .ok (.newarray .byte, 2) := by decide +kernel
theorem dd_mm_init_34 : decode prog_12_method_1_code 34 = .ok (.putfield 19, 3) := by decide +kernel
theorem dd_mm_init_37 : decode prog_12_method_1_code 37 = .ok (.aload_n 0, 1) := by decide +kernel
theorem dd_mm_init_38 : decode prog_12_method_1_code 38 = .ok (.sipush 201, 3) := by decide +kernel
theorem dd_mm_init_41 : decode prog_12_method_1_code 41 = .ok (.newarray .boolean, 2) := by decide +kernel
theorem dd_mm_init_43 : decode prog_12_method_1_code 43 = .ok (.putfield 23, 3) := by decide +kernel
theorem dd_mm_init_46 : decode prog_12_method_1_code 46 = .ok (.aload_n 0, 1) := by decide +kernel
theorem dd_mm_init_47 : decode prog_12_method_1_code 47 = .ok (.sipush 201, 3) := by decide +kernel
theorem dd_mm_init_50 : decode prog_12_method_1_code 50 = .ok (.newarray .boolean, 2) := by decide +kernel
theorem dd_mm_init_52 : decode prog_12_method_1_code 52 = .ok (.putfield 27, 3) := by decide +kernel
theorem dd_mm_init_55 : decode prog_12_method_1_code 55 = .ok (.aload_n 0, 1) := by decide +kernel
theorem dd_mm_init_56 : decode prog_12_method_1_code 56 = .ok (.sipush 201, 3) := by decide +kernel
theorem dd_mm_init_59 : decode prog_12_method_1_code 59 = .ok (.newarray .int, 2) := by decide +kernel
theorem dd_mm_init_61 : decode prog_12_method_1_code 61 = .ok (.putfield 30, 3) := by decide +kernel
theorem dd_mm_init_64 : decode prog_12_method_1_code 64 = .ok (.aload_n 0, 1) := by decide +kernel
theorem dd_mm_init_65 : decode prog_12_method_1_code 65 = .ok (.sipush 201, 3) := by decide +kernel
theorem dd_mm_init_68 : decode prog_12_method_1_code 68 = .ok (.newarray .boolean, 2) := by decide +kernel
theorem dd_mm_init_70 : decode prog_12_method_1_code 70 = .ok (.putfield 33, 3) := by decide +kernel
theorem dd_mm_init_73 : decode prog_12_method_1_code 73 = .ok (.aload_n 0, 1) := by decide +kernel
theorem dd_mm_init_74 : decode prog_12_method_1_code 74 = .ok (.bipush 61, 2) := by decide +kernel
theorem dd_mm_init_76 : decode prog_12_method_1_code 76 = .ok (.newarray .byte, 2) := by decide +kernel
theorem dd_mm_init_78 : decode prog_12_method_1_code 78 = .ok (.putfield 36, 3) := by decide +kernel
theorem dd_mm_init_81 : decode prog_12_method_1_code 81 = .ok (.aload_n 0, 1) := by decide +kernel
theorem dd_mm_init_82 : decode prog_12_method_1_code 82 = .ok (.bipush 61, 2) := by decide +kernel
theorem dd_mm_init_84 : decode prog_12_method_1_code 84 = .ok (.newarray .int, 2) := by decide +kernel
theorem dd_mm_init_86 : decode prog_12_method_1_code 86 = .ok (.putfield 39, 3) := by decide +kernel
theorem dd_mm_init_89 : decode prog_12_method_1_code 89 = .ok (.aload_n 0, 1) := by decide +kernel
theorem dd_mm_init_90 : decode prog_12_method_1_code 90 = .ok (.sipush 244, 3) := by decide +kernel
theorem dd_mm_init_93 : decode prog_12_method_1_code 93 = .ok (.newarray .int, 2) := by decide +kernel
theorem dd_mm_init_95 : decode prog_12_method_1_code 95 = .ok (.putfield 42, 3) := by decide +kernel
theorem dd_mm_init_98 : decode prog_12_method_1_code 98 = .ok (.aload_n 0, 1) := by decide +kernel
theorem dd_mm_init_99 : decode prog_12_method_1_code 99 = .ok (.sipush 804, 3) := by decide +kernel
theorem dd_mm_init_102 : decode prog_12_method_1_code 102 = .ok (.newarray .int, 2) := by decide +kernel
theorem dd_mm_init_104 : decode prog_12_method_1_code 104 = .ok (.putfield 45, 3) := by decide +kernel
theorem dd_mm_init_107 : decode prog_12_method_1_code 107 = .ok (.aload_n 0, 1) := by decide +kernel
theorem dd_mm_init_108 : decode prog_12_method_1_code 108 = .ok (.sipush 804, 3) := by decide +kernel
theorem dd_mm_init_111 : decode prog_12_method_1_code 111 = .ok (.newarray .int, 2) := by decide +kernel
theorem dd_mm_init_113 : decode prog_12_method_1_code 113 = .ok (.putfield 48, 3) := by decide +kernel
theorem dd_mm_init_116 : decode prog_12_method_1_code 116 = .ok (.aload_n 0, 1) := by decide +kernel
theorem dd_mm_init_117 : decode prog_12_method_1_code 117 = .ok (.sipush 3216, 3) := by decide +kernel
theorem dd_mm_init_120 : decode prog_12_method_1_code 120 = .ok (.newarray .int, 2) := by decide +kernel
theorem dd_mm_init_122 : decode prog_12_method_1_code 122 = .ok (.putfield 51, 3) := by decide +kernel
theorem dd_mm_init_125 : decode prog_12_method_1_code 125 = .ok (.aload_n 0, 1) := by decide +kernel
theorem dd_mm_init_126 : decode prog_12_method_1_code 126 = .ok (.sipush 200, 3) := by decide +kernel
theorem dd_mm_init_129 : decode prog_12_method_1_code 129 = .ok (.newarray .int, 2) := by decide +kernel
theorem dd_mm_init_131 : decode prog_12_method_1_code 131 = .ok (.putfield 54, 3) := by decide +kernel
theorem dd_mm_init_134 : decode prog_12_method_1_code 134 = .ok (.aload_n 0, 1) := by decide +kernel
theorem dd_mm_init_135 : decode prog_12_method_1_code 135 = .ok (.sipush 200, 3) := by decide +kernel
theorem dd_mm_init_138 : decode prog_12_method_1_code 138 = .ok (.newarray .int, 2) := by decide +kernel
theorem dd_mm_init_140 : decode prog_12_method_1_code 140 = .ok (.putfield 57, 3) := by decide +kernel
theorem dd_mm_init_143 : decode prog_12_method_1_code 143 = .ok (.aload_n 0, 1) := by decide +kernel
theorem dd_mm_init_144 : decode prog_12_method_1_code 144 = .ok (.sipush 200, 3) := by decide +kernel
theorem dd_mm_init_147 : decode prog_12_method_1_code 147 = .ok (.newarray .int, 2) := by decide +kernel
theorem dd_mm_init_149 : decode prog_12_method_1_code 149 = .ok (.putfield 60, 3) := by decide +kernel
theorem dd_mm_init_152 : decode prog_12_method_1_code 152 = .ok (.aload_n 0, 1) := by decide +kernel
theorem dd_mm_init_153 : decode prog_12_method_1_code 153 = .ok (.sipush 200, 3) := by decide +kernel
theorem dd_mm_init_156 : decode prog_12_method_1_code 156 = .ok (.newarray .int, 2) := by decide +kernel
theorem dd_mm_init_158 : decode prog_12_method_1_code 158 = .ok (.putfield 63, 3) := by decide +kernel
theorem dd_mm_init_161 : decode prog_12_method_1_code 161 = .ok (.aload_n 0, 1) := by decide +kernel
theorem dd_mm_init_162 : decode prog_12_method_1_code 162 = .ok (.sipush 200, 3) := by decide +kernel
theorem dd_mm_init_165 : decode prog_12_method_1_code 165 = .ok (.newarray .int, 2) := by decide +kernel
theorem dd_mm_init_167 : decode prog_12_method_1_code 167 = .ok (.putfield 66, 3) := by decide +kernel
theorem dd_mm_init_170 : decode prog_12_method_1_code 170 = .ok (.aload_n 0, 1) := by decide +kernel
theorem dd_mm_init_171 : decode prog_12_method_1_code 171 = .ok (.sipush 2100, 3) := by decide +kernel
theorem dd_mm_init_174 : decode prog_12_method_1_code 174 = .ok (.newarray .byte, 2) := by decide +kernel
theorem dd_mm_init_176 : decode prog_12_method_1_code 176 = .ok (.putfield 69, 3) := by decide +kernel
theorem dd_mm_init_179 : decode prog_12_method_1_code 179 = .ok (.aload_n 0, 1) := by decide +kernel
theorem dd_mm_init_180 : decode prog_12_method_1_code 180 = .ok (.sipush 2100, 3) := by decide +kernel
theorem dd_mm_init_183 : decode prog_12_method_1_code 183 = .ok (.newarray .short, 2) := by decide +kernel
theorem dd_mm_init_185 : decode prog_12_method_1_code 185 = .ok (.putfield 72, 3) := by decide +kernel
theorem dd_mm_init_188 : decode prog_12_method_1_code 188 = .ok (.aload_n 0, 1) := by decide +kernel
theorem dd_mm_init_189 : decode prog_12_method_1_code 189 = .ok (.sipush 2100, 3) := by decide +kernel
theorem dd_mm_init_192 : decode prog_12_method_1_code 192 = .ok (.newarray .int, 2) := by decide +kernel
theorem dd_mm_init_194 : decode prog_12_method_1_code 194 = .ok (.putfield 76, 3) := by decide +kernel
theorem dd_mm_init_197 : decode prog_12_method_1_code 197 = .ok (.aload_n 0, 1) := by decide +kernel
theorem dd_mm_init_198 : decode prog_12_method_1_code 198 = .ok (.sipush 2100, 3) := by decide +kernel
theorem dd_mm_init_201 : decode prog_12_method_1_code 201 = .ok (.newarray .short, 2) := by decide +kernel
theorem dd_mm_init_203 : decode prog_12_method_1_code 203 = .ok (.putfield 79, 3) := by decide +kernel
theorem dd_mm_init_206 : decode prog_12_method_1_code 206 = .ok (.aload_n 0, 1) := by decide +kernel
theorem dd_mm_init_207 : decode prog_12_method_1_code 207 = .ok (.sipush 2100, 3) := by decide +kernel
theorem dd_mm_init_210 : decode prog_12_method_1_code 210 = .ok (.newarray .short, 2) := by decide +kernel
theorem dd_mm_init_212 : decode prog_12_method_1_code 212 = .ok (.putfield 82, 3) := by decide +kernel
theorem dd_mm_init_215 : decode prog_12_method_1_code 215 = .ok (.aload_n 0, 1) := by decide +kernel
theorem dd_mm_init_216 : decode prog_12_method_1_code 216 = .ok (.bipush 101, 2) := by decide +kernel
theorem dd_mm_init_218 : decode prog_12_method_1_code 218 = .ok (.newarray .int, 2) := by decide +kernel
theorem dd_mm_init_220 : decode prog_12_method_1_code 220 = .ok (.putfield 85, 3) := by decide +kernel
theorem dd_mm_init_223 : decode prog_12_method_1_code 223 = .ok (.aload_n 0, 1) := by decide +kernel
theorem dd_mm_init_224 : decode prog_12_method_1_code 224 = .ok (.iconst 4, 1) := by decide +kernel
theorem dd_mm_init_225 : decode prog_12_method_1_code 225 = .ok (.newarray .int, 2) := by decide +kernel
theorem dd_mm_init_227 : decode prog_12_method_1_code 227 = .ok (.putfield 88, 3) := by decide +kernel
theorem dd_mm_init_230 : decode prog_12_method_1_code 230 = .ok (.aload_n 0, 1) := by decide +kernel
theorem dd_mm_init_231 : decode prog_12_method_1_code 231 = .ok (.bipush 40, 2) := by decide +kernel
theorem dd_mm_init_233 : decode prog_12_method_1_code 233 = .ok (.newarray .int, 2) := by decide +kernel
theorem dd_mm_init_235 : decode prog_12_method_1_code 235 = .ok (.putfield 91, 3) := by decide +kernel
theorem dd_mm_init_238 : decode prog_12_method_1_code 238 = .ok (.aload_n 0, 1) := by decide +kernel
theorem dd_mm_init_239 : decode prog_12_method_1_code 239 = .ok (.iload_n 1, 1) := by decide +kernel
theorem dd_mm_init_240 : decode prog_12_method_1_code 240 = .ok (.iconst 2, 1) := by decide +kernel
theorem dd_mm_init_241 : decode prog_12_method_1_code 241 = .ok (.if_icmp .ge 7, 3) := by decide +kernel
theorem dd_mm_init_244 : decode prog_12_method_1_code 244 = .ok (.iconst 2, 1) := by decide +kernel
theorem dd_mm_init_245 : decode prog_12_method_1_code 245 = .ok (.goto 13, 3) := by decide +kernel
theorem dd_mm_init_248 : decode prog_12_method_1_code 248 = .ok (.iload_n 1, 1) := by decide +kernel
theorem dd_mm_init_249 : decode prog_12_method_1_code 249 = .ok (.iconst 4, 1) := by decide +kernel
theorem dd_mm_init_250 : decode prog_12_method_1_code 250 = .ok (.if_icmp .le 7, 3) := by decide +kernel
theorem dd_mm_init_253 : decode prog_12_method_1_code 253 = .ok (.iconst 4, 1) := by decide +kernel
theorem dd_mm_init_254 : decode prog_12_method_1_code 254 = .ok (.goto 4, 3) := by decide +kernel
theorem dd_mm_init_257 : decode prog_12_method_1_code 257 = .ok (.iload_n 1, 1) := by decide +kernel
theorem dd_mm_init_258 : decode prog_12_method_1_code 258 = .ok (.putfield 94, 3) := by decide +kernel
theorem dd_mm_init_261 : decode prog_12_method_1_code 261 = .ok (.iconst 0, 1) := by decide +kernel
theorem dd_mm_init_262 : decode prog_12_method_1_code 262 = .ok (.istore_n 2, 1) := by decide +kernel
theorem dd_mm_init_263 : decode prog_12_method_1_code 263 = .ok (.iload_n 2, 1) := by decide +kernel
theorem dd_mm_init_264 : decode prog_12_method_1_code 264 = .ok (.aload_n 0, 1) := by decide +kernel
theorem dd_mm_init_265 : decode prog_12_method_1_code 265 = .ok (.getfield 94, 3) := by decide +kernel
theorem dd_mm_init_268 : decode prog_12_method_1_code 268 = .ok (.if_icmp .ge 41, 3) := by decide +kernel
theorem dd_mm_init_271 : decode prog_12_method_1_code 271 = .ok (.aload_n 0, 1) := by decide +kernel
theorem dd_mm_init_272 : decode prog_12_method_1_code 272 = .ok (.dup, 1) := by decide +kernel
theorem dd_mm_init_273 : decode prog_12_method_1_code 273 = .ok (.getfield 98, 3) := by decide +kernel
theorem dd_mm_init_276 : decode prog_12_method_1_code 276 = .ok (.iconst 1, 1) := by decide +kernel
theorem dd_mm_init_277 : decode prog_12_method_1_code 277 = .ok (.iadd, 1) := by decide +kernel
theorem dd_mm_init_278 : decode prog_12_method_1_code 278 = .ok (.putfield 98, 3) := by decide +kernel
theorem dd_mm_init_281 : decode prog_12_method_1_code 281 = .ok (.aload_n 0, 1) := by decide +kernel
theorem dd_mm_init_282 : decode prog_12_method_1_code 282 = .ok (.getfield 19, 3) := by decide +kernel
theorem dd_mm_init_285 : decode prog_12_method_1_code 285 = .ok (.aload_n 0, 1) := by decide +kernel
theorem dd_mm_init_286 : decode prog_12_method_1_code 286 = .ok (.getfield 98, 3) := by decide +kernel
theorem dd_mm_init_289 : decode prog_12_method_1_code 289 = .ok (.iload_n 2, 1) := by decide +kernel
theorem dd_mm_init_290 : decode prog_12_method_1_code 290 = .ok (.i2b, 1) := by decide +kernel
theorem dd_mm_init_291 : decode prog_12_method_1_code 291 = .ok (.bastore, 1) := by decide +kernel
theorem dd_mm_init_292 : decode prog_12_method_1_code 292 = .ok (.aload_n 0, 1) := by decide +kernel
theorem dd_mm_init_293 : decode prog_12_method_1_code 293 = .ok (.getfield 36, 3) := by decide +kernel
theorem dd_mm_init_296 : decode prog_12_method_1_code 296 = .ok (.aload_n 0, 1) := by decide +kernel
theorem dd_mm_init_297 : decode prog_12_method_1_code 297 = .ok (.getfield 98, 3) := by decide +kernel
theorem dd_mm_init_300 : decode prog_12_method_1_code 300 = .ok (.iload_n 2, 1) := by decide +kernel
theorem dd_mm_init_301 : decode prog_12_method_1_code 301 = .ok (.i2b, 1) := by decide +kernel
theorem dd_mm_init_302 : decode prog_12_method_1_code 302 = .ok (.bastore, 1) := by decide +kernel
theorem dd_mm_init_303 : decode prog_12_method_1_code 303 = .ok (.iinc 2 1, 3) := by decide +kernel
theorem dd_mm_init_306 : decode prog_12_method_1_code 306 = .ok (.goto (-43), 3) := by decide +kernel
theorem dd_mm_init_309 : decode prog_12_method_1_code 309 = .ok (.return_, 1) := by decide +kernel
set_option maxHeartbeats 4000000 in
set_option maxRecDepth 100000 in
theorem kb_mm_init_b263 {p : Program} {l : Launch} {e : Env} {s : State} {m : MethodId} {args : Array Value} {below : List Frame} {meth : Method} {c : Code} {D : va_G} {ac : Nat → ClassId} {a0 : Nat} {gl : gl_T} {rF : Unit} {stF : st_S} {iT jT : Nat}
    (X : cx_ p s m args c prog_12_method_1_code 3 "PromiseVatsModel" tb_ D cl_ (ty_ ac)) (hKs : kn_ D ac a0 gl s) (hlk : meth.locks = false) (hret : meth.sig.returnType = (Option.none : Option FieldType)) (hnm : meth.name = "<init>") : wk_ p l e 1 12 s m args below meth c D cl_ ac a0 3 vb_u rF stF iT jT 263 (fun x : Option Nat × Int32 => [(0, (va_rf x.1)), (2, (.int x.2))]) (fun x : Option Nat × Int32 => []) (st_it (fun rec263 => (fun x : Option Nat × Int32 => mm_init_b263 gl rec263 x.1 x.2)) fu_) := by
  refine wk_it ?_ _
  intro rec263 hr263 x st H locs cells slots i j ls hw hl h hci hcj
  obtain ⟨p0, p2⟩ := x
  have h : mm_init_b263 gl rec263 p0 p2 st = some (rF, stF, i, j) := h
  unfold mm_init_b263 at h
  have hl : lh_ ls 3 [(0, (va_rf p0)), (2, (.int p2))] := hl
  refine W.eq (g2 := F0 m 263 ls []) rfl ?_
  refine lv_iload_n X.1 X.2.1 dd_mm_init_263 rfl (lv_at hl.1 1 rfl) ?_
  refine rr_aldn X dd_mm_init_264 rfl (lv_at hl.1 0 rfl) ?_
  obtain ⟨t192, ht192, h⟩ := st_g_some h
  refine rr_geti X hw ff_10_0 ht192 tw_466 (Or.inl rfl) dd_mm_init_265 ?_
  by_cases hc268 : t192 ≤ p2
  · rw [if_pos hc268] at h
    refine lv_icmp_ge (tgt := 309) X.1 X.2.1 dd_mm_init_268 (by decide) (fun _ => ?_) (fun z => absurd hc268 z)
    obtain ⟨rfl, rfl, rfl, rfl⟩ := st_r_some h
    exact rr_vret X hw hlk hret hci hcj dd_mm_init_309
  · rw [if_neg hc268] at h
    refine lv_icmp_ge (tgt := 309) X.1 X.2.1 dd_mm_init_268 (by decide) (fun z => absurd z hc268) (fun _ => ?_)
    refine rr_aldn X dd_mm_init_271 rfl (lv_at hl.1 0 rfl) ?_
    refine lv_dup X.1 X.2.1 dd_mm_init_272 (rf_cat _) ?_
    obtain ⟨t193, ht193, h⟩ := st_g_some h
    refine rr_geti X hw ff_10_1 ht193 tw_467 (Or.inl rfl) dd_mm_init_273 ?_
    refine lv_iconst (v := (1 : Int32)) X.1 X.2.1 dd_mm_init_276 (by decide) ?_
    refine lv_iadd X.1 X.2.1 dd_mm_init_277 ?_
    obtain ⟨t194, hp278, h⟩ := st_w_some h
    refine rr_put (ty := .int) X hw ff_10_1 hp278 tw_467 (Or.inl rfl) (by decide +kernel) rfl rfl dd_mm_init_278 (fun H locs hw => ?_)
    refine rr_aldn X dd_mm_init_281 rfl (lv_at hl.1 0 rfl) ?_
    obtain ⟨t195, ht195, h⟩ := st_g_some h
    refine rr_getq X hw ff_10_6 ht195 tw_461 (Or.inl rfl) dd_mm_init_282 ?_
    refine rr_aldn X dd_mm_init_285 rfl (lv_at hl.1 0 rfl) ?_
    obtain ⟨t196, ht196, h⟩ := st_g_some h
    refine rr_geti X hw ff_10_1 ht196 tw_467 (Or.inl rfl) dd_mm_init_286 ?_
    refine lv_iload_n X.1 X.2.1 dd_mm_init_289 rfl (lv_at hl.1 1 rfl) ?_
    refine lv_i2b (v := (p2.toInt8.toInt32)) X.1 X.2.1 dd_mm_init_290 rfl ?_
    obtain ⟨t197, hp291, h⟩ := st_w_some h
    refine rr_bast (t := 1) X hw rfl hp291 dd_mm_init_291 (fun H locs hw => ?_)
    refine rr_aldn X dd_mm_init_292 rfl (lv_at hl.1 0 rfl) ?_
    obtain ⟨t198, ht198, h⟩ := st_g_some h
    refine rr_getq X hw ff_10_11 ht198 tw_456 (Or.inl rfl) dd_mm_init_293 ?_
    refine rr_aldn X dd_mm_init_296 rfl (lv_at hl.1 0 rfl) ?_
    obtain ⟨t199, ht199, h⟩ := st_g_some h
    refine rr_geti X hw ff_10_1 ht199 tw_467 (Or.inl rfl) dd_mm_init_297 ?_
    refine lv_iload_n X.1 X.2.1 dd_mm_init_300 rfl (lv_at hl.1 1 rfl) ?_
    refine lv_i2b (v := (p2.toInt8.toInt32)) X.1 X.2.1 dd_mm_init_301 rfl ?_
    obtain ⟨t200, hp302, h⟩ := st_w_some h
    refine rr_bast (t := 1) X hw rfl hp302 dd_mm_init_302 (fun H locs hw => ?_)
    refine rr_iinc (k := 1) (v := (p2 + (1 : Int32))) (lv' := [(2, (.int (p2 + (1 : Int32)))), (0, (va_rf p0))]) X dd_mm_init_303 hl rfl (by rw [show Int32.ofInt (1) = (1 : Int32) from by decide]) (by decide) rfl (fun ls hl => ?_)
    refine lv_goto (tgt := 263) X.1 X.2.1 dd_mm_init_306 (by decide) ?_
    exact hr263 (p0, (p2 + (1 : Int32))) _ _ _ _ _ _ _ _ hw (lh_pk hl [1, 0] rfl) h hci hcj
set_option maxHeartbeats 4000000 in
set_option maxRecDepth 100000 in
theorem kb_mm_init_b258 {p : Program} {l : Launch} {e : Env} {s : State} {m : MethodId} {args : Array Value} {below : List Frame} {meth : Method} {c : Code} {D : va_G} {ac : Nat → ClassId} {a0 : Nat} {gl : gl_T} {rF : Unit} {stF : st_S} {iT jT : Nat}
    (X : cx_ p s m args c prog_12_method_1_code 3 "PromiseVatsModel" tb_ D cl_ (ty_ ac)) (hKs : kn_ D ac a0 gl s) (hlk : meth.locks = false) (hret : meth.sig.returnType = (Option.none : Option FieldType)) (hnm : meth.name = "<init>") : wk_ p l e 1 12 s m args below meth c D cl_ ac a0 3 vb_u rF stF iT jT 258 (fun x : Option Nat × Int32 × Option Nat => [(0, (va_rf x.1))]) (fun x : Option Nat × Int32 × Option Nat => [(.int x.2.1), (va_rf x.2.2)]) (fun x : Option Nat × Int32 × Option Nat => mm_init_b258 gl x.1 x.2.1 x.2.2) := by
  intro x st H locs cells slots i j ls hw hl h hci hcj
  obtain ⟨p0, q0, q1⟩ := x
  have h : mm_init_b258 gl p0 q0 q1 st = some (rF, stF, i, j) := h
  unfold mm_init_b258 at h
  have hl : lh_ ls 3 [(0, (va_rf p0))] := hl
  refine W.eq (g2 := F0 m 258 ls [(.int q0), (va_rf q1)]) rfl ?_
  obtain ⟨t191, hp258, h⟩ := st_w_some h
  refine rr_putF (ty := .int) X hw ff_10_0 hp258 tw_466 hnm (by decide +kernel) rfl rfl dd_mm_init_258 (fun H locs hw => ?_)
  refine lv_iconst (v := (0 : Int32)) X.1 X.2.1 dd_mm_init_261 (by decide) ?_
  refine rr_istn (lv' := [(2, (.int (0 : Int32))), (0, (va_rf p0))]) X dd_mm_init_262 rfl hl (by decide) rfl (fun ls hl => ?_)
  exact (kb_mm_init_b263 X hKs hlk hret hnm) (p0, (0 : Int32)) _ _ _ _ _ _ _ _ hw (lh_pk hl [1, 0] rfl) h hci hcj
set_option maxHeartbeats 4000000 in
set_option maxRecDepth 100000 in
theorem kc_mm_init (l : Launch) (D : va_G) (ac : Nat → ClassId) (a0 : Nat) (gl : gl_T) (v0 : Option Nat) (v1 : Int32) (st : st_S) (rF : Unit) (stF : st_S) (iT jT : Nat) (h : mm_init gl v0 v1 st = some (rF, stF, iT, jT)) :
    ct_ l ⟨"PromiseVatsModel", "<init>", "(I)V"⟩ (Cond.code ⟨"PromiseVatsModel", "<init>", "(I)V"⟩ prog_12_method_1_code 3 (Option.none : Option FieldType) :: tb_) 1 12 D cl_ ac a0 (kn_ D ac a0 gl) [(va_rf v0), (.int v1)] st (vb_u rF) stF iT jT := by
  refine ct_of (kn_ok D ac a0 gl) (plainFor_of_name (by decide +kernel)) (by simp [rf_cat, ic_cat]) (by simp) ?_
  intro p e s m args below meth c ls X hw hKs hlk hret hnm hl
  unfold mm_init at h
  have hl : lh_ ls 3 [(0, (va_rf v0)), (1, (.int v1))] := hl
  obtain ⟨z0, hz0⟩ : ∃ z : Nat, 0 = z := ⟨0, rfl⟩
  obtain ⟨z1, hz1⟩ : ∃ z : Nat, 0 = z := ⟨0, rfl⟩
  refine W.cs hz0 hz1 ?_
  have hci : z0 + iT = iT := by omega
  have hcj : z1 + jT = jT := by omega
  refine rr_aldn X dd_mm_init_0 rfl (lv_at hl.1 0 rfl) ?_
  obtain ⟨t1, ht1, h⟩ := st_g_some h
  refine rr_objI X ht1 tw_465 tw_1 tw_2 hl.1.1 (Nat.le_of_ble_eq_true rfl) (by simp [rf_cat, ic_cat]) dd_mm_init_1 ?_
  refine rr_aldn X dd_mm_init_4 rfl (lv_at hl.1 0 rfl) ?_
  refine lv_bipush (v := (8 : Int32)) X.1 X.2.1 dd_mm_init_5 (by decide) ?_
  obtain ⟨_, hz7, h⟩ := st_g_some h
  have hn7 := so_l_s hz7
  obtain ⟨t3, t4, h, ei, ej⟩ := st_n_some h
  refine rr_newi (t := 0) X hw rfl hn7.1 rfl hn7.2 tw_3 (show z0 + 1 ≤ iT ∧ z1 + (8 : Int32).toNatClampNeg ≤ jT from ⟨ar_1 hci ei, ar_1 hcj ej⟩) dd_mm_init_7 (fun H hw => ?_)
  have hci : z0 + 1 + t3 = iT := ar_2 hci ei
  have hcj : z1 + (8 : Int32).toNatClampNeg + t4 = jT := ar_2 hcj ej
  clear ei ej
  generalize z0 + 1 = t5 at hci ⊢
  generalize z1 + (8 : Int32).toNatClampNeg = t6 at hcj ⊢
  generalize st.2 = t2 at h ⊢
  have h := h
  generalize (st_ad st (.inl (0, (8 : Int32).toNatClampNeg, fun _ => 0))) = t7 at h hw
  obtain ⟨t8, hp9, h⟩ := st_w_some h
  refine rr_putF (ty := .array (.int)) X hw ff_10_3 hp9 tw_464 hnm (by decide +kernel) (rf_narA _ _) (rf_fitA _ _) dd_mm_init_9 (fun H locs hw => ?_)
  refine rr_aldn X dd_mm_init_12 rfl (lv_at hl.1 0 rfl) ?_
  refine lv_bipush (v := (64 : Int32)) X.1 X.2.1 dd_mm_init_13 (by decide) ?_
  obtain ⟨_, hz15, h⟩ := st_g_some h
  have hn15 := so_l_s hz15
  obtain ⟨t10, t11, h, ei, ej⟩ := st_n_some h
  refine rr_newi (t := 0) X hw rfl hn15.1 rfl hn15.2 tw_3 (show t5 + 1 ≤ iT ∧ t6 + (64 : Int32).toNatClampNeg ≤ jT from ⟨ar_1 hci ei, ar_1 hcj ej⟩) dd_mm_init_15 (fun H hw => ?_)
  have hci : t5 + 1 + t10 = iT := ar_2 hci ei
  have hcj : t6 + (64 : Int32).toNatClampNeg + t11 = jT := ar_2 hcj ej
  clear ei ej
  generalize t5 + 1 = t12 at hci ⊢
  generalize t6 + (64 : Int32).toNatClampNeg = t13 at hcj ⊢
  generalize t8.2 = t9 at h ⊢
  have h := h
  generalize (st_ad t8 (.inl (0, (64 : Int32).toNatClampNeg, fun _ => 0))) = t14 at h hw
  obtain ⟨t15, hp17, h⟩ := st_w_some h
  refine rr_putF (ty := .array (.int)) X hw ff_10_4 hp17 tw_463 hnm (by decide +kernel) (rf_narA _ _) (rf_fitA _ _) dd_mm_init_17 (fun H locs hw => ?_)
  refine rr_aldn X dd_mm_init_20 rfl (lv_at hl.1 0 rfl) ?_
  refine lv_bipush (v := (64 : Int32)) X.1 X.2.1 dd_mm_init_21 (by decide) ?_
  obtain ⟨_, hz23, h⟩ := st_g_some h
  have hn23 := so_l_s hz23
  obtain ⟨t17, t18, h, ei, ej⟩ := st_n_some h
  refine rr_newi (t := 0) X hw rfl hn23.1 rfl hn23.2 tw_3 (show t12 + 1 ≤ iT ∧ t13 + (64 : Int32).toNatClampNeg ≤ jT from ⟨ar_1 hci ei, ar_1 hcj ej⟩) dd_mm_init_23 (fun H hw => ?_)
  have hci : t12 + 1 + t17 = iT := ar_2 hci ei
  have hcj : t13 + (64 : Int32).toNatClampNeg + t18 = jT := ar_2 hcj ej
  clear ei ej
  generalize t12 + 1 = t19 at hci ⊢
  generalize t13 + (64 : Int32).toNatClampNeg = t20 at hcj ⊢
  generalize t15.2 = t16 at h ⊢
  have h := h
  generalize (st_ad t15 (.inl (0, (64 : Int32).toNatClampNeg, fun _ => 0))) = t21 at h hw
  obtain ⟨t22, hp25, h⟩ := st_w_some h
  refine rr_putF (ty := .array (.int)) X hw ff_10_5 hp25 tw_462 hnm (by decide +kernel) (rf_narA _ _) (rf_fitA _ _) dd_mm_init_25 (fun H locs hw => ?_)
  refine rr_aldn X dd_mm_init_28 rfl (lv_at hl.1 0 rfl) ?_
  refine lv_sipush (v := (201 : Int32)) X.1 X.2.1 dd_mm_init_29 (by decide) ?_
  obtain ⟨_, hz32, h⟩ := st_g_some h
  have hn32 := so_l_s hz32
  obtain ⟨t24, t25, h, ei, ej⟩ := st_n_some h
  refine rr_newp (t := 1) (ty := .byte) X hw rfl rfl (fun z => z) rfl hn32.1 rfl (ar_4b hn32.2) tw_435 (show t19 + 1 ≤ iT ∧ t20 + (201 : Int32).toNatClampNeg ≤ jT from ⟨ar_1 hci ei, ar_1 hcj ej⟩) dd_mm_init_32 (fun H hw => ?_)
  have hci : t19 + 1 + t24 = iT := ar_2 hci ei
  have hcj : t20 + (201 : Int32).toNatClampNeg + t25 = jT := ar_2 hcj ej
  clear ei ej
  generalize t19 + 1 = t26 at hci ⊢
  generalize t20 + (201 : Int32).toNatClampNeg = t27 at hcj ⊢
  generalize t22.2 = t23 at h ⊢
  have h := h
  generalize (st_ad t22 (.inl (1, (201 : Int32).toNatClampNeg, fun _ => 0))) = t28 at h hw
  obtain ⟨t29, hp34, h⟩ := st_w_some h
  refine rr_putF (ty := .array (.byte)) X hw ff_10_6 hp34 tw_461 hnm (by decide +kernel) (rf_narA _ _) (rf_fitA _ _) dd_mm_init_34 (fun H locs hw => ?_)
  refine rr_aldn X dd_mm_init_37 rfl (lv_at hl.1 0 rfl) ?_
  refine lv_sipush (v := (201 : Int32)) X.1 X.2.1 dd_mm_init_38 (by decide) ?_
  obtain ⟨_, hz41, h⟩ := st_g_some h
  have hn41 := so_l_s hz41
  obtain ⟨t31, t32, h, ei, ej⟩ := st_n_some h
  refine rr_newp (t := 2) (ty := .boolean) X hw rfl rfl (fun z => z) rfl hn41.1 rfl (ar_4b hn41.2) tw_436 (show t26 + 1 ≤ iT ∧ t27 + (201 : Int32).toNatClampNeg ≤ jT from ⟨ar_1 hci ei, ar_1 hcj ej⟩) dd_mm_init_41 (fun H hw => ?_)
  have hci : t26 + 1 + t31 = iT := ar_2 hci ei
  have hcj : t27 + (201 : Int32).toNatClampNeg + t32 = jT := ar_2 hcj ej
  clear ei ej
  generalize t26 + 1 = t33 at hci ⊢
  generalize t27 + (201 : Int32).toNatClampNeg = t34 at hcj ⊢
  generalize t29.2 = t30 at h ⊢
  have h := h
  generalize (st_ad t29 (.inl (2, (201 : Int32).toNatClampNeg, fun _ => 0))) = t35 at h hw
  obtain ⟨t36, hp43, h⟩ := st_w_some h
  refine rr_putF (ty := .array (.boolean)) X hw ff_10_7 hp43 tw_460 hnm (by decide +kernel) (rf_narA _ _) (rf_fitA _ _) dd_mm_init_43 (fun H locs hw => ?_)
  refine rr_aldn X dd_mm_init_46 rfl (lv_at hl.1 0 rfl) ?_
  refine lv_sipush (v := (201 : Int32)) X.1 X.2.1 dd_mm_init_47 (by decide) ?_
  obtain ⟨_, hz50, h⟩ := st_g_some h
  have hn50 := so_l_s hz50
  obtain ⟨t38, t39, h, ei, ej⟩ := st_n_some h
  refine rr_newp (t := 2) (ty := .boolean) X hw rfl rfl (fun z => z) rfl hn50.1 rfl (ar_4b hn50.2) tw_436 (show t33 + 1 ≤ iT ∧ t34 + (201 : Int32).toNatClampNeg ≤ jT from ⟨ar_1 hci ei, ar_1 hcj ej⟩) dd_mm_init_50 (fun H hw => ?_)
  have hci : t33 + 1 + t38 = iT := ar_2 hci ei
  have hcj : t34 + (201 : Int32).toNatClampNeg + t39 = jT := ar_2 hcj ej
  clear ei ej
  generalize t33 + 1 = t40 at hci ⊢
  generalize t34 + (201 : Int32).toNatClampNeg = t41 at hcj ⊢
  generalize t36.2 = t37 at h ⊢
  have h := h
  generalize (st_ad t36 (.inl (2, (201 : Int32).toNatClampNeg, fun _ => 0))) = t42 at h hw
  obtain ⟨t43, hp52, h⟩ := st_w_some h
  refine rr_putF (ty := .array (.boolean)) X hw ff_10_8 hp52 tw_459 hnm (by decide +kernel) (rf_narA _ _) (rf_fitA _ _) dd_mm_init_52 (fun H locs hw => ?_)
  refine rr_aldn X dd_mm_init_55 rfl (lv_at hl.1 0 rfl) ?_
  refine lv_sipush (v := (201 : Int32)) X.1 X.2.1 dd_mm_init_56 (by decide) ?_
  obtain ⟨_, hz59, h⟩ := st_g_some h
  have hn59 := so_l_s hz59
  obtain ⟨t45, t46, h, ei, ej⟩ := st_n_some h
  refine rr_newi (t := 0) X hw rfl hn59.1 rfl hn59.2 tw_3 (show t40 + 1 ≤ iT ∧ t41 + (201 : Int32).toNatClampNeg ≤ jT from ⟨ar_1 hci ei, ar_1 hcj ej⟩) dd_mm_init_59 (fun H hw => ?_)
  have hci : t40 + 1 + t45 = iT := ar_2 hci ei
  have hcj : t41 + (201 : Int32).toNatClampNeg + t46 = jT := ar_2 hcj ej
  clear ei ej
  generalize t40 + 1 = t47 at hci ⊢
  generalize t41 + (201 : Int32).toNatClampNeg = t48 at hcj ⊢
  generalize t43.2 = t44 at h ⊢
  have h := h
  generalize (st_ad t43 (.inl (0, (201 : Int32).toNatClampNeg, fun _ => 0))) = t49 at h hw
  obtain ⟨t50, hp61, h⟩ := st_w_some h
  refine rr_putF (ty := .array (.int)) X hw ff_10_9 hp61 tw_458 hnm (by decide +kernel) (rf_narA _ _) (rf_fitA _ _) dd_mm_init_61 (fun H locs hw => ?_)
  refine rr_aldn X dd_mm_init_64 rfl (lv_at hl.1 0 rfl) ?_
  refine lv_sipush (v := (201 : Int32)) X.1 X.2.1 dd_mm_init_65 (by decide) ?_
  obtain ⟨_, hz68, h⟩ := st_g_some h
  have hn68 := so_l_s hz68
  obtain ⟨t52, t53, h, ei, ej⟩ := st_n_some h
  refine rr_newp (t := 2) (ty := .boolean) X hw rfl rfl (fun z => z) rfl hn68.1 rfl (ar_4b hn68.2) tw_436 (show t47 + 1 ≤ iT ∧ t48 + (201 : Int32).toNatClampNeg ≤ jT from ⟨ar_1 hci ei, ar_1 hcj ej⟩) dd_mm_init_68 (fun H hw => ?_)
  have hci : t47 + 1 + t52 = iT := ar_2 hci ei
  have hcj : t48 + (201 : Int32).toNatClampNeg + t53 = jT := ar_2 hcj ej
  clear ei ej
  generalize t47 + 1 = t54 at hci ⊢
  generalize t48 + (201 : Int32).toNatClampNeg = t55 at hcj ⊢
  generalize t50.2 = t51 at h ⊢
  have h := h
  generalize (st_ad t50 (.inl (2, (201 : Int32).toNatClampNeg, fun _ => 0))) = t56 at h hw
  obtain ⟨t57, hp70, h⟩ := st_w_some h
  refine rr_putF (ty := .array (.boolean)) X hw ff_10_10 hp70 tw_457 hnm (by decide +kernel) (rf_narA _ _) (rf_fitA _ _) dd_mm_init_70 (fun H locs hw => ?_)
  refine rr_aldn X dd_mm_init_73 rfl (lv_at hl.1 0 rfl) ?_
  refine lv_bipush (v := (61 : Int32)) X.1 X.2.1 dd_mm_init_74 (by decide) ?_
  obtain ⟨_, hz76, h⟩ := st_g_some h
  have hn76 := so_l_s hz76
  obtain ⟨t59, t60, h, ei, ej⟩ := st_n_some h
  refine rr_newp (t := 1) (ty := .byte) X hw rfl rfl (fun z => z) rfl hn76.1 rfl (ar_4b hn76.2) tw_435 (show t54 + 1 ≤ iT ∧ t55 + (61 : Int32).toNatClampNeg ≤ jT from ⟨ar_1 hci ei, ar_1 hcj ej⟩) dd_mm_init_76 (fun H hw => ?_)
  have hci : t54 + 1 + t59 = iT := ar_2 hci ei
  have hcj : t55 + (61 : Int32).toNatClampNeg + t60 = jT := ar_2 hcj ej
  clear ei ej
  generalize t54 + 1 = t61 at hci ⊢
  generalize t55 + (61 : Int32).toNatClampNeg = t62 at hcj ⊢
  generalize t57.2 = t58 at h ⊢
  have h := h
  generalize (st_ad t57 (.inl (1, (61 : Int32).toNatClampNeg, fun _ => 0))) = t63 at h hw
  obtain ⟨t64, hp78, h⟩ := st_w_some h
  refine rr_putF (ty := .array (.byte)) X hw ff_10_11 hp78 tw_456 hnm (by decide +kernel) (rf_narA _ _) (rf_fitA _ _) dd_mm_init_78 (fun H locs hw => ?_)
  refine rr_aldn X dd_mm_init_81 rfl (lv_at hl.1 0 rfl) ?_
  refine lv_bipush (v := (61 : Int32)) X.1 X.2.1 dd_mm_init_82 (by decide) ?_
  obtain ⟨_, hz84, h⟩ := st_g_some h
  have hn84 := so_l_s hz84
  obtain ⟨t66, t67, h, ei, ej⟩ := st_n_some h
  refine rr_newi (t := 0) X hw rfl hn84.1 rfl hn84.2 tw_3 (show t61 + 1 ≤ iT ∧ t62 + (61 : Int32).toNatClampNeg ≤ jT from ⟨ar_1 hci ei, ar_1 hcj ej⟩) dd_mm_init_84 (fun H hw => ?_)
  have hci : t61 + 1 + t66 = iT := ar_2 hci ei
  have hcj : t62 + (61 : Int32).toNatClampNeg + t67 = jT := ar_2 hcj ej
  clear ei ej
  generalize t61 + 1 = t68 at hci ⊢
  generalize t62 + (61 : Int32).toNatClampNeg = t69 at hcj ⊢
  generalize t64.2 = t65 at h ⊢
  have h := h
  generalize (st_ad t64 (.inl (0, (61 : Int32).toNatClampNeg, fun _ => 0))) = t70 at h hw
  obtain ⟨t71, hp86, h⟩ := st_w_some h
  refine rr_putF (ty := .array (.int)) X hw ff_10_12 hp86 tw_455 hnm (by decide +kernel) (rf_narA _ _) (rf_fitA _ _) dd_mm_init_86 (fun H locs hw => ?_)
  refine rr_aldn X dd_mm_init_89 rfl (lv_at hl.1 0 rfl) ?_
  refine lv_sipush (v := (244 : Int32)) X.1 X.2.1 dd_mm_init_90 (by decide) ?_
  obtain ⟨_, hz93, h⟩ := st_g_some h
  have hn93 := so_l_s hz93
  obtain ⟨t73, t74, h, ei, ej⟩ := st_n_some h
  refine rr_newi (t := 0) X hw rfl hn93.1 rfl hn93.2 tw_3 (show t68 + 1 ≤ iT ∧ t69 + (244 : Int32).toNatClampNeg ≤ jT from ⟨ar_1 hci ei, ar_1 hcj ej⟩) dd_mm_init_93 (fun H hw => ?_)
  have hci : t68 + 1 + t73 = iT := ar_2 hci ei
  have hcj : t69 + (244 : Int32).toNatClampNeg + t74 = jT := ar_2 hcj ej
  clear ei ej
  generalize t68 + 1 = t75 at hci ⊢
  generalize t69 + (244 : Int32).toNatClampNeg = t76 at hcj ⊢
  generalize t71.2 = t72 at h ⊢
  have h := h
  generalize (st_ad t71 (.inl (0, (244 : Int32).toNatClampNeg, fun _ => 0))) = t77 at h hw
  obtain ⟨t78, hp95, h⟩ := st_w_some h
  refine rr_putF (ty := .array (.int)) X hw ff_10_13 hp95 tw_454 hnm (by decide +kernel) (rf_narA _ _) (rf_fitA _ _) dd_mm_init_95 (fun H locs hw => ?_)
  refine rr_aldn X dd_mm_init_98 rfl (lv_at hl.1 0 rfl) ?_
  refine lv_sipush (v := (804 : Int32)) X.1 X.2.1 dd_mm_init_99 (by decide) ?_
  obtain ⟨_, hz102, h⟩ := st_g_some h
  have hn102 := so_l_s hz102
  obtain ⟨t80, t81, h, ei, ej⟩ := st_n_some h
  refine rr_newi (t := 0) X hw rfl hn102.1 rfl hn102.2 tw_3 (show t75 + 1 ≤ iT ∧ t76 + (804 : Int32).toNatClampNeg ≤ jT from ⟨ar_1 hci ei, ar_1 hcj ej⟩) dd_mm_init_102 (fun H hw => ?_)
  have hci : t75 + 1 + t80 = iT := ar_2 hci ei
  have hcj : t76 + (804 : Int32).toNatClampNeg + t81 = jT := ar_2 hcj ej
  clear ei ej
  generalize t75 + 1 = t82 at hci ⊢
  generalize t76 + (804 : Int32).toNatClampNeg = t83 at hcj ⊢
  generalize t78.2 = t79 at h ⊢
  have h := h
  generalize (st_ad t78 (.inl (0, (804 : Int32).toNatClampNeg, fun _ => 0))) = t84 at h hw
  obtain ⟨t85, hp104, h⟩ := st_w_some h
  refine rr_putF (ty := .array (.int)) X hw ff_10_15 hp104 tw_453 hnm (by decide +kernel) (rf_narA _ _) (rf_fitA _ _) dd_mm_init_104 (fun H locs hw => ?_)
  refine rr_aldn X dd_mm_init_107 rfl (lv_at hl.1 0 rfl) ?_
  refine lv_sipush (v := (804 : Int32)) X.1 X.2.1 dd_mm_init_108 (by decide) ?_
  obtain ⟨_, hz111, h⟩ := st_g_some h
  have hn111 := so_l_s hz111
  obtain ⟨t87, t88, h, ei, ej⟩ := st_n_some h
  refine rr_newi (t := 0) X hw rfl hn111.1 rfl hn111.2 tw_3 (show t82 + 1 ≤ iT ∧ t83 + (804 : Int32).toNatClampNeg ≤ jT from ⟨ar_1 hci ei, ar_1 hcj ej⟩) dd_mm_init_111 (fun H hw => ?_)
  have hci : t82 + 1 + t87 = iT := ar_2 hci ei
  have hcj : t83 + (804 : Int32).toNatClampNeg + t88 = jT := ar_2 hcj ej
  clear ei ej
  generalize t82 + 1 = t89 at hci ⊢
  generalize t83 + (804 : Int32).toNatClampNeg = t90 at hcj ⊢
  generalize t85.2 = t86 at h ⊢
  have h := h
  generalize (st_ad t85 (.inl (0, (804 : Int32).toNatClampNeg, fun _ => 0))) = t91 at h hw
  obtain ⟨t92, hp113, h⟩ := st_w_some h
  refine rr_putF (ty := .array (.int)) X hw ff_10_16 hp113 tw_452 hnm (by decide +kernel) (rf_narA _ _) (rf_fitA _ _) dd_mm_init_113 (fun H locs hw => ?_)
  refine rr_aldn X dd_mm_init_116 rfl (lv_at hl.1 0 rfl) ?_
  refine lv_sipush (v := (3216 : Int32)) X.1 X.2.1 dd_mm_init_117 (by decide) ?_
  obtain ⟨_, hz120, h⟩ := st_g_some h
  have hn120 := so_l_s hz120
  obtain ⟨t94, t95, h, ei, ej⟩ := st_n_some h
  refine rr_newi (t := 0) X hw rfl hn120.1 rfl hn120.2 tw_3 (show t89 + 1 ≤ iT ∧ t90 + (3216 : Int32).toNatClampNeg ≤ jT from ⟨ar_1 hci ei, ar_1 hcj ej⟩) dd_mm_init_120 (fun H hw => ?_)
  have hci : t89 + 1 + t94 = iT := ar_2 hci ei
  have hcj : t90 + (3216 : Int32).toNatClampNeg + t95 = jT := ar_2 hcj ej
  clear ei ej
  generalize t89 + 1 = t96 at hci ⊢
  generalize t90 + (3216 : Int32).toNatClampNeg = t97 at hcj ⊢
  generalize t92.2 = t93 at h ⊢
  have h := h
  generalize (st_ad t92 (.inl (0, (3216 : Int32).toNatClampNeg, fun _ => 0))) = t98 at h hw
  obtain ⟨t99, hp122, h⟩ := st_w_some h
  refine rr_putF (ty := .array (.int)) X hw ff_10_17 hp122 tw_451 hnm (by decide +kernel) (rf_narA _ _) (rf_fitA _ _) dd_mm_init_122 (fun H locs hw => ?_)
  refine rr_aldn X dd_mm_init_125 rfl (lv_at hl.1 0 rfl) ?_
  refine lv_sipush (v := (200 : Int32)) X.1 X.2.1 dd_mm_init_126 (by decide) ?_
  obtain ⟨_, hz129, h⟩ := st_g_some h
  have hn129 := so_l_s hz129
  obtain ⟨t101, t102, h, ei, ej⟩ := st_n_some h
  refine rr_newi (t := 0) X hw rfl hn129.1 rfl hn129.2 tw_3 (show t96 + 1 ≤ iT ∧ t97 + (200 : Int32).toNatClampNeg ≤ jT from ⟨ar_1 hci ei, ar_1 hcj ej⟩) dd_mm_init_129 (fun H hw => ?_)
  have hci : t96 + 1 + t101 = iT := ar_2 hci ei
  have hcj : t97 + (200 : Int32).toNatClampNeg + t102 = jT := ar_2 hcj ej
  clear ei ej
  generalize t96 + 1 = t103 at hci ⊢
  generalize t97 + (200 : Int32).toNatClampNeg = t104 at hcj ⊢
  generalize t99.2 = t100 at h ⊢
  have h := h
  generalize (st_ad t99 (.inl (0, (200 : Int32).toNatClampNeg, fun _ => 0))) = t105 at h hw
  obtain ⟨t106, hp131, h⟩ := st_w_some h
  refine rr_putF (ty := .array (.int)) X hw ff_10_19 hp131 tw_450 hnm (by decide +kernel) (rf_narA _ _) (rf_fitA _ _) dd_mm_init_131 (fun H locs hw => ?_)
  refine rr_aldn X dd_mm_init_134 rfl (lv_at hl.1 0 rfl) ?_
  refine lv_sipush (v := (200 : Int32)) X.1 X.2.1 dd_mm_init_135 (by decide) ?_
  obtain ⟨_, hz138, h⟩ := st_g_some h
  have hn138 := so_l_s hz138
  obtain ⟨t108, t109, h, ei, ej⟩ := st_n_some h
  refine rr_newi (t := 0) X hw rfl hn138.1 rfl hn138.2 tw_3 (show t103 + 1 ≤ iT ∧ t104 + (200 : Int32).toNatClampNeg ≤ jT from ⟨ar_1 hci ei, ar_1 hcj ej⟩) dd_mm_init_138 (fun H hw => ?_)
  have hci : t103 + 1 + t108 = iT := ar_2 hci ei
  have hcj : t104 + (200 : Int32).toNatClampNeg + t109 = jT := ar_2 hcj ej
  clear ei ej
  generalize t103 + 1 = t110 at hci ⊢
  generalize t104 + (200 : Int32).toNatClampNeg = t111 at hcj ⊢
  generalize t106.2 = t107 at h ⊢
  have h := h
  generalize (st_ad t106 (.inl (0, (200 : Int32).toNatClampNeg, fun _ => 0))) = t112 at h hw
  obtain ⟨t113, hp140, h⟩ := st_w_some h
  refine rr_putF (ty := .array (.int)) X hw ff_10_20 hp140 tw_449 hnm (by decide +kernel) (rf_narA _ _) (rf_fitA _ _) dd_mm_init_140 (fun H locs hw => ?_)
  refine rr_aldn X dd_mm_init_143 rfl (lv_at hl.1 0 rfl) ?_
  refine lv_sipush (v := (200 : Int32)) X.1 X.2.1 dd_mm_init_144 (by decide) ?_
  obtain ⟨_, hz147, h⟩ := st_g_some h
  have hn147 := so_l_s hz147
  obtain ⟨t115, t116, h, ei, ej⟩ := st_n_some h
  refine rr_newi (t := 0) X hw rfl hn147.1 rfl hn147.2 tw_3 (show t110 + 1 ≤ iT ∧ t111 + (200 : Int32).toNatClampNeg ≤ jT from ⟨ar_1 hci ei, ar_1 hcj ej⟩) dd_mm_init_147 (fun H hw => ?_)
  have hci : t110 + 1 + t115 = iT := ar_2 hci ei
  have hcj : t111 + (200 : Int32).toNatClampNeg + t116 = jT := ar_2 hcj ej
  clear ei ej
  generalize t110 + 1 = t117 at hci ⊢
  generalize t111 + (200 : Int32).toNatClampNeg = t118 at hcj ⊢
  generalize t113.2 = t114 at h ⊢
  have h := h
  generalize (st_ad t113 (.inl (0, (200 : Int32).toNatClampNeg, fun _ => 0))) = t119 at h hw
  obtain ⟨t120, hp149, h⟩ := st_w_some h
  refine rr_putF (ty := .array (.int)) X hw ff_10_21 hp149 tw_448 hnm (by decide +kernel) (rf_narA _ _) (rf_fitA _ _) dd_mm_init_149 (fun H locs hw => ?_)
  refine rr_aldn X dd_mm_init_152 rfl (lv_at hl.1 0 rfl) ?_
  refine lv_sipush (v := (200 : Int32)) X.1 X.2.1 dd_mm_init_153 (by decide) ?_
  obtain ⟨_, hz156, h⟩ := st_g_some h
  have hn156 := so_l_s hz156
  obtain ⟨t122, t123, h, ei, ej⟩ := st_n_some h
  refine rr_newi (t := 0) X hw rfl hn156.1 rfl hn156.2 tw_3 (show t117 + 1 ≤ iT ∧ t118 + (200 : Int32).toNatClampNeg ≤ jT from ⟨ar_1 hci ei, ar_1 hcj ej⟩) dd_mm_init_156 (fun H hw => ?_)
  have hci : t117 + 1 + t122 = iT := ar_2 hci ei
  have hcj : t118 + (200 : Int32).toNatClampNeg + t123 = jT := ar_2 hcj ej
  clear ei ej
  generalize t117 + 1 = t124 at hci ⊢
  generalize t118 + (200 : Int32).toNatClampNeg = t125 at hcj ⊢
  generalize t120.2 = t121 at h ⊢
  have h := h
  generalize (st_ad t120 (.inl (0, (200 : Int32).toNatClampNeg, fun _ => 0))) = t126 at h hw
  obtain ⟨t127, hp158, h⟩ := st_w_some h
  refine rr_putF (ty := .array (.int)) X hw ff_10_22 hp158 tw_447 hnm (by decide +kernel) (rf_narA _ _) (rf_fitA _ _) dd_mm_init_158 (fun H locs hw => ?_)
  refine rr_aldn X dd_mm_init_161 rfl (lv_at hl.1 0 rfl) ?_
  refine lv_sipush (v := (200 : Int32)) X.1 X.2.1 dd_mm_init_162 (by decide) ?_
  obtain ⟨_, hz165, h⟩ := st_g_some h
  have hn165 := so_l_s hz165
  obtain ⟨t129, t130, h, ei, ej⟩ := st_n_some h
  refine rr_newi (t := 0) X hw rfl hn165.1 rfl hn165.2 tw_3 (show t124 + 1 ≤ iT ∧ t125 + (200 : Int32).toNatClampNeg ≤ jT from ⟨ar_1 hci ei, ar_1 hcj ej⟩) dd_mm_init_165 (fun H hw => ?_)
  have hci : t124 + 1 + t129 = iT := ar_2 hci ei
  have hcj : t125 + (200 : Int32).toNatClampNeg + t130 = jT := ar_2 hcj ej
  clear ei ej
  generalize t124 + 1 = t131 at hci ⊢
  generalize t125 + (200 : Int32).toNatClampNeg = t132 at hcj ⊢
  generalize t127.2 = t128 at h ⊢
  have h := h
  generalize (st_ad t127 (.inl (0, (200 : Int32).toNatClampNeg, fun _ => 0))) = t133 at h hw
  obtain ⟨t134, hp167, h⟩ := st_w_some h
  refine rr_putF (ty := .array (.int)) X hw ff_10_23 hp167 tw_446 hnm (by decide +kernel) (rf_narA _ _) (rf_fitA _ _) dd_mm_init_167 (fun H locs hw => ?_)
  refine rr_aldn X dd_mm_init_170 rfl (lv_at hl.1 0 rfl) ?_
  refine lv_sipush (v := (2100 : Int32)) X.1 X.2.1 dd_mm_init_171 (by decide) ?_
  obtain ⟨_, hz174, h⟩ := st_g_some h
  have hn174 := so_l_s hz174
  obtain ⟨t136, t137, h, ei, ej⟩ := st_n_some h
  refine rr_newp (t := 1) (ty := .byte) X hw rfl rfl (fun z => z) rfl hn174.1 rfl (ar_4b hn174.2) tw_435 (show t131 + 1 ≤ iT ∧ t132 + (2100 : Int32).toNatClampNeg ≤ jT from ⟨ar_1 hci ei, ar_1 hcj ej⟩) dd_mm_init_174 (fun H hw => ?_)
  have hci : t131 + 1 + t136 = iT := ar_2 hci ei
  have hcj : t132 + (2100 : Int32).toNatClampNeg + t137 = jT := ar_2 hcj ej
  clear ei ej
  generalize t131 + 1 = t138 at hci ⊢
  generalize t132 + (2100 : Int32).toNatClampNeg = t139 at hcj ⊢
  generalize t134.2 = t135 at h ⊢
  have h := h
  generalize (st_ad t134 (.inl (1, (2100 : Int32).toNatClampNeg, fun _ => 0))) = t140 at h hw
  obtain ⟨t141, hp176, h⟩ := st_w_some h
  refine rr_putF (ty := .array (.byte)) X hw ff_10_25 hp176 tw_445 hnm (by decide +kernel) (rf_narA _ _) (rf_fitA _ _) dd_mm_init_176 (fun H locs hw => ?_)
  refine rr_aldn X dd_mm_init_179 rfl (lv_at hl.1 0 rfl) ?_
  refine lv_sipush (v := (2100 : Int32)) X.1 X.2.1 dd_mm_init_180 (by decide) ?_
  obtain ⟨_, hz183, h⟩ := st_g_some h
  have hn183 := so_l_s hz183
  obtain ⟨t143, t144, h, ei, ej⟩ := st_n_some h
  refine rr_newp (t := 3) (ty := .short) X hw rfl rfl (fun z => z) rfl hn183.1 rfl (ar_4s hn183.2) tw_437 (show t138 + 1 ≤ iT ∧ t139 + (2100 : Int32).toNatClampNeg ≤ jT from ⟨ar_1 hci ei, ar_1 hcj ej⟩) dd_mm_init_183 (fun H hw => ?_)
  have hci : t138 + 1 + t143 = iT := ar_2 hci ei
  have hcj : t139 + (2100 : Int32).toNatClampNeg + t144 = jT := ar_2 hcj ej
  clear ei ej
  generalize t138 + 1 = t145 at hci ⊢
  generalize t139 + (2100 : Int32).toNatClampNeg = t146 at hcj ⊢
  generalize t141.2 = t142 at h ⊢
  have h := h
  generalize (st_ad t141 (.inl (3, (2100 : Int32).toNatClampNeg, fun _ => 0))) = t147 at h hw
  obtain ⟨t148, hp185, h⟩ := st_w_some h
  refine rr_putF (ty := .array (.short)) X hw ff_10_26 hp185 tw_444 hnm (by decide +kernel) (rf_narA _ _) (rf_fitA _ _) dd_mm_init_185 (fun H locs hw => ?_)
  refine rr_aldn X dd_mm_init_188 rfl (lv_at hl.1 0 rfl) ?_
  refine lv_sipush (v := (2100 : Int32)) X.1 X.2.1 dd_mm_init_189 (by decide) ?_
  obtain ⟨_, hz192, h⟩ := st_g_some h
  have hn192 := so_l_s hz192
  obtain ⟨t150, t151, h, ei, ej⟩ := st_n_some h
  refine rr_newi (t := 0) X hw rfl hn192.1 rfl hn192.2 tw_3 (show t145 + 1 ≤ iT ∧ t146 + (2100 : Int32).toNatClampNeg ≤ jT from ⟨ar_1 hci ei, ar_1 hcj ej⟩) dd_mm_init_192 (fun H hw => ?_)
  have hci : t145 + 1 + t150 = iT := ar_2 hci ei
  have hcj : t146 + (2100 : Int32).toNatClampNeg + t151 = jT := ar_2 hcj ej
  clear ei ej
  generalize t145 + 1 = t152 at hci ⊢
  generalize t146 + (2100 : Int32).toNatClampNeg = t153 at hcj ⊢
  generalize t148.2 = t149 at h ⊢
  have h := h
  generalize (st_ad t148 (.inl (0, (2100 : Int32).toNatClampNeg, fun _ => 0))) = t154 at h hw
  obtain ⟨t155, hp194, h⟩ := st_w_some h
  refine rr_putF (ty := .array (.int)) X hw ff_10_27 hp194 tw_443 hnm (by decide +kernel) (rf_narA _ _) (rf_fitA _ _) dd_mm_init_194 (fun H locs hw => ?_)
  refine rr_aldn X dd_mm_init_197 rfl (lv_at hl.1 0 rfl) ?_
  refine lv_sipush (v := (2100 : Int32)) X.1 X.2.1 dd_mm_init_198 (by decide) ?_
  obtain ⟨_, hz201, h⟩ := st_g_some h
  have hn201 := so_l_s hz201
  obtain ⟨t157, t158, h, ei, ej⟩ := st_n_some h
  refine rr_newp (t := 3) (ty := .short) X hw rfl rfl (fun z => z) rfl hn201.1 rfl (ar_4s hn201.2) tw_437 (show t152 + 1 ≤ iT ∧ t153 + (2100 : Int32).toNatClampNeg ≤ jT from ⟨ar_1 hci ei, ar_1 hcj ej⟩) dd_mm_init_201 (fun H hw => ?_)
  have hci : t152 + 1 + t157 = iT := ar_2 hci ei
  have hcj : t153 + (2100 : Int32).toNatClampNeg + t158 = jT := ar_2 hcj ej
  clear ei ej
  generalize t152 + 1 = t159 at hci ⊢
  generalize t153 + (2100 : Int32).toNatClampNeg = t160 at hcj ⊢
  generalize t155.2 = t156 at h ⊢
  have h := h
  generalize (st_ad t155 (.inl (3, (2100 : Int32).toNatClampNeg, fun _ => 0))) = t161 at h hw
  obtain ⟨t162, hp203, h⟩ := st_w_some h
  refine rr_putF (ty := .array (.short)) X hw ff_10_28 hp203 tw_442 hnm (by decide +kernel) (rf_narA _ _) (rf_fitA _ _) dd_mm_init_203 (fun H locs hw => ?_)
  refine rr_aldn X dd_mm_init_206 rfl (lv_at hl.1 0 rfl) ?_
  refine lv_sipush (v := (2100 : Int32)) X.1 X.2.1 dd_mm_init_207 (by decide) ?_
  obtain ⟨_, hz210, h⟩ := st_g_some h
  have hn210 := so_l_s hz210
  obtain ⟨t164, t165, h, ei, ej⟩ := st_n_some h
  refine rr_newp (t := 3) (ty := .short) X hw rfl rfl (fun z => z) rfl hn210.1 rfl (ar_4s hn210.2) tw_437 (show t159 + 1 ≤ iT ∧ t160 + (2100 : Int32).toNatClampNeg ≤ jT from ⟨ar_1 hci ei, ar_1 hcj ej⟩) dd_mm_init_210 (fun H hw => ?_)
  have hci : t159 + 1 + t164 = iT := ar_2 hci ei
  have hcj : t160 + (2100 : Int32).toNatClampNeg + t165 = jT := ar_2 hcj ej
  clear ei ej
  generalize t159 + 1 = t166 at hci ⊢
  generalize t160 + (2100 : Int32).toNatClampNeg = t167 at hcj ⊢
  generalize t162.2 = t163 at h ⊢
  have h := h
  generalize (st_ad t162 (.inl (3, (2100 : Int32).toNatClampNeg, fun _ => 0))) = t168 at h hw
  obtain ⟨t169, hp212, h⟩ := st_w_some h
  refine rr_putF (ty := .array (.short)) X hw ff_10_29 hp212 tw_441 hnm (by decide +kernel) (rf_narA _ _) (rf_fitA _ _) dd_mm_init_212 (fun H locs hw => ?_)
  refine rr_aldn X dd_mm_init_215 rfl (lv_at hl.1 0 rfl) ?_
  refine lv_bipush (v := (101 : Int32)) X.1 X.2.1 dd_mm_init_216 (by decide) ?_
  obtain ⟨_, hz218, h⟩ := st_g_some h
  have hn218 := so_l_s hz218
  obtain ⟨t171, t172, h, ei, ej⟩ := st_n_some h
  refine rr_newi (t := 0) X hw rfl hn218.1 rfl hn218.2 tw_3 (show t166 + 1 ≤ iT ∧ t167 + (101 : Int32).toNatClampNeg ≤ jT from ⟨ar_1 hci ei, ar_1 hcj ej⟩) dd_mm_init_218 (fun H hw => ?_)
  have hci : t166 + 1 + t171 = iT := ar_2 hci ei
  have hcj : t167 + (101 : Int32).toNatClampNeg + t172 = jT := ar_2 hcj ej
  clear ei ej
  generalize t166 + 1 = t173 at hci ⊢
  generalize t167 + (101 : Int32).toNatClampNeg = t174 at hcj ⊢
  generalize t169.2 = t170 at h ⊢
  have h := h
  generalize (st_ad t169 (.inl (0, (101 : Int32).toNatClampNeg, fun _ => 0))) = t175 at h hw
  obtain ⟨t176, hp220, h⟩ := st_w_some h
  refine rr_putF (ty := .array (.int)) X hw ff_10_31 hp220 tw_440 hnm (by decide +kernel) (rf_narA _ _) (rf_fitA _ _) dd_mm_init_220 (fun H locs hw => ?_)
  refine rr_aldn X dd_mm_init_223 rfl (lv_at hl.1 0 rfl) ?_
  refine lv_iconst (v := (4 : Int32)) X.1 X.2.1 dd_mm_init_224 (by decide) ?_
  obtain ⟨_, hz225, h⟩ := st_g_some h
  have hn225 := so_l_s hz225
  obtain ⟨t178, t179, h, ei, ej⟩ := st_n_some h
  refine rr_newi (t := 0) X hw rfl hn225.1 rfl hn225.2 tw_3 (show t173 + 1 ≤ iT ∧ t174 + (4 : Int32).toNatClampNeg ≤ jT from ⟨ar_1 hci ei, ar_1 hcj ej⟩) dd_mm_init_225 (fun H hw => ?_)
  have hci : t173 + 1 + t178 = iT := ar_2 hci ei
  have hcj : t174 + (4 : Int32).toNatClampNeg + t179 = jT := ar_2 hcj ej
  clear ei ej
  generalize t173 + 1 = t180 at hci ⊢
  generalize t174 + (4 : Int32).toNatClampNeg = t181 at hcj ⊢
  generalize t176.2 = t177 at h ⊢
  have h := h
  generalize (st_ad t176 (.inl (0, (4 : Int32).toNatClampNeg, fun _ => 0))) = t182 at h hw
  obtain ⟨t183, hp227, h⟩ := st_w_some h
  refine rr_putF (ty := .array (.int)) X hw ff_10_32 hp227 tw_439 hnm (by decide +kernel) (rf_narA _ _) (rf_fitA _ _) dd_mm_init_227 (fun H locs hw => ?_)
  refine rr_aldn X dd_mm_init_230 rfl (lv_at hl.1 0 rfl) ?_
  refine lv_bipush (v := (40 : Int32)) X.1 X.2.1 dd_mm_init_231 (by decide) ?_
  obtain ⟨_, hz233, h⟩ := st_g_some h
  have hn233 := so_l_s hz233
  obtain ⟨t185, t186, h, ei, ej⟩ := st_n_some h
  refine rr_newi (t := 0) X hw rfl hn233.1 rfl hn233.2 tw_3 (show t180 + 1 ≤ iT ∧ t181 + (40 : Int32).toNatClampNeg ≤ jT from ⟨ar_1 hci ei, ar_1 hcj ej⟩) dd_mm_init_233 (fun H hw => ?_)
  have hci : t180 + 1 + t185 = iT := ar_2 hci ei
  have hcj : t181 + (40 : Int32).toNatClampNeg + t186 = jT := ar_2 hcj ej
  clear ei ej
  generalize t180 + 1 = t187 at hci ⊢
  generalize t181 + (40 : Int32).toNatClampNeg = t188 at hcj ⊢
  generalize t183.2 = t184 at h ⊢
  have h := h
  generalize (st_ad t183 (.inl (0, (40 : Int32).toNatClampNeg, fun _ => 0))) = t189 at h hw
  obtain ⟨t190, hp235, h⟩ := st_w_some h
  refine rr_putF (ty := .array (.int)) X hw ff_10_33 hp235 tw_438 hnm (by decide +kernel) (rf_narA _ _) (rf_fitA _ _) dd_mm_init_235 (fun H locs hw => ?_)
  refine rr_aldn X dd_mm_init_238 rfl (lv_at hl.1 0 rfl) ?_
  refine lv_iload_n X.1 X.2.1 dd_mm_init_239 rfl (lv_at hl.1 1 rfl) ?_
  refine lv_iconst (v := (2 : Int32)) X.1 X.2.1 dd_mm_init_240 (by decide) ?_
  by_cases hc241 : (2 : Int32) ≤ v1
  · rw [if_pos hc241] at h
    refine lv_icmp_ge (tgt := 248) X.1 X.2.1 dd_mm_init_241 (by decide) (fun _ => ?_) (fun z => absurd hc241 z)
    refine lv_iload_n X.1 X.2.1 dd_mm_init_248 rfl (lv_at hl.1 1 rfl) ?_
    refine lv_iconst (v := (4 : Int32)) X.1 X.2.1 dd_mm_init_249 (by decide) ?_
    by_cases hc250 : v1 ≤ (4 : Int32)
    · rw [if_pos hc250] at h
      refine lv_icmp_le (tgt := 257) X.1 X.2.1 dd_mm_init_250 (by decide) (fun _ => ?_) (fun z => absurd hc250 z)
      refine lv_iload_n X.1 X.2.1 dd_mm_init_257 rfl (lv_at hl.1 1 rfl) ?_
      exact (kb_mm_init_b258 X hKs hlk hret hnm) (v0, v1, v0) _ _ _ _ _ _ _ _ hw (lh_pk hl [0] rfl) h hci hcj
    · rw [if_neg hc250] at h
      refine lv_icmp_le (tgt := 257) X.1 X.2.1 dd_mm_init_250 (by decide) (fun z => absurd z hc250) (fun _ => ?_)
      refine lv_iconst (v := (4 : Int32)) X.1 X.2.1 dd_mm_init_253 (by decide) ?_
      refine lv_goto (tgt := 258) X.1 X.2.1 dd_mm_init_254 (by decide) ?_
      exact (kb_mm_init_b258 X hKs hlk hret hnm) (v0, (4 : Int32), v0) _ _ _ _ _ _ _ _ hw (lh_pk hl [0] rfl) h hci hcj
  · rw [if_neg hc241] at h
    refine lv_icmp_ge (tgt := 248) X.1 X.2.1 dd_mm_init_241 (by decide) (fun z => absurd z hc241) (fun _ => ?_)
    refine lv_iconst (v := (2 : Int32)) X.1 X.2.1 dd_mm_init_244 (by decide) ?_
    refine lv_goto (tgt := 258) X.1 X.2.1 dd_mm_init_245 (by decide) ?_
    exact (kb_mm_init_b258 X hKs hlk hret hnm) (v0, (2 : Int32), v0) _ _ _ _ _ _ _ _ hw (lh_pk hl [0] rfl) h hci hcj
