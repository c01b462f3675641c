/-! PromiseVatsModel.sweep(I)I -/
theorem dd_mm_sweep_0 : decode prog_12_method_32_code 0 = .ok (.aload_n 0, 1) := by decide +kernel
theorem dd_mm_sweep_1 : decode prog_12_method_32_code 1 = .ok (.iload_n 1, 1) := by decide +kernel
theorem dd_mm_sweep_2 : decode prog_12_method_32_code 2 = .ok (.invokevirtual 115, 3) := by decide +kernel
theorem dd_mm_sweep_5 : decode prog_12_method_32_code 5 = .ok (.ifCond .ne 5, 3) := by decide +kernel
theorem dd_mm_sweep_8 : decode prog_12_method_32_code 8 = .ok (.iconst (-1), 1) := by decide +kernel
theorem dd_mm_sweep_9 : decode prog_12_method_32_code 9 = .ok (.ireturn, 1) := by decide +kernel
theorem dd_mm_sweep_10 : decode prog_12_method_32_code 10 = .ok (.iconst 1, 1) := by decide +kernel
theorem dd_mm_sweep_11 : decode prog_12_method_32_code 11 = .ok (.istore_n 2, 1) := by decide +kernel
theorem dd_mm_sweep_12 : decode prog_12_method_32_code 12 = .ok (.iload_n 2, 1) := by decide +kernel
theorem dd_mm_sweep_13 : decode prog_12_method_32_code 13 = .ok (.sipush 200, 3) := by decide +kernel
theorem dd_mm_sweep_16 : decode prog_12_method_32_code 16 = .ok (.if_icmp .gt 47, 3) := by decide +kernel
theorem dd_mm_sweep_19 : decode prog_12_method_32_code 19 = .ok (.aload_n 0, 1) := by decide +kernel
theorem dd_mm_sweep_20 : decode prog_12_method_32_code 20 = .ok (.getfield 33, 3) := by decide +kernel
theorem dd_mm_sweep_23 : decode prog_12_method_32_code 23 = .ok (.iload_n 2, 1) := by decide +kernel
theorem dd_mm_sweep_24 : decode prog_12_method_32_code 24 = .ok (.aload_n 0, 1) := by decide +kernel
theorem dd_mm_sweep_25 : decode prog_12_method_32_code 25 = .ok (.iload_n 2, 1) := by decide +kernel
theorem dd_mm_sweep_26 : decode prog_12_method_32_code 26 = .ok (.invokevirtual 193, 3) := by decide +kernel
theorem dd_mm_sweep_29 : decode prog_12_method_32_code 29 = .ok (.ifCond .eq 26, 3) := by decide +kernel
theorem dd_mm_sweep_32 : decode prog_12_method_32_code 32 = .ok (.aload_n 0, 1) := by decide +kernel
theorem dd_mm_sweep_33 : decode prog_12_method_32_code 33 = .ok (.getfield 19, 3) := by decide +kernel
theorem dd_mm_sweep_36 : decode prog_12_method_32_code 36 = .ok (.iload_n 2, 1) := by decide +kernel
theorem dd_mm_sweep_37 : decode prog_12_method_32_code 37 = .ok (.baload, 1) := by decide +kernel
theorem dd_mm_sweep_38 : decode prog_12_method_32_code 38 = .ok (.iload_n 1, 1) := by decide +kernel
theorem dd_mm_sweep_39 : decode prog_12_method_32_code 39 = .ok (.if_icmp .ne 16, 3) := by decide +kernel
theorem dd_mm_sweep_42 : decode prog_12_method_32_code 42 = .ok (.aload_n 0, 1) := by decide +kernel
theorem dd_mm_sweep_43 : decode prog_12_method_32_code 43 = .ok (.iload_n 1, 1) := by decide +kernel
theorem dd_mm_sweep_44 : decode prog_12_method_32_code 44 = .ok (.iload_n 2, 1) := by decide +kernel
theorem dd_mm_sweep_45 : decode prog_12_method_32_code 45 = .ok (.invokevirtual 199, 3) := by decide +kernel
theorem dd_mm_sweep_48 : decode prog_12_method_32_code 48 = .ok (.ifCond .eq 7, 3) := by decide +kernel
theorem dd_mm_sweep_51 : decode prog_12_method_32_code 51 = .ok (.iconst 1, 1) := by decide +kernel
theorem dd_mm_sweep_52 : decode prog_12_method_32_code 52 = .ok (.goto 4, 3) := by decide +kernel
theorem dd_mm_sweep_55 : decode prog_12_method_32_code 55 = .ok (.iconst 0, 1) := by decide +kernel
theorem dd_mm_sweep_56 : decode prog_12_method_32_code 56 = .ok (.bastore, 1) := by decide +kernel
theorem dd_mm_sweep_57 : decode prog_12_method_32_code 57 = .ok (.iinc 2 1, 3) := by decide +kernel
theorem dd_mm_sweep_60 : decode prog_12_method_32_code 60 = .ok (.goto (-48), 3) := by decide +kernel
theorem dd_mm_sweep_63 : decode prog_12_method_32_code 63 = .ok (.iconst 0, 1) := by decide +kernel
theorem dd_mm_sweep_64 : decode prog_12_method_32_code 64 = .ok (.istore_n 2, 1) := by decide +kernel
theorem dd_mm_sweep_65 : decode prog_12_method_32_code 65 = .ok (.iload_n 2, 1) := by decide +kernel
theorem dd_mm_sweep_66 : decode prog_12_method_32_code 66 = .ok (.aload_n 0, 1) := by decide +kernel
theorem dd_mm_sweep_67 : decode prog_12_method_32_code 67 = .ok (.getfield 144, 3) := by decide +kernel
theorem dd_mm_sweep_70 : decode prog_12_method_32_code 70 = .ok (.if_icmp .ge 78, 3) := by decide +kernel
theorem dd_mm_sweep_73 : decode prog_12_method_32_code 73 = .ok (.aload_n 0, 1) := by decide +kernel
theorem dd_mm_sweep_74 : decode prog_12_method_32_code 74 = .ok (.getfield 54, 3) := by decide +kernel
theorem dd_mm_sweep_77 : decode prog_12_method_32_code 77 = .ok (.iload_n 2, 1) := by decide +kernel
theorem dd_mm_sweep_78 : decode prog_12_method_32_code 78 = .ok (.iaload, 1) := by decide +kernel
theorem dd_mm_sweep_79 : decode prog_12_method_32_code 79 = .ok (.iload_n 1, 1) := by decide +kernel
theorem dd_mm_sweep_80 : decode prog_12_method_32_code 80 = .ok (.if_icmp .ne 26, 3) := by decide +kernel
theorem dd_mm_sweep_83 : decode prog_12_method_32_code 83 = .ok (.aload_n 0, 1) := by decide +kernel
theorem dd_mm_sweep_84 : decode prog_12_method_32_code 84 = .ok (.aload_n 0, 1) := by decide +kernel
theorem dd_mm_sweep_85 : decode prog_12_method_32_code 85 = .ok (.getfield 57, 3) := by decide +kernel
theorem dd_mm_sweep_88 : decode prog_12_method_32_code 88 = .ok (.iload_n 2, 1) := by decide +kernel
theorem dd_mm_sweep_89 : decode prog_12_method_32_code 89 = .ok (.iaload, 1) := by decide +kernel
theorem dd_mm_sweep_90 : decode prog_12_method_32_code 90 = .ok (.invokevirtual 196, 3) := by decide +kernel
theorem dd_mm_sweep_93 : decode prog_12_method_32_code 93 = .ok (.aload_n 0, 1) := by decide +kernel
theorem dd_mm_sweep_94 : decode prog_12_method_32_code 94 = .ok (.aload_n 0, 1) := by decide +kernel
theorem dd_mm_sweep_95 : decode prog_12_method_32_code 95 = .ok (.getfield 63, 3) := by decide +kernel
theorem dd_mm_sweep_98 : decode prog_12_method_32_code 98 = .ok (.iload_n 2, 1) := by decide +kernel
theorem dd_mm_sweep_99 : decode prog_12_method_32_code 99 = .ok (.iaload, 1) := by decide +kernel
theorem dd_mm_sweep_100 : decode prog_12_method_32_code 100 = .ok (.invokevirtual 196, 3) := by decide +kernel
theorem dd_mm_sweep_103 : decode prog_12_method_32_code 103 = .ok (.goto 39, 3) := by decide +kernel
theorem dd_mm_sweep_106 : decode prog_12_method_32_code 106 = .ok (.aload_n 0, 1) := by decide +kernel
theorem dd_mm_sweep_107 : decode prog_12_method_32_code 107 = .ok (.getfield 54, 3) := by decide +kernel
theorem dd_mm_sweep_110 : decode prog_12_method_32_code 110 = .ok (.iload_n 2, 1) := by decide +kernel
theorem dd_mm_sweep_111 : decode prog_12_method_32_code 111 = .ok (.iaload, 1) := by decide +kernel
theorem dd_mm_sweep_112 : decode prog_12_method_32_code 112 = .ok (.bipush 100, 2) := by decide +kernel
theorem dd_mm_sweep_114 : decode prog_12_method_32_code 114 = .ok (.if_icmp .le 28, 3) := by decide +kernel
theorem dd_mm_sweep_117 : decode prog_12_method_32_code 117 = .ok (.aload_n 0, 1) := by decide +kernel
theorem dd_mm_sweep_118 : decode prog_12_method_32_code 118 = .ok (.getfield 19, 3) := by decide +kernel
theorem dd_mm_sweep_121 : decode prog_12_method_32_code 121 = .ok (.aload_n 0, 1) := by decide +kernel
theorem dd_mm_sweep_122 : decode prog_12_method_32_code 122 = .ok (.getfield 54, 3) := by decide +kernel
theorem dd_mm_sweep_125 : decode prog_12_method_32_code 125 = .ok (.iload_n 2, 1) := by decide +kernel
theorem dd_mm_sweep_126 : decode prog_12_method_32_code 126 = .ok (.iaload, 1) := by decide +kernel
theorem dd_mm_sweep_127 : decode prog_12_method_32_code 127 = .ok (.baload, 1) := by decide +kernel
theorem dd_mm_sweep_128 : decode prog_12_method_32_code 128 = .ok (.iload_n 1, 1) := by decide +kernel
theorem dd_mm_sweep_129 : decode prog_12_method_32_code 129 = .ok (.if_icmp .ne 13, 3) := by decide +kernel
theorem dd_mm_sweep_132 : decode prog_12_method_32_code 132 = .ok (.aload_n 0, 1) := by decide +kernel
theorem dd_mm_sweep_133 : decode prog_12_method_32_code 133 = .ok (.aload_n 0, 1) := by decide +kernel
theorem dd_mm_sweep_134 : decode prog_12_method_32_code 134 = .ok (.getfield 54, 3) := by decide +kernel
theorem dd_mm_sweep_137 : decode prog_12_method_32_code 137 = .ok (.iload_n 2, 1) := by decide +kernel
theorem dd_mm_sweep_138 : decode prog_12_method_32_code 138 = .ok (.iaload, 1) := by decide +kernel
theorem dd_mm_sweep_139 : decode prog_12_method_32_code 139 = .ok (.invokevirtual 196, 3) := by decide +kernel
theorem dd_mm_sweep_142 : decode prog_12_method_32_code 142 = .ok (.iinc 2 1, 3) := by decide +kernel
theorem dd_mm_sweep_145 : decode prog_12_method_32_code 145 = .ok (.goto (-80), 3) := by decide +kernel
theorem dd_mm_sweep_148 : decode prog_12_method_32_code 148 = .ok (.aload_n 0, 1) := by decide +kernel
theorem dd_mm_sweep_149 : decode prog_12_method_32_code 149 = .ok (.iconst 1, 1) := by decide +kernel
theorem dd_mm_sweep_150 : decode prog_12_method_32_code 150 = .ok (.putfield 189, 3) := by decide +kernel
theorem dd_mm_sweep_153 : decode prog_12_method_32_code 153 = .ok (.iconst 0, 1) := by decide +kernel
theorem dd_mm_sweep_154 : decode prog_12_method_32_code 154 = .ok (.istore_n 2, 1) := by decide +kernel
theorem dd_mm_sweep_155 : decode prog_12_method_32_code 155 = .ok (.iload_n 2, 1) := by decide +kernel
theorem dd_mm_sweep_156 : decode prog_12_method_32_code 156 = .ok (.sipush 300, 3) := by decide +kernel
theorem dd_mm_sweep_159 : decode prog_12_method_32_code 159 = .ok (.if_icmp .ge 26, 3) := by decide +kernel
theorem dd_mm_sweep_162 : decode prog_12_method_32_code 162 = .ok (.aload_n 0, 1) := by decide +kernel
theorem dd_mm_sweep_163 : decode prog_12_method_32_code 163 = .ok (.getfield 189, 3) := by decide +kernel
theorem dd_mm_sweep_166 : decode prog_12_method_32_code 166 = .ok (.ifCond .eq 19, 3) := by decide +kernel
theorem dd_mm_sweep_169 : decode prog_12_method_32_code 169 = .ok (.aload_n 0, 1) := by decide +kernel
theorem dd_mm_sweep_170 : decode prog_12_method_32_code 170 = .ok (.iconst 0, 1) := by decide +kernel
theorem dd_mm_sweep_171 : decode prog_12_method_32_code 171 = .ok (.putfield 189, 3) := by decide +kernel
theorem dd_mm_sweep_174 : decode prog_12_method_32_code 174 = .ok (.aload_n 0, 1) := by decide +kernel
theorem dd_mm_sweep_175 : decode prog_12_method_32_code 175 = .ok (.iload_n 1, 1) := by decide +kernel
theorem dd_mm_sweep_176 : decode prog_12_method_32_code 176 = .ok (.invokevirtual 202, 3) := by decide +kernel
theorem dd_mm_sweep_179 : decode prog_12_method_32_code 179 = .ok (.iinc 2 1, 3) := by decide +kernel
theorem dd_mm_sweep_182 : decode prog_12_method_32_code 182 = .ok (.goto (-27), 3) := by decide +kernel
theorem dd_mm_sweep_185 : decode prog_12_method_32_code 185 = .ok (.iconst 0, 1) := by decide +kernel
theorem dd_mm_sweep_186 : decode prog_12_method_32_code 186 = .ok (.istore_n 2, 1) := by decide +kernel
theorem dd_mm_sweep_187 : decode prog_12_method_32_code 187 = .ok (.iconst 1, 1) := by decide +kernel
theorem dd_mm_sweep_188 : decode prog_12_method_32_code 188 = .ok (.istore_n 3, 1) := by decide +kernel
theorem dd_mm_sweep_189 : decode prog_12_method_32_code 189 = .ok (.iload_n 3, 1) := by decide +kernel
theorem dd_mm_sweep_190 : decode prog_12_method_32_code 190 = .ok (.sipush 200, 3) := by decide +kernel
theorem dd_mm_sweep_193 : decode prog_12_method_32_code 193 = .ok (.if_icmp .gt 46, 3) := by decide +kernel
theorem dd_mm_sweep_196 : decode prog_12_method_32_code 196 = .ok (.aload_n 0, 1) := by decide +kernel
theorem dd_mm_sweep_197 : decode prog_12_method_32_code 197 = .ok (.iload_n 3, 1) := by decide +kernel
theorem dd_mm_sweep_198 : decode prog_12_method_32_code 198 = .ok (.invokevirtual 193, 3) := by decide +kernel
theorem dd_mm_sweep_201 : decode prog_12_method_32_code 201 = .ok (.ifCond .eq 32, 3) := by decide +kernel
theorem dd_mm_sweep_204 : decode prog_12_method_32_code 204 = .ok (.aload_n 0, 1) := by decide +kernel
theorem dd_mm_sweep_205 : decode prog_12_method_32_code 205 = .ok (.getfield 19, 3) := by decide +kernel
theorem dd_mm_sweep_208 : decode prog_12_method_32_code 208 = .ok (.iload_n 3, 1) := by decide +kernel
theorem dd_mm_sweep_209 : decode prog_12_method_32_code 209 = .ok (.baload, 1) := by decide +kernel
theorem dd_mm_sweep_210 : decode prog_12_method_32_code 210 = .ok (.iload_n 1, 1) := by decide +kernel
theorem dd_mm_sweep_211 : decode prog_12_method_32_code 211 = .ok (.if_icmp .ne 22, 3) := by decide +kernel
theorem dd_mm_sweep_214 : decode prog_12_method_32_code 214 = .ok (.aload_n 0, 1) := by decide +kernel
theorem dd_mm_sweep_215 : decode prog_12_method_32_code 215 = .ok (.getfield 33, 3) := by decide +kernel
theorem dd_mm_sweep_218 : decode prog_12_method_32_code 218 = .ok (.iload_n 3, 1) := by decide +kernel
theorem dd_mm_sweep_219 : decode prog_12_method_32_code 219 = .ok (.baload, 1) := by decide +kernel
theorem dd_mm_sweep_220 : decode prog_12_method_32_code 220 = .ok (.ifCond .ne 13, 3) := by decide +kernel
theorem dd_mm_sweep_223 : decode prog_12_method_32_code 223 = .ok (.aload_n 0, 1) := by decide +kernel
theorem dd_mm_sweep_224 : decode prog_12_method_32_code 224 = .ok (.getfield 23, 3) := by decide +kernel
theorem dd_mm_sweep_227 : decode prog_12_method_32_code 227 = .ok (.iload_n 3, 1) := by decide +kernel
theorem dd_mm_sweep_228 : decode prog_12_method_32_code 228 = .ok (.iconst 1, 1) := by decide +kernel
theorem dd_mm_sweep_229 : decode prog_12_method_32_code 229 = .ok (.bastore, 1) := by decide +kernel
theorem dd_mm_sweep_230 : decode prog_12_method_32_code 230 = .ok (.iinc 2 1, 3) := by decide +kernel
theorem dd_mm_sweep_233 : decode prog_12_method_32_code 233 = .ok (.iinc 3 1, 3) := by decide +kernel
theorem dd_mm_sweep_236 : decode prog_12_method_32_code 236 = .ok (.goto (-47), 3) := by decide +kernel
theorem dd_mm_sweep_239 : decode prog_12_method_32_code 239 = .ok (.iconst 1, 1) := by decide +kernel
theorem dd_mm_sweep_240 : decode prog_12_method_32_code 240 = .ok (.istore_n 3, 1) := by decide +kernel
theorem dd_mm_sweep_241 : decode prog_12_method_32_code 241 = .ok (.iload_n 3, 1) := by decide +kernel
theorem dd_mm_sweep_242 : decode prog_12_method_32_code 242 = .ok (.sipush 200, 3) := by decide +kernel
theorem dd_mm_sweep_245 : decode prog_12_method_32_code 245 = .ok (.if_icmp .gt 66, 3) := by decide +kernel
theorem dd_mm_sweep_248 : decode prog_12_method_32_code 248 = .ok (.aload_n 0, 1) := by decide +kernel
theorem dd_mm_sweep_249 : decode prog_12_method_32_code 249 = .ok (.getfield 48, 3) := by decide +kernel
theorem dd_mm_sweep_252 : decode prog_12_method_32_code 252 = .ok (.iconst 4, 1) := by decide +kernel
theorem dd_mm_sweep_253 : decode prog_12_method_32_code 253 = .ok (.iload_n 3, 1) := by decide +kernel
theorem dd_mm_sweep_254 : decode prog_12_method_32_code 254 = .ok (.imul, 1) := by decide +kernel
theorem dd_mm_sweep_255 : decode prog_12_method_32_code 255 = .ok (.iload_n 1, 1) := by decide +kernel
theorem dd_mm_sweep_256 : decode prog_12_method_32_code 256 = .ok (.iadd, 1) := by decide +kernel
theorem dd_mm_sweep_257 : decode prog_12_method_32_code 257 = .ok (.iaload, 1) := by decide +kernel
theorem dd_mm_sweep_258 : decode prog_12_method_32_code 258 = .ok (.istore 4, 2) := by decide +kernel
theorem dd_mm_sweep_260 : decode prog_12_method_32_code 260 = .ok (.iload 4, 2) := by decide +kernel
theorem dd_mm_sweep_262 : decode prog_12_method_32_code 262 = .ok (.ifCond .le 43, 3) := by decide +kernel
theorem dd_mm_sweep_265 : decode prog_12_method_32_code 265 = .ok (.aload_n 0, 1) := by decide +kernel
theorem dd_mm_sweep_266 : decode prog_12_method_32_code 266 = .ok (.getfield 33, 3) := by decide +kernel
theorem dd_mm_sweep_269 : decode prog_12_method_32_code 269 = .ok (.iload_n 3, 1) := by decide +kernel
theorem dd_mm_sweep_270 : decode prog_12_method_32_code 270 = .ok (.baload, 1) := by decide +kernel
theorem dd_mm_sweep_271 : decode prog_12_method_32_code 271 = .ok (.ifCond .ne 34, 3) := by decide +kernel
theorem dd_mm_sweep_274 : decode prog_12_method_32_code 274 = .ok (.aload_n 0, 1) := by decide +kernel
theorem dd_mm_sweep_275 : decode prog_12_method_32_code 275 = .ok (.getfield 48, 3) := by decide +kernel
theorem dd_mm_sweep_278 : decode prog_12_method_32_code 278 = .ok (.iconst 4, 1) := by decide +kernel
theorem dd_mm_sweep_279 : decode prog_12_method_32_code 279 = .ok (.iload_n 3, 1) := by decide +kernel
theorem dd_mm_sweep_280 : decode prog_12_method_32_code 280 = .ok (.imul, 1) := by decide +kernel
theorem dd_mm_sweep_281 : decode prog_12_method_32_code 281 = .ok (.iload_n 1, 1) := by decide +kernel
theorem dd_mm_sweep_282 : decode prog_12_method_32_code 282 = .ok (.iadd, 1) := by decide +kernel
theorem dd_mm_sweep_283 : decode prog_12_method_32_code 283 = .ok (.iconst 0, 1) := by decide +kernel
theorem dd_mm_sweep_284 : decode prog_12_method_32_code 284 = .ok (.iastore, 1) := by decide +kernel
theorem dd_mm_sweep_285 : decode prog_12_method_32_code 285 = .ok (.aload_n 0, 1) := by decide +kernel
theorem dd_mm_sweep_286 : decode prog_12_method_32_code 286 = .ok (.iconst 3, 1) := by decide +kernel
theorem dd_mm_sweep_287 : decode prog_12_method_32_code 287 = .ok (.iconst 4, 1) := by decide +kernel
theorem dd_mm_sweep_288 : decode prog_12_method_32_code 288 = .ok (.iload_n 1, 1) := by decide +kernel
theorem dd_mm_sweep_289 : decode prog_12_method_32_code 289 = .ok (.imul, 1) := by decide +kernel
theorem dd_mm_sweep_290 : decode prog_12_method_32_code 290 = .ok (.aload_n 0, 1) := by decide +kernel
theorem dd_mm_sweep_291 : decode prog_12_method_32_code 291 = .ok (.getfield 19, 3) := by decide +kernel
theorem dd_mm_sweep_294 : decode prog_12_method_32_code 294 = .ok (.iload_n 3, 1) := by decide +kernel
theorem dd_mm_sweep_295 : decode prog_12_method_32_code 295 = .ok (.baload, 1) := by decide +kernel
theorem dd_mm_sweep_296 : decode prog_12_method_32_code 296 = .ok (.iadd, 1) := by decide +kernel
theorem dd_mm_sweep_297 : decode prog_12_method_32_code 297 = .ok (.iload_n 3, 1) := by decide +kernel
theorem dd_mm_sweep_298 : decode prog_12_method_32_code 298 = .ok (.iload 4, 2) := by decide +kernel
theorem dd_mm_sweep_300 : decode prog_12_method_32_code 300 = .ok (.iconst 0, 1) := by decide +kernel
theorem dd_mm_sweep_301 : decode prog_12_method_32_code 301 = .ok (.iconst 0, 1) := by decide +kernel
theorem dd_mm_sweep_302 : decode prog_12_method_32_code 302 = .ok (.invokevirtual 111, 3) := by decide +kernel
theorem dd_mm_sweep_305 : decode prog_12_method_32_code 305 = .ok (.iinc 3 1, 3) := by decide +kernel
theorem dd_mm_sweep_308 : decode prog_12_method_32_code 308 = .ok (.goto (-67), 3) := by decide +kernel
theorem dd_mm_sweep_311 : decode prog_12_method_32_code 311 = .ok (.iload_n 2, 1) := by decide +kernel
theorem dd_mm_sweep_312 : decode prog_12_method_32_code 312 = .ok (.ireturn, 1) := by decide +kernel
set_option maxHeartbeats 4000000 in
set_option maxRecDepth 100000 in
theorem kb_mm_sweep_b56 {p : Program} {l : Launch} {e : Env} {s : State} {m : MethodId} {args : Array Value} {below : List Frame} {meth : Method} {c : Code} {D : va_G} {ac : Nat → ClassId} {a0 : Nat} {gl : gl_T} {rF : Int32} {stF : st_S} {iT jT : Nat} {rec12 : Option Nat × Int32 × Int32 → st_M (Int32)}
    (X : cx_ p s m args c prog_12_method_32_code 5 "PromiseVatsModel" tb_ D cl_ (ty_ ac)) (hKs : kn_ D ac a0 gl s) (hlk : meth.locks = false) (hret : meth.sig.returnType = (Option.some FieldType.int)) (hnm : meth.name = "sweep") (hr12 : wk_ p l e 3 65 s m args below meth c D cl_ ac a0 5 vb_i rF stF iT jT 12 (fun x : Option Nat × Int32 × Int32 => [(0, (va_rf x.1)), (1, (.int x.2.1)), (2, (.int x.2.2))]) (fun x : Option Nat × Int32 × Int32 => []) rec12) : wk_ p l e 3 65 s m args below meth c D cl_ ac a0 5 vb_i rF stF iT jT 56 (fun x : Option Nat × Int32 × Int32 × Int32 × Int32 × Option Nat => [(0, (va_rf x.1)), (1, (.int x.2.1)), (2, (.int x.2.2.1))]) (fun x : Option Nat × Int32 × Int32 × Int32 × Int32 × Option Nat => [(.int x.2.2.2.1), (.int x.2.2.2.2.1), (va_rf x.2.2.2.2.2)]) (fun x : Option Nat × Int32 × Int32 × Int32 × Int32 × Option Nat => mm_sweep_b56 gl rec12 x.1 x.2.1 x.2.2.1 x.2.2.2.1 x.2.2.2.2.1 x.2.2.2.2.2) := by
  intro x st H locs cells slots i j ls hw hl h hci hcj
  obtain ⟨p0, p1, p2, q0, q1, q2⟩ := x
  have h : mm_sweep_b56 gl rec12 p0 p1 p2 q0 q1 q2 st = some (rF, stF, i, j) := h
  unfold mm_sweep_b56 at h
  have hl : lh_ ls 5 [(0, (va_rf p0)), (1, (.int p1)), (2, (.int p2))] := hl
  refine W.eq (g2 := F0 m 56 ls [(.int q0), (.int q1), (va_rf q2)]) rfl ?_
  obtain ⟨_, hz56, h⟩ := st_g_some h
  obtain ⟨t31, hp56, h⟩ := st_w_some h
  refine rr_zast (t := 2) X hw rfl hz56 hp56 dd_mm_sweep_56 (fun H locs hw => ?_)
  refine rr_iinc (k := 2) (v := (p2 + (1 : Int32))) (lv' := [(2, (.int (p2 + (1 : Int32)))), (0, (va_rf p0)), (1, (.int p1))]) X dd_mm_sweep_57 hl rfl (by rw [show Int32.ofInt (1) = (1 : Int32) from by decide]) (by decide) rfl (fun ls hl => ?_)
  refine lv_goto (tgt := 12) X.1 X.2.1 dd_mm_sweep_60 (by decide) ?_
  exact hr12 (p0, p1, (p2 + (1 : Int32))) _ _ _ _ _ _ _ _ hw (lh_pk hl [1, 2, 0] rfl) h hci hcj
set_option maxHeartbeats 4000000 in
set_option maxRecDepth 100000 in
theorem kb_mm_sweep_b55 {p : Program} {l : Launch} {e : Env} {s : State} {m : MethodId} {args : Array Value} {below : List Frame} {meth : Method} {c : Code} {D : va_G} {ac : Nat → ClassId} {a0 : Nat} {gl : gl_T} {rF : Int32} {stF : st_S} {iT jT : Nat} {rec12 : Option Nat × Int32 × Int32 → st_M (Int32)}
    (X : cx_ p s m args c prog_12_method_32_code 5 "PromiseVatsModel" tb_ D cl_ (ty_ ac)) (hKs : kn_ D ac a0 gl s) (hlk : meth.locks = false) (hret : meth.sig.returnType = (Option.some FieldType.int)) (hnm : meth.name = "sweep") (hr12 : wk_ p l e 3 65 s m args below meth c D cl_ ac a0 5 vb_i rF stF iT jT 12 (fun x : Option Nat × Int32 × Int32 => [(0, (va_rf x.1)), (1, (.int x.2.1)), (2, (.int x.2.2))]) (fun x : Option Nat × Int32 × Int32 => []) rec12) : wk_ p l e 3 65 s m args below meth c D cl_ ac a0 5 vb_i rF stF iT jT 55 (fun x : Option Nat × Int32 × Int32 × Int32 × Option Nat => [(0, (va_rf x.1)), (1, (.int x.2.1)), (2, (.int x.2.2.1))]) (fun x : Option Nat × Int32 × Int32 × Int32 × Option Nat => [(.int x.2.2.2.1), (va_rf x.2.2.2.2)]) (fun x : Option Nat × Int32 × Int32 × Int32 × Option Nat => mm_sweep_b55 gl rec12 x.1 x.2.1 x.2.2.1 x.2.2.2.1 x.2.2.2.2) := by
  intro x st H locs cells slots i j ls hw hl h hci hcj
  obtain ⟨p0, p1, p2, q0, q1⟩ := x
  have h : mm_sweep_b55 gl rec12 p0 p1 p2 q0 q1 st = some (rF, stF, i, j) := h
  unfold mm_sweep_b55 at h
  have hl : lh_ ls 5 [(0, (va_rf p0)), (1, (.int p1)), (2, (.int p2))] := hl
  refine W.eq (g2 := F0 m 55 ls [(.int q0), (va_rf q1)]) rfl ?_
  refine lv_iconst (v := (0 : Int32)) X.1 X.2.1 dd_mm_sweep_55 (by decide) ?_
  exact (kb_mm_sweep_b56 X hKs hlk hret hnm hr12) (p0, p1, p2, (0 : Int32), q0, q1) _ _ _ _ _ _ _ _ hw (lh_pk hl [0, 1, 2] rfl) h hci hcj
set_option maxHeartbeats 4000000 in
set_option maxRecDepth 100000 in
theorem kb_mm_sweep_b142 {p : Program} {l : Launch} {e : Env} {s : State} {m : MethodId} {args : Array Value} {below : List Frame} {meth : Method} {c : Code} {D : va_G} {ac : Nat → ClassId} {a0 : Nat} {gl : gl_T} {rF : Int32} {stF : st_S} {iT jT : Nat} {rec65 : Option Nat × Int32 × Int32 → st_M (Int32)}
    (X : cx_ p s m args c prog_12_method_32_code 5 "PromiseVatsModel" tb_ D cl_ (ty_ ac)) (hKs : kn_ D ac a0 gl s) (hlk : meth.locks = false) (hret : meth.sig.returnType = (Option.some FieldType.int)) (hnm : meth.name = "sweep") (hr65 : wk_ p l e 3 65 s m args below meth c D cl_ ac a0 5 vb_i rF stF iT jT 65 (fun x : Option Nat × Int32 × Int32 => [(0, (va_rf x.1)), (1, (.int x.2.1)), (2, (.int x.2.2))]) (fun x : Option Nat × Int32 × Int32 => []) rec65) : wk_ p l e 3 65 s m args below meth c D cl_ ac a0 5 vb_i rF stF iT jT 142 (fun x : Option Nat × Int32 × Int32 => [(0, (va_rf x.1)), (1, (.int x.2.1)), (2, (.int x.2.2))]) (fun x : Option Nat × Int32 × Int32 => []) (fun x : Option Nat × Int32 × Int32 => mm_sweep_b142 gl rec65 x.1 x.2.1 x.2.2) := by
  intro x st H locs cells slots i j ls hw hl h hci hcj
  obtain ⟨p0, p1, p2⟩ := x
  have h : mm_sweep_b142 gl rec65 p0 p1 p2 st = some (rF, stF, i, j) := h
  unfold mm_sweep_b142 at h
  have hl : lh_ ls 5 [(0, (va_rf p0)), (1, (.int p1)), (2, (.int p2))] := hl
  refine W.eq (g2 := F0 m 142 ls []) rfl ?_
  refine rr_iinc (k := 2) (v := (p2 + (1 : Int32))) (lv' := [(2, (.int (p2 + (1 : Int32)))), (0, (va_rf p0)), (1, (.int p1))]) X dd_mm_sweep_142 hl rfl (by rw [show Int32.ofInt (1) = (1 : Int32) from by decide]) (by decide) rfl (fun ls hl => ?_)
  refine lv_goto (tgt := 65) X.1 X.2.1 dd_mm_sweep_145 (by decide) ?_
  exact hr65 (p0, p1, (p2 + (1 : Int32))) _ _ _ _ _ _ _ _ hw (lh_pk hl [1, 2, 0] rfl) h hci hcj
set_option maxHeartbeats 4000000 in
set_option maxRecDepth 100000 in
theorem kb_mm_sweep_b233 {p : Program} {l : Launch} {e : Env} {s : State} {m : MethodId} {args : Array Value} {below : List Frame} {meth : Method} {c : Code} {D : va_G} {ac : Nat → ClassId} {a0 : Nat} {gl : gl_T} {rF : Int32} {stF : st_S} {iT jT : Nat} {rec189 : Option Nat × Int32 × Int32 × Int32 → st_M (Int32)}
    (X : cx_ p s m args c prog_12_method_32_code 5 "PromiseVatsModel" tb_ D cl_ (ty_ ac)) (hKs : kn_ D ac a0 gl s) (hlk : meth.locks = false) (hret : meth.sig.returnType = (Option.some FieldType.int)) (hnm : meth.name = "sweep") (hr189 : wk_ p l e 3 65 s m args below meth c D cl_ ac a0 5 vb_i rF stF iT jT 189 (fun x : Option Nat × Int32 × Int32 × Int32 => [(0, (va_rf x.1)), (1, (.int x.2.1)), (2, (.int x.2.2.1)), (3, (.int x.2.2.2))]) (fun x : Option Nat × Int32 × Int32 × Int32 => []) rec189) : wk_ p l e 3 65 s m args below meth c D cl_ ac a0 5 vb_i rF stF iT jT 233 (fun x : Option Nat × Int32 × Int32 × Int32 => [(0, (va_rf x.1)), (1, (.int x.2.1)), (2, (.int x.2.2.1)), (3, (.int x.2.2.2))]) (fun x : Option Nat × Int32 × Int32 × Int32 => []) (fun x : Option Nat × Int32 × Int32 × Int32 => mm_sweep_b233 gl rec189 x.1 x.2.1 x.2.2.1 x.2.2.2) := by
  intro x st H locs cells slots i j ls hw hl h hci hcj
  obtain ⟨p0, p1, p2, p3⟩ := x
  have h : mm_sweep_b233 gl rec189 p0 p1 p2 p3 st = some (rF, stF, i, j) := h
  unfold mm_sweep_b233 at h
  have hl : lh_ ls 5 [(0, (va_rf p0)), (1, (.int p1)), (2, (.int p2)), (3, (.int p3))] := hl
  refine W.eq (g2 := F0 m 233 ls []) rfl ?_
  refine rr_iinc (k := 3) (v := (p3 + (1 : Int32))) (lv' := [(3, (.int (p3 + (1 : Int32)))), (0, (va_rf p0)), (1, (.int p1)), (2, (.int p2))]) X dd_mm_sweep_233 hl rfl (by rw [show Int32.ofInt (1) = (1 : Int32) from by decide]) (by decide) rfl (fun ls hl => ?_)
  refine lv_goto (tgt := 189) X.1 X.2.1 dd_mm_sweep_236 (by decide) ?_
  exact hr189 (p0, p1, p2, (p3 + (1 : Int32))) _ _ _ _ _ _ _ _ hw (lh_pk hl [1, 2, 3, 0] rfl) h hci hcj
set_option maxHeartbeats 4000000 in
set_option maxRecDepth 100000 in
theorem kb_mm_sweep_b305 {p : Program} {l : Launch} {e : Env} {s : State} {m : MethodId} {args : Array Value} {below : List Frame} {meth : Method} {c : Code} {D : va_G} {ac : Nat → ClassId} {a0 : Nat} {gl : gl_T} {rF : Int32} {stF : st_S} {iT jT : Nat} {rec241 : Option Nat × Int32 × Int32 × Int32 → st_M (Int32)}
    (X : cx_ p s m args c prog_12_method_32_code 5 "PromiseVatsModel" tb_ D cl_ (ty_ ac)) (hKs : kn_ D ac a0 gl s) (hlk : meth.locks = false) (hret : meth.sig.returnType = (Option.some FieldType.int)) (hnm : meth.name = "sweep") (hr241 : wk_ p l e 3 65 s m args below meth c D cl_ ac a0 5 vb_i rF stF iT jT 241 (fun x : Option Nat × Int32 × Int32 × Int32 => [(0, (va_rf x.1)), (1, (.int x.2.1)), (2, (.int x.2.2.1)), (3, (.int x.2.2.2))]) (fun x : Option Nat × Int32 × Int32 × Int32 => []) rec241) : wk_ p l e 3 65 s m args below meth c D cl_ ac a0 5 vb_i rF stF iT jT 305 (fun x : Option Nat × Int32 × Int32 × Int32 => [(0, (va_rf x.1)), (1, (.int x.2.1)), (2, (.int x.2.2.1)), (3, (.int x.2.2.2))]) (fun x : Option Nat × Int32 × Int32 × Int32 => []) (fun x : Option Nat × Int32 × Int32 × Int32 => mm_sweep_b305 gl rec241 x.1 x.2.1 x.2.2.1 x.2.2.2) := by
  intro x st H locs cells slots i j ls hw hl h hci hcj
  obtain ⟨p0, p1, p2, p3⟩ := x
  have h : mm_sweep_b305 gl rec241 p0 p1 p2 p3 st = some (rF, stF, i, j) := h
  unfold mm_sweep_b305 at h
  have hl : lh_ ls 5 [(0, (va_rf p0)), (1, (.int p1)), (2, (.int p2)), (3, (.int p3))] := hl
  refine W.eq (g2 := F0 m 305 ls []) rfl ?_
  refine rr_iinc (k := 3) (v := (p3 + (1 : Int32))) (lv' := [(3, (.int (p3 + (1 : Int32)))), (0, (va_rf p0)), (1, (.int p1)), (2, (.int p2))]) X dd_mm_sweep_305 hl rfl (by rw [show Int32.ofInt (1) = (1 : Int32) from by decide]) (by decide) rfl (fun ls hl => ?_)
  refine lv_goto (tgt := 241) X.1 X.2.1 dd_mm_sweep_308 (by decide) ?_
  exact hr241 (p0, p1, p2, (p3 + (1 : Int32))) _ _ _ _ _ _ _ _ hw (lh_pk hl [1, 2, 3, 0] rfl) h hci hcj
set_option maxHeartbeats 4000000 in
set_option maxRecDepth 100000 in
theorem kb_mm_sweep_b241 {p : Program} {l : Launch} {e : Env} {s : State} {m : MethodId} {args : Array Value} {below : List Frame} {meth : Method} {c : Code} {D : va_G} {ac : Nat → ClassId} {a0 : Nat} {gl : gl_T} {rF : Int32} {stF : st_S} {iT jT : Nat}
    (X : cx_ p s m args c prog_12_method_32_code 5 "PromiseVatsModel" tb_ D cl_ (ty_ ac)) (hKs : kn_ D ac a0 gl s) (hlk : meth.locks = false) (hret : meth.sig.returnType = (Option.some FieldType.int)) (hnm : meth.name = "sweep") : wk_ p l e 3 65 s m args below meth c D cl_ ac a0 5 vb_i rF stF iT jT 241 (fun x : Option Nat × Int32 × Int32 × Int32 => [(0, (va_rf x.1)), (1, (.int x.2.1)), (2, (.int x.2.2.1)), (3, (.int x.2.2.2))]) (fun x : Option Nat × Int32 × Int32 × Int32 => []) (st_it (fun rec241 => (fun x : Option Nat × Int32 × Int32 × Int32 => mm_sweep_b241 gl rec241 x.1 x.2.1 x.2.2.1 x.2.2.2)) fu_) := by
  refine wk_it ?_ _
  intro rec241 hr241 x st H locs cells slots i j ls hw hl h hci hcj
  obtain ⟨p0, p1, p2, p3⟩ := x
  have h : mm_sweep_b241 gl rec241 p0 p1 p2 p3 st = some (rF, stF, i, j) := h
  unfold mm_sweep_b241 at h
  have hl : lh_ ls 5 [(0, (va_rf p0)), (1, (.int p1)), (2, (.int p2)), (3, (.int p3))] := hl
  refine W.eq (g2 := F0 m 241 ls []) rfl ?_
  refine lv_iload_n X.1 X.2.1 dd_mm_sweep_241 rfl (lv_at hl.1 3 rfl) ?_
  refine lv_sipush (v := (200 : Int32)) X.1 X.2.1 dd_mm_sweep_242 (by decide) ?_
  by_cases hc245 : (200 : Int32) < p3
  · rw [if_pos hc245] at h
    refine lv_icmp_gt (tgt := 311) X.1 X.2.1 dd_mm_sweep_245 (by decide) (fun _ => ?_) (fun z => absurd hc245 z)
    refine lv_iload_n X.1 X.2.1 dd_mm_sweep_311 rfl (lv_at hl.1 2 rfl) ?_
    obtain ⟨rfl, rfl, rfl, rfl⟩ := st_r_some h
    exact rr_iret X hw hlk hret rfl hci hcj dd_mm_sweep_312
  · rw [if_neg hc245] at h
    refine lv_icmp_gt (tgt := 311) X.1 X.2.1 dd_mm_sweep_245 (by decide) (fun z => absurd z hc245) (fun _ => ?_)
    refine rr_aldn X dd_mm_sweep_248 rfl (lv_at hl.1 0 rfl) ?_
    obtain ⟨t101, ht101, h⟩ := st_g_some h
    refine rr_getq X hw ff_10_16 ht101 tw_452 (Or.inl rfl) dd_mm_sweep_249 ?_
    refine lv_iconst (v := (4 : Int32)) X.1 X.2.1 dd_mm_sweep_252 (by decide) ?_
    refine lv_iload_n X.1 X.2.1 dd_mm_sweep_253 rfl (lv_at hl.1 3 rfl) ?_
    refine lv_imul X.1 X.2.1 dd_mm_sweep_254 ?_
    refine lv_iload_n X.1 X.2.1 dd_mm_sweep_255 rfl (lv_at hl.1 1 rfl) ?_
    refine lv_iadd X.1 X.2.1 dd_mm_sweep_256 ?_
    obtain ⟨t102, ht102, h⟩ := st_g_some h
    refine rr_iald (t := 0) X hw rfl ht102 dd_mm_sweep_257 ?_
    refine rr_ist (lv' := [(4, (.int t102)), (0, (va_rf p0)), (1, (.int p1)), (2, (.int p2)), (3, (.int p3))]) X dd_mm_sweep_258 hl (by decide) rfl (fun ls hl => ?_)
    refine lv_iload X.1 X.2.1 dd_mm_sweep_260 (lv_at hl.1 0 rfl) ?_
    by_cases hc262 : t102 ≤ 0
    · rw [if_pos hc262] at h
      refine lv_if_le (tgt := 305) X.1 X.2.1 dd_mm_sweep_262 (by decide) (fun _ => ?_) (fun z => absurd hc262 z)
      exact (kb_mm_sweep_b305 X hKs hlk hret hnm hr241) (p0, p1, p2, p3) _ _ _ _ _ _ _ _ hw (lh_pk hl [1, 2, 3, 4] rfl) h hci hcj
    · rw [if_neg hc262] at h
      refine lv_if_le (tgt := 305) X.1 X.2.1 dd_mm_sweep_262 (by decide) (fun z => absurd z hc262) (fun _ => ?_)
      refine rr_aldn X dd_mm_sweep_265 rfl (lv_at hl.1 1 rfl) ?_
      obtain ⟨t103, ht103, h⟩ := st_g_some h
      refine rr_getq X hw ff_10_10 ht103 tw_457 (Or.inl rfl) dd_mm_sweep_266 ?_
      refine lv_iload_n X.1 X.2.1 dd_mm_sweep_269 rfl (lv_at hl.1 4 rfl) ?_
      obtain ⟨t104, ht104, h⟩ := st_g_some h
      refine rr_zald (t := 2) X hw rfl ht104 dd_mm_sweep_270 ?_
      by_cases hc271 : t104 = 0
      · rw [if_pos hc271] at h
        refine lv_if_ne (tgt := 305) X.1 X.2.1 dd_mm_sweep_271 (by decide) (fun z => absurd hc271 z) (fun _ => ?_)
        refine rr_aldn X dd_mm_sweep_274 rfl (lv_at hl.1 1 rfl) ?_
        obtain ⟨t105, ht105, h⟩ := st_g_some h
        refine rr_getq X hw ff_10_16 ht105 tw_452 (Or.inl rfl) dd_mm_sweep_275 ?_
        refine lv_iconst (v := (4 : Int32)) X.1 X.2.1 dd_mm_sweep_278 (by decide) ?_
        refine lv_iload_n X.1 X.2.1 dd_mm_sweep_279 rfl (lv_at hl.1 4 rfl) ?_
        refine lv_imul X.1 X.2.1 dd_mm_sweep_280 ?_
        refine lv_iload_n X.1 X.2.1 dd_mm_sweep_281 rfl (lv_at hl.1 2 rfl) ?_
        refine lv_iadd X.1 X.2.1 dd_mm_sweep_282 ?_
        refine lv_iconst (v := (0 : Int32)) X.1 X.2.1 dd_mm_sweep_283 (by decide) ?_
        obtain ⟨t106, hp284, h⟩ := st_w_some h
        refine rr_iast (t := 0) X hw rfl hp284 dd_mm_sweep_284 (fun H locs hw => ?_)
        refine rr_aldn X dd_mm_sweep_285 rfl (lv_at hl.1 1 rfl) ?_
        refine lv_iconst (v := (3 : Int32)) X.1 X.2.1 dd_mm_sweep_286 (by decide) ?_
        refine lv_iconst (v := (4 : Int32)) X.1 X.2.1 dd_mm_sweep_287 (by decide) ?_
        refine lv_iload_n X.1 X.2.1 dd_mm_sweep_288 rfl (lv_at hl.1 2 rfl) ?_
        refine lv_imul X.1 X.2.1 dd_mm_sweep_289 ?_
        refine rr_aldn X dd_mm_sweep_290 rfl (lv_at hl.1 1 rfl) ?_
        obtain ⟨t107, ht107, h⟩ := st_g_some h
        refine rr_getq X hw ff_10_6 ht107 tw_461 (Or.inl rfl) dd_mm_sweep_291 ?_
        refine lv_iload_n X.1 X.2.1 dd_mm_sweep_294 rfl (lv_at hl.1 4 rfl) ?_
        obtain ⟨t108, ht108, h⟩ := st_g_some h
        refine rr_bald (t := 1) X hw rfl ht108 dd_mm_sweep_295 ?_
        refine lv_iadd X.1 X.2.1 dd_mm_sweep_296 ?_
        refine lv_iload_n X.1 X.2.1 dd_mm_sweep_297 rfl (lv_at hl.1 4 rfl) ?_
        refine lv_iload X.1 X.2.1 dd_mm_sweep_298 (lv_at hl.1 0 rfl) ?_
        refine lv_iconst (v := (0 : Int32)) X.1 X.2.1 dd_mm_sweep_300 (by decide) ?_
        refine lv_iconst (v := (0 : Int32)) X.1 X.2.1 dd_mm_sweep_301 (by decide) ?_
        obtain ⟨t117, ht117, h⟩ := st_g_some h
        obtain ⟨t109, t110, t111, t112, t113, t114, ht109, h, ei, ej⟩ := st_b_some h
        refine rr_callV (n := 6) (As := [(.int (3 : Int32)), (.int (((4 : Int32) * p1) + t108)), (.int p3), (.int t102), (.int (0 : Int32)), (.int (0 : Int32))]) (rest := []) X hw (kn_ok D ac a0 gl) hKs (kc_mm_post l D ac a0 gl p0 (3 : Int32) (((4 : Int32) * p1) + t108) p3 t102 (0 : Int32) (0 : Int32) _ _ _ _ _ ht109) tb_good tw_470 tw_469 tw_471 tw_472 se_43 ht117 (by decide +kernel) rfl (show 0 + 1 ≤ _ ∧ 8 + (7 + 11) + 0 ≤ _ from ⟨Nat.le_of_ble_eq_true rfl, Nat.le_of_ble_eq_true rfl⟩) (show cells + t111 ≤ iT ∧ slots + t112 ≤ jT from ⟨ar_1 hci ei, ar_1 hcj ej⟩) hl.1.1 (by simp [rf_cat, ic_cat]) rfl dd_mm_sweep_302 (sk := []) rfl (fun H locs hw => ?_)
        have hci : cells + t111 + t113 = iT := ar_2 hci ei
        have hcj : slots + t112 + t114 = jT := ar_2 hcj ej
        clear ei ej
        generalize cells + t111 = t115 at hci ⊢
        generalize slots + t112 = t116 at hcj ⊢
        exact (kb_mm_sweep_b305 X hKs hlk hret hnm hr241) (p0, p1, p2, p3) _ _ _ _ _ _ _ _ hw (lh_pk hl [1, 2, 3, 4] rfl) h hci hcj
      · rw [if_neg hc271] at h
        refine lv_if_ne (tgt := 305) X.1 X.2.1 dd_mm_sweep_271 (by decide) (fun _ => ?_) (fun z => absurd z hc271)
        exact (kb_mm_sweep_b305 X hKs hlk hret hnm hr241) (p0, p1, p2, p3) _ _ _ _ _ _ _ _ hw (lh_pk hl [1, 2, 3, 4] rfl) h hci hcj
set_option maxHeartbeats 4000000 in
set_option maxRecDepth 100000 in
theorem kb_mm_sweep_b189 {p : Program} {l : Launch} {e : Env} {s : State} {m : MethodId} {args : Array Value} {below : List Frame} {meth : Method} {c : Code} {D : va_G} {ac : Nat → ClassId} {a0 : Nat} {gl : gl_T} {rF : Int32} {stF : st_S} {iT jT : Nat}
    (X : cx_ p s m args c prog_12_method_32_code 5 "PromiseVatsModel" tb_ D cl_ (ty_ ac)) (hKs : kn_ D ac a0 gl s) (hlk : meth.locks = false) (hret : meth.sig.returnType = (Option.some FieldType.int)) (hnm : meth.name = "sweep") : wk_ p l e 3 65 s m args below meth c D cl_ ac a0 5 vb_i rF stF iT jT 189 (fun x : Option Nat × Int32 × Int32 × Int32 => [(0, (va_rf x.1)), (1, (.int x.2.1)), (2, (.int x.2.2.1)), (3, (.int x.2.2.2))]) (fun x : Option Nat × Int32 × Int32 × Int32 => []) (st_it (fun rec189 => (fun x : Option Nat × Int32 × Int32 × Int32 => mm_sweep_b189 gl rec189 x.1 x.2.1 x.2.2.1 x.2.2.2)) fu_) := by
  refine wk_it ?_ _
  intro rec189 hr189 x st H locs cells slots i j ls hw hl h hci hcj
  obtain ⟨p0, p1, p2, p3⟩ := x
  have h : mm_sweep_b189 gl rec189 p0 p1 p2 p3 st = some (rF, stF, i, j) := h
  unfold mm_sweep_b189 at h
  have hl : lh_ ls 5 [(0, (va_rf p0)), (1, (.int p1)), (2, (.int p2)), (3, (.int p3))] := hl
  refine W.eq (g2 := F0 m 189 ls []) rfl ?_
  refine lv_iload_n X.1 X.2.1 dd_mm_sweep_189 rfl (lv_at hl.1 3 rfl) ?_
  refine lv_sipush (v := (200 : Int32)) X.1 X.2.1 dd_mm_sweep_190 (by decide) ?_
  by_cases hc193 : (200 : Int32) < p3
  · rw [if_pos hc193] at h
    refine lv_icmp_gt (tgt := 239) X.1 X.2.1 dd_mm_sweep_193 (by decide) (fun _ => ?_) (fun z => absurd hc193 z)
    refine lv_iconst (v := (1 : Int32)) X.1 X.2.1 dd_mm_sweep_239 (by decide) ?_
    refine rr_istn (lv' := [(3, (.int (1 : Int32))), (0, (va_rf p0)), (1, (.int p1)), (2, (.int p2))]) X dd_mm_sweep_240 rfl hl (by decide) rfl (fun ls hl => ?_)
    exact (kb_mm_sweep_b241 X hKs hlk hret hnm) (p0, p1, p2, (1 : Int32)) _ _ _ _ _ _ _ _ hw (lh_pk hl [1, 2, 3, 0] rfl) h hci hcj
  · rw [if_neg hc193] at h
    refine lv_icmp_gt (tgt := 239) X.1 X.2.1 dd_mm_sweep_193 (by decide) (fun z => absurd z hc193) (fun _ => ?_)
    refine rr_aldn X dd_mm_sweep_196 rfl (lv_at hl.1 0 rfl) ?_
    refine lv_iload_n X.1 X.2.1 dd_mm_sweep_197 rfl (lv_at hl.1 3 rfl) ?_
    obtain ⟨t100, ht100, h⟩ := st_g_some h
    obtain ⟨t86, t87, t88, t89, t90, t91, ht86, h, ei, ej⟩ := st_b_some h
    refine rr_callV (n := 1) (As := [(.int p3)]) (rest := []) X hw (kn_ok D ac a0 gl) hKs (kc_mm_lives l D ac a0 gl p0 p3 _ _ _ _ _ ht86) tb_good tw_556 tw_469 tw_557 tw_558 se_63 ht100 (by decide +kernel) rfl (show 1 + 1 ≤ _ ∧ 8 + (2 + 11) + 21 ≤ _ from ⟨Nat.le_of_ble_eq_true rfl, Nat.le_of_ble_eq_true rfl⟩) (show cells + t88 ≤ iT ∧ slots + t89 ≤ jT from ⟨ar_1 hci ei, ar_1 hcj ej⟩) hl.1.1 (by simp [rf_cat, ic_cat]) rfl dd_mm_sweep_198 (sk := [(.int t86)]) rfl (fun H locs hw => ?_)
    have hci : cells + t88 + t90 = iT := ar_2 hci ei
    have hcj : slots + t89 + t91 = jT := ar_2 hcj ej
    clear ei ej
    generalize cells + t88 = t92 at hci ⊢
    generalize slots + t89 = t93 at hcj ⊢
    by_cases hc201 : t86 = 0
    · rw [if_pos hc201] at h
      refine lv_if_eq (tgt := 233) X.1 X.2.1 dd_mm_sweep_201 (by decide) (fun _ => ?_) (fun z => absurd hc201 z)
      exact (kb_mm_sweep_b233 X hKs hlk hret hnm hr189) (p0, p1, p2, p3) _ _ _ _ _ _ _ _ hw (lh_pk hl [0, 1, 2, 3] rfl) h hci hcj
    · rw [if_neg hc201] at h
      refine lv_if_eq (tgt := 233) X.1 X.2.1 dd_mm_sweep_201 (by decide) (fun z => absurd z hc201) (fun _ => ?_)
      refine rr_aldn X dd_mm_sweep_204 rfl (lv_at hl.1 0 rfl) ?_
      obtain ⟨t94, ht94, h⟩ := st_g_some h
      refine rr_getq X hw ff_10_6 ht94 tw_461 (Or.inl rfl) dd_mm_sweep_205 ?_
      refine lv_iload_n X.1 X.2.1 dd_mm_sweep_208 rfl (lv_at hl.1 3 rfl) ?_
      obtain ⟨t95, ht95, h⟩ := st_g_some h
      refine rr_bald (t := 1) X hw rfl ht95 dd_mm_sweep_209 ?_
      refine lv_iload_n X.1 X.2.1 dd_mm_sweep_210 rfl (lv_at hl.1 1 rfl) ?_
      by_cases hc211 : t95 = p1
      · rw [if_pos hc211] at h
        refine lv_icmp_ne (tgt := 233) X.1 X.2.1 dd_mm_sweep_211 (by decide) (fun z => absurd hc211 z) (fun _ => ?_)
        refine rr_aldn X dd_mm_sweep_214 rfl (lv_at hl.1 0 rfl) ?_
        obtain ⟨t96, ht96, h⟩ := st_g_some h
        refine rr_getq X hw ff_10_10 ht96 tw_457 (Or.inl rfl) dd_mm_sweep_215 ?_
        refine lv_iload_n X.1 X.2.1 dd_mm_sweep_218 rfl (lv_at hl.1 3 rfl) ?_
        obtain ⟨t97, ht97, h⟩ := st_g_some h
        refine rr_zald (t := 2) X hw rfl ht97 dd_mm_sweep_219 ?_
        by_cases hc220 : t97 = 0
        · rw [if_pos hc220] at h
          refine lv_if_ne (tgt := 233) X.1 X.2.1 dd_mm_sweep_220 (by decide) (fun z => absurd hc220 z) (fun _ => ?_)
          refine rr_aldn X dd_mm_sweep_223 rfl (lv_at hl.1 0 rfl) ?_
          obtain ⟨t98, ht98, h⟩ := st_g_some h
          refine rr_getq X hw ff_10_7 ht98 tw_460 (Or.inl rfl) dd_mm_sweep_224 ?_
          refine lv_iload_n X.1 X.2.1 dd_mm_sweep_227 rfl (lv_at hl.1 3 rfl) ?_
          refine lv_iconst (v := (1 : Int32)) X.1 X.2.1 dd_mm_sweep_228 (by decide) ?_
          obtain ⟨_, hz229, h⟩ := st_g_some h
          obtain ⟨t99, hp229, h⟩ := st_w_some h
          refine rr_zast (t := 2) X hw rfl hz229 hp229 dd_mm_sweep_229 (fun H locs hw => ?_)
          refine rr_iinc (k := 2) (v := (p2 + (1 : Int32))) (lv' := [(2, (.int (p2 + (1 : Int32)))), (0, (va_rf p0)), (1, (.int p1)), (3, (.int p3))]) X dd_mm_sweep_230 hl rfl (by rw [show Int32.ofInt (1) = (1 : Int32) from by decide]) (by decide) rfl (fun ls hl => ?_)
          exact (kb_mm_sweep_b233 X hKs hlk hret hnm hr189) (p0, p1, (p2 + (1 : Int32)), p3) _ _ _ _ _ _ _ _ hw (lh_pk hl [1, 2, 0, 3] rfl) h hci hcj
        · rw [if_neg hc220] at h
          refine lv_if_ne (tgt := 233) X.1 X.2.1 dd_mm_sweep_220 (by decide) (fun _ => ?_) (fun z => absurd z hc220)
          exact (kb_mm_sweep_b233 X hKs hlk hret hnm hr189) (p0, p1, p2, p3) _ _ _ _ _ _ _ _ hw (lh_pk hl [0, 1, 2, 3] rfl) h hci hcj
      · rw [if_neg hc211] at h
        refine lv_icmp_ne (tgt := 233) X.1 X.2.1 dd_mm_sweep_211 (by decide) (fun _ => ?_) (fun z => absurd z hc211)
        exact (kb_mm_sweep_b233 X hKs hlk hret hnm hr189) (p0, p1, p2, p3) _ _ _ _ _ _ _ _ hw (lh_pk hl [0, 1, 2, 3] rfl) h hci hcj
set_option maxHeartbeats 4000000 in
set_option maxRecDepth 100000 in
theorem kb_mm_sweep_b185 {p : Program} {l : Launch} {e : Env} {s : State} {m : MethodId} {args : Array Value} {below : List Frame} {meth : Method} {c : Code} {D : va_G} {ac : Nat → ClassId} {a0 : Nat} {gl : gl_T} {rF : Int32} {stF : st_S} {iT jT : Nat}
    (X : cx_ p s m args c prog_12_method_32_code 5 "PromiseVatsModel" tb_ D cl_ (ty_ ac)) (hKs : kn_ D ac a0 gl s) (hlk : meth.locks = false) (hret : meth.sig.returnType = (Option.some FieldType.int)) (hnm : meth.name = "sweep") : wk_ p l e 3 65 s m args below meth c D cl_ ac a0 5 vb_i rF stF iT jT 185 (fun x : Option Nat × Int32 => [(0, (va_rf x.1)), (1, (.int x.2))]) (fun x : Option Nat × Int32 => []) (fun x : Option Nat × Int32 => mm_sweep_b185 gl x.1 x.2) := by
  intro x st H locs cells slots i j ls hw hl h hci hcj
  obtain ⟨p0, p1⟩ := x
  have h : mm_sweep_b185 gl p0 p1 st = some (rF, stF, i, j) := h
  unfold mm_sweep_b185 at h
  have hl : lh_ ls 5 [(0, (va_rf p0)), (1, (.int p1))] := hl
  refine W.eq (g2 := F0 m 185 ls []) rfl ?_
  refine lv_iconst (v := (0 : Int32)) X.1 X.2.1 dd_mm_sweep_185 (by decide) ?_
  refine rr_istn (lv' := [(2, (.int (0 : Int32))), (0, (va_rf p0)), (1, (.int p1))]) X dd_mm_sweep_186 rfl hl (by decide) rfl (fun ls hl => ?_)
  refine lv_iconst (v := (1 : Int32)) X.1 X.2.1 dd_mm_sweep_187 (by decide) ?_
  refine rr_istn (lv' := [(3, (.int (1 : Int32))), (2, (.int (0 : Int32))), (0, (va_rf p0)), (1, (.int p1))]) X dd_mm_sweep_188 rfl hl (by decide) rfl (fun ls hl => ?_)
  exact (kb_mm_sweep_b189 X hKs hlk hret hnm) (p0, p1, (0 : Int32), (1 : Int32)) _ _ _ _ _ _ _ _ hw (lh_pk hl [2, 3, 1, 0] rfl) h hci hcj
set_option maxHeartbeats 4000000 in
set_option maxRecDepth 100000 in
theorem kb_mm_sweep_b155 {p : Program} {l : Launch} {e : Env} {s : State} {m : MethodId} {args : Array Value} {below : List Frame} {meth : Method} {c : Code} {D : va_G} {ac : Nat → ClassId} {a0 : Nat} {gl : gl_T} {rF : Int32} {stF : st_S} {iT jT : Nat}
    (X : cx_ p s m args c prog_12_method_32_code 5 "PromiseVatsModel" tb_ D cl_ (ty_ ac)) (hKs : kn_ D ac a0 gl s) (hlk : meth.locks = false) (hret : meth.sig.returnType = (Option.some FieldType.int)) (hnm : meth.name = "sweep") : wk_ p l e 3 65 s m args below meth c D cl_ ac a0 5 vb_i rF stF iT jT 155 (fun x : Option Nat × Int32 × Int32 => [(0, (va_rf x.1)), (1, (.int x.2.1)), (2, (.int x.2.2))]) (fun x : Option Nat × Int32 × Int32 => []) (st_it (fun rec155 => (fun x : Option Nat × Int32 × Int32 => mm_sweep_b155 gl rec155 x.1 x.2.1 x.2.2)) fu_) := by
  refine wk_it ?_ _
  intro rec155 hr155 x st H locs cells slots i j ls hw hl h hci hcj
  obtain ⟨p0, p1, p2⟩ := x
  have h : mm_sweep_b155 gl rec155 p0 p1 p2 st = some (rF, stF, i, j) := h
  unfold mm_sweep_b155 at h
  have hl : lh_ ls 5 [(0, (va_rf p0)), (1, (.int p1)), (2, (.int p2))] := hl
  refine W.eq (g2 := F0 m 155 ls []) rfl ?_
  refine lv_iload_n X.1 X.2.1 dd_mm_sweep_155 rfl (lv_at hl.1 2 rfl) ?_
  refine lv_sipush (v := (300 : Int32)) X.1 X.2.1 dd_mm_sweep_156 (by decide) ?_
  by_cases hc159 : (300 : Int32) ≤ p2
  · rw [if_pos hc159] at h
    refine lv_icmp_ge (tgt := 185) X.1 X.2.1 dd_mm_sweep_159 (by decide) (fun _ => ?_) (fun z => absurd hc159 z)
    exact (kb_mm_sweep_b185 X hKs hlk hret hnm) (p0, p1) _ _ _ _ _ _ _ _ hw (lh_pk hl [0, 1] rfl) h hci hcj
  · rw [if_neg hc159] at h
    refine lv_icmp_ge (tgt := 185) X.1 X.2.1 dd_mm_sweep_159 (by decide) (fun z => absurd z hc159) (fun _ => ?_)
    refine rr_aldn X dd_mm_sweep_162 rfl (lv_at hl.1 0 rfl) ?_
    obtain ⟨t75, ht75, h⟩ := st_g_some h
    refine rr_geti X hw ff_10_14 ht75 tw_555 (Or.inl rfl) dd_mm_sweep_163 ?_
    by_cases hc166 : t75 = 0
    · rw [if_pos hc166] at h
      refine lv_if_eq (tgt := 185) X.1 X.2.1 dd_mm_sweep_166 (by decide) (fun _ => ?_) (fun z => absurd hc166 z)
      exact (kb_mm_sweep_b185 X hKs hlk hret hnm) (p0, p1) _ _ _ _ _ _ _ _ hw (lh_pk hl [0, 1] rfl) h hci hcj
    · rw [if_neg hc166] at h
      refine lv_if_eq (tgt := 185) X.1 X.2.1 dd_mm_sweep_166 (by decide) (fun z => absurd z hc166) (fun _ => ?_)
      refine rr_aldn X dd_mm_sweep_169 rfl (lv_at hl.1 0 rfl) ?_
      refine lv_iconst (v := (0 : Int32)) X.1 X.2.1 dd_mm_sweep_170 (by decide) ?_
      obtain ⟨t76, hp171, h⟩ := st_w_some h
      refine rr_put (ty := .boolean) X hw ff_10_14 hp171 tw_555 (Or.inl rfl) (by decide +kernel) (by decide) (by decide) dd_mm_sweep_171 (fun H locs hw => ?_)
      refine rr_aldn X dd_mm_sweep_174 rfl (lv_at hl.1 0 rfl) ?_
      refine lv_iload_n X.1 X.2.1 dd_mm_sweep_175 rfl (lv_at hl.1 1 rfl) ?_
      obtain ⟨t85, ht85, h⟩ := st_g_some h
      obtain ⟨t77, t78, t79, t80, t81, t82, ht77, h, ei, ej⟩ := st_b_some h
      refine rr_callV (n := 1) (As := [(.int p1)]) (rest := []) X hw (kn_ok D ac a0 gl) hKs (kc_mm_spread l D ac a0 gl p0 p1 _ _ _ _ _ ht77) tb_good tw_568 tw_469 tw_569 tw_570 se_66 ht85 (by decide +kernel) rfl (show 2 + 1 ≤ _ ∧ 8 + (4 + 11) + 42 ≤ _ from ⟨Nat.le_of_ble_eq_true rfl, Nat.le_of_ble_eq_true rfl⟩) (show cells + t79 ≤ iT ∧ slots + t80 ≤ jT from ⟨ar_1 hci ei, ar_1 hcj ej⟩) hl.1.1 (by simp [rf_cat, ic_cat]) rfl dd_mm_sweep_176 (sk := []) rfl (fun H locs hw => ?_)
      have hci : cells + t79 + t81 = iT := ar_2 hci ei
      have hcj : slots + t80 + t82 = jT := ar_2 hcj ej
      clear ei ej
      generalize cells + t79 = t83 at hci ⊢
      generalize slots + t80 = t84 at hcj ⊢
      refine rr_iinc (k := 2) (v := (p2 + (1 : Int32))) (lv' := [(2, (.int (p2 + (1 : Int32)))), (0, (va_rf p0)), (1, (.int p1))]) X dd_mm_sweep_179 hl rfl (by rw [show Int32.ofInt (1) = (1 : Int32) from by decide]) (by decide) rfl (fun ls hl => ?_)
      refine lv_goto (tgt := 155) X.1 X.2.1 dd_mm_sweep_182 (by decide) ?_
      exact hr155 (p0, p1, (p2 + (1 : Int32))) _ _ _ _ _ _ _ _ hw (lh_pk hl [1, 2, 0] rfl) h hci hcj
set_option maxHeartbeats 4000000 in
set_option maxRecDepth 100000 in
theorem kb_mm_sweep_b65 {p : Program} {l : Launch} {e : Env} {s : State} {m : MethodId} {args : Array Value} {below : List Frame} {meth : Method} {c : Code} {D : va_G} {ac : Nat → ClassId} {a0 : Nat} {gl : gl_T} {rF : Int32} {stF : st_S} {iT jT : Nat}
    (X : cx_ p s m args c prog_12_method_32_code 5 "PromiseVatsModel" tb_ D cl_ (ty_ ac)) (hKs : kn_ D ac a0 gl s) (hlk : meth.locks = false) (hret : meth.sig.returnType = (Option.some FieldType.int)) (hnm : meth.name = "sweep") : wk_ p l e 3 65 s m args below meth c D cl_ ac a0 5 vb_i rF stF iT jT 65 (fun x : Option Nat × Int32 × Int32 => [(0, (va_rf x.1)), (1, (.int x.2.1)), (2, (.int x.2.2))]) (fun x : Option Nat × Int32 × Int32 => []) (st_it (fun rec65 => (fun x : Option Nat × Int32 × Int32 => mm_sweep_b65 gl rec65 x.1 x.2.1 x.2.2)) fu_) := by
  refine wk_it ?_ _
  intro rec65 hr65 x st H locs cells slots i j ls hw hl h hci hcj
  obtain ⟨p0, p1, p2⟩ := x
  have h : mm_sweep_b65 gl rec65 p0 p1 p2 st = some (rF, stF, i, j) := h
  unfold mm_sweep_b65 at h
  have hl : lh_ ls 5 [(0, (va_rf p0)), (1, (.int p1)), (2, (.int p2))] := hl
  refine W.eq (g2 := F0 m 65 ls []) rfl ?_
  refine lv_iload_n X.1 X.2.1 dd_mm_sweep_65 rfl (lv_at hl.1 2 rfl) ?_
  refine rr_aldn X dd_mm_sweep_66 rfl (lv_at hl.1 0 rfl) ?_
  obtain ⟨t32, ht32, h⟩ := st_g_some h
  refine rr_geti X hw ff_10_18 ht32 tw_474 (Or.inl rfl) dd_mm_sweep_67 ?_
  by_cases hc70 : t32 ≤ p2
  · rw [if_pos hc70] at h
    refine lv_icmp_ge (tgt := 148) X.1 X.2.1 dd_mm_sweep_70 (by decide) (fun _ => ?_) (fun z => absurd hc70 z)
    refine rr_aldn X dd_mm_sweep_148 rfl (lv_at hl.1 0 rfl) ?_
    refine lv_iconst (v := (1 : Int32)) X.1 X.2.1 dd_mm_sweep_149 (by decide) ?_
    obtain ⟨t33, hp150, h⟩ := st_w_some h
    refine rr_put (ty := .boolean) X hw ff_10_14 hp150 tw_555 (Or.inl rfl) (by decide +kernel) (by decide) (by decide) dd_mm_sweep_150 (fun H locs hw => ?_)
    refine lv_iconst (v := (0 : Int32)) X.1 X.2.1 dd_mm_sweep_153 (by decide) ?_
    refine rr_istn (lv' := [(2, (.int (0 : Int32))), (0, (va_rf p0)), (1, (.int p1))]) X dd_mm_sweep_154 rfl hl (by decide) rfl (fun ls hl => ?_)
    exact (kb_mm_sweep_b155 X hKs hlk hret hnm) (p0, p1, (0 : Int32)) _ _ _ _ _ _ _ _ hw (lh_pk hl [1, 2, 0] rfl) h hci hcj
  · rw [if_neg hc70] at h
    refine lv_icmp_ge (tgt := 148) X.1 X.2.1 dd_mm_sweep_70 (by decide) (fun z => absurd z hc70) (fun _ => ?_)
    refine rr_aldn X dd_mm_sweep_73 rfl (lv_at hl.1 0 rfl) ?_
    obtain ⟨t34, ht34, h⟩ := st_g_some h
    refine rr_getq X hw ff_10_19 ht34 tw_450 (Or.inl rfl) dd_mm_sweep_74 ?_
    refine lv_iload_n X.1 X.2.1 dd_mm_sweep_77 rfl (lv_at hl.1 2 rfl) ?_
    obtain ⟨t35, ht35, h⟩ := st_g_some h
    refine rr_iald (t := 0) X hw rfl ht35 dd_mm_sweep_78 ?_
    refine lv_iload_n X.1 X.2.1 dd_mm_sweep_79 rfl (lv_at hl.1 1 rfl) ?_
    by_cases hc80 : t35 = p1
    · rw [if_pos hc80] at h
      refine lv_icmp_ne (tgt := 106) X.1 X.2.1 dd_mm_sweep_80 (by decide) (fun z => absurd hc80 z) (fun _ => ?_)
      refine rr_aldn X dd_mm_sweep_83 rfl (lv_at hl.1 0 rfl) ?_
      refine rr_aldn X dd_mm_sweep_84 rfl (lv_at hl.1 0 rfl) ?_
      obtain ⟨t36, ht36, h⟩ := st_g_some h
      refine rr_getq X hw ff_10_20 ht36 tw_449 (Or.inl rfl) dd_mm_sweep_85 ?_
      refine lv_iload_n X.1 X.2.1 dd_mm_sweep_88 rfl (lv_at hl.1 2 rfl) ?_
      obtain ⟨t37, ht37, h⟩ := st_g_some h
      refine rr_iald (t := 0) X hw rfl ht37 dd_mm_sweep_89 ?_
      obtain ⟨t57, ht57, h⟩ := st_g_some h
      obtain ⟨t38, t39, t40, t41, t42, t43, ht38, h, ei, ej⟩ := st_b_some h
      refine rr_callV (n := 1) (As := [(.int t37)]) (rest := []) X hw (kn_ok D ac a0 gl) hKs (kc_mm_mark l D ac a0 gl p0 t37 _ _ _ _ _ ht38) tb_good tw_560 tw_469 tw_561 tw_562 se_64 ht57 (by decide +kernel) rfl (show 0 + 1 ≤ _ ∧ 8 + (2 + 11) + 0 ≤ _ from ⟨Nat.le_of_ble_eq_true rfl, Nat.le_of_ble_eq_true rfl⟩) (show cells + t40 ≤ iT ∧ slots + t41 ≤ jT from ⟨ar_1 hci ei, ar_1 hcj ej⟩) hl.1.1 (by simp [rf_cat, ic_cat]) rfl dd_mm_sweep_90 (sk := []) rfl (fun H locs hw => ?_)
      have hci : cells + t40 + t42 = iT := ar_2 hci ei
      have hcj : slots + t41 + t43 = jT := ar_2 hcj ej
      clear ei ej
      generalize cells + t40 = t44 at hci ⊢
      generalize slots + t41 = t45 at hcj ⊢
      refine rr_aldn X dd_mm_sweep_93 rfl (lv_at hl.1 0 rfl) ?_
      refine rr_aldn X dd_mm_sweep_94 rfl (lv_at hl.1 0 rfl) ?_
      obtain ⟨t46, ht46, h⟩ := st_g_some h
      refine rr_getq X hw ff_10_22 ht46 tw_447 (Or.inl rfl) dd_mm_sweep_95 ?_
      refine lv_iload_n X.1 X.2.1 dd_mm_sweep_98 rfl (lv_at hl.1 2 rfl) ?_
      obtain ⟨t47, ht47, h⟩ := st_g_some h
      refine rr_iald (t := 0) X hw rfl ht47 dd_mm_sweep_99 ?_
      obtain ⟨t56, ht56, h⟩ := st_g_some h
      obtain ⟨t48, t49, t50, t51, t52, t53, ht48, h, ei, ej⟩ := st_b_some h
      refine rr_callV (n := 1) (As := [(.int t47)]) (rest := []) X hw (kn_ok D ac a0 gl) hKs (kc_mm_mark l D ac a0 gl p0 t47 _ _ _ _ _ ht48) tb_good tw_560 tw_469 tw_561 tw_562 se_64 ht56 (by decide +kernel) rfl (show 0 + 1 ≤ _ ∧ 8 + (2 + 11) + 0 ≤ _ from ⟨Nat.le_of_ble_eq_true rfl, Nat.le_of_ble_eq_true rfl⟩) (show t44 + t50 ≤ iT ∧ t45 + t51 ≤ jT from ⟨ar_1 hci ei, ar_1 hcj ej⟩) hl.1.1 (by simp [rf_cat, ic_cat]) rfl dd_mm_sweep_100 (sk := []) rfl (fun H locs hw => ?_)
      have hci : t44 + t50 + t52 = iT := ar_2 hci ei
      have hcj : t45 + t51 + t53 = jT := ar_2 hcj ej
      clear ei ej
      generalize t44 + t50 = t54 at hci ⊢
      generalize t45 + t51 = t55 at hcj ⊢
      refine lv_goto (tgt := 142) X.1 X.2.1 dd_mm_sweep_103 (by decide) ?_
      exact (kb_mm_sweep_b142 X hKs hlk hret hnm hr65) (p0, p1, p2) _ _ _ _ _ _ _ _ hw (lh_pk hl [0, 1, 2] rfl) h hci hcj
    · rw [if_neg hc80] at h
      refine lv_icmp_ne (tgt := 106) X.1 X.2.1 dd_mm_sweep_80 (by decide) (fun _ => ?_) (fun z => absurd z hc80)
      refine rr_aldn X dd_mm_sweep_106 rfl (lv_at hl.1 0 rfl) ?_
      obtain ⟨t58, ht58, h⟩ := st_g_some h
      refine rr_getq X hw ff_10_19 ht58 tw_450 (Or.inl rfl) dd_mm_sweep_107 ?_
      refine lv_iload_n X.1 X.2.1 dd_mm_sweep_110 rfl (lv_at hl.1 2 rfl) ?_
      obtain ⟨t59, ht59, h⟩ := st_g_some h
      refine rr_iald (t := 0) X hw rfl ht59 dd_mm_sweep_111 ?_
      refine lv_bipush (v := (100 : Int32)) X.1 X.2.1 dd_mm_sweep_112 (by decide) ?_
      by_cases hc114 : t59 ≤ (100 : Int32)
      · rw [if_pos hc114] at h
        refine lv_icmp_le (tgt := 142) X.1 X.2.1 dd_mm_sweep_114 (by decide) (fun _ => ?_) (fun z => absurd hc114 z)
        exact (kb_mm_sweep_b142 X hKs hlk hret hnm hr65) (p0, p1, p2) _ _ _ _ _ _ _ _ hw (lh_pk hl [0, 1, 2] rfl) h hci hcj
      · rw [if_neg hc114] at h
        refine lv_icmp_le (tgt := 142) X.1 X.2.1 dd_mm_sweep_114 (by decide) (fun z => absurd z hc114) (fun _ => ?_)
        refine rr_aldn X dd_mm_sweep_117 rfl (lv_at hl.1 0 rfl) ?_
        obtain ⟨t60, ht60, h⟩ := st_g_some h
        refine rr_getq X hw ff_10_6 ht60 tw_461 (Or.inl rfl) dd_mm_sweep_118 ?_
        refine rr_aldn X dd_mm_sweep_121 rfl (lv_at hl.1 0 rfl) ?_
        obtain ⟨t61, ht61, h⟩ := st_g_some h
        refine rr_getq X hw ff_10_19 ht61 tw_450 (Or.inl rfl) dd_mm_sweep_122 ?_
        refine lv_iload_n X.1 X.2.1 dd_mm_sweep_125 rfl (lv_at hl.1 2 rfl) ?_
        obtain ⟨t62, ht62, h⟩ := st_g_some h
        refine rr_iald (t := 0) X hw rfl ht62 dd_mm_sweep_126 ?_
        obtain ⟨t63, ht63, h⟩ := st_g_some h
        refine rr_bald (t := 1) X hw rfl ht63 dd_mm_sweep_127 ?_
        refine lv_iload_n X.1 X.2.1 dd_mm_sweep_128 rfl (lv_at hl.1 1 rfl) ?_
        by_cases hc129 : t63 = p1
        · rw [if_pos hc129] at h
          refine lv_icmp_ne (tgt := 142) X.1 X.2.1 dd_mm_sweep_129 (by decide) (fun z => absurd hc129 z) (fun _ => ?_)
          refine rr_aldn X dd_mm_sweep_132 rfl (lv_at hl.1 0 rfl) ?_
          refine rr_aldn X dd_mm_sweep_133 rfl (lv_at hl.1 0 rfl) ?_
          obtain ⟨t64, ht64, h⟩ := st_g_some h
          refine rr_getq X hw ff_10_19 ht64 tw_450 (Or.inl rfl) dd_mm_sweep_134 ?_
          refine lv_iload_n X.1 X.2.1 dd_mm_sweep_137 rfl (lv_at hl.1 2 rfl) ?_
          obtain ⟨t65, ht65, h⟩ := st_g_some h
          refine rr_iald (t := 0) X hw rfl ht65 dd_mm_sweep_138 ?_
          obtain ⟨t74, ht74, h⟩ := st_g_some h
          obtain ⟨t66, t67, t68, t69, t70, t71, ht66, h, ei, ej⟩ := st_b_some h
          refine rr_callV (n := 1) (As := [(.int t65)]) (rest := []) X hw (kn_ok D ac a0 gl) hKs (kc_mm_mark l D ac a0 gl p0 t65 _ _ _ _ _ ht66) tb_good tw_560 tw_469 tw_561 tw_562 se_64 ht74 (by decide +kernel) rfl (show 0 + 1 ≤ _ ∧ 8 + (2 + 11) + 0 ≤ _ from ⟨Nat.le_of_ble_eq_true rfl, Nat.le_of_ble_eq_true rfl⟩) (show cells + t68 ≤ iT ∧ slots + t69 ≤ jT from ⟨ar_1 hci ei, ar_1 hcj ej⟩) hl.1.1 (by simp [rf_cat, ic_cat]) rfl dd_mm_sweep_139 (sk := []) rfl (fun H locs hw => ?_)
          have hci : cells + t68 + t70 = iT := ar_2 hci ei
          have hcj : slots + t69 + t71 = jT := ar_2 hcj ej
          clear ei ej
          generalize cells + t68 = t72 at hci ⊢
          generalize slots + t69 = t73 at hcj ⊢
          exact (kb_mm_sweep_b142 X hKs hlk hret hnm hr65) (p0, p1, p2) _ _ _ _ _ _ _ _ hw (lh_pk hl [0, 1, 2] rfl) h hci hcj
        · rw [if_neg hc129] at h
          refine lv_icmp_ne (tgt := 142) X.1 X.2.1 dd_mm_sweep_129 (by decide) (fun _ => ?_) (fun z => absurd z hc129)
          exact (kb_mm_sweep_b142 X hKs hlk hret hnm hr65) (p0, p1, p2) _ _ _ _ _ _ _ _ hw (lh_pk hl [0, 1, 2] rfl) h hci hcj
set_option maxHeartbeats 4000000 in
set_option maxRecDepth 100000 in
theorem kb_mm_sweep_b12 {p : Program} {l : Launch} {e : Env} {s : State} {m : MethodId} {args : Array Value} {below : List Frame} {meth : Method} {c : Code} {D : va_G} {ac : Nat → ClassId} {a0 : Nat} {gl : gl_T} {rF : Int32} {stF : st_S} {iT jT : Nat}
    (X : cx_ p s m args c prog_12_method_32_code 5 "PromiseVatsModel" tb_ D cl_ (ty_ ac)) (hKs : kn_ D ac a0 gl s) (hlk : meth.locks = false) (hret : meth.sig.returnType = (Option.some FieldType.int)) (hnm : meth.name = "sweep") : wk_ p l e 3 65 s m args below meth c D cl_ ac a0 5 vb_i rF stF iT jT 12 (fun x : Option Nat × Int32 × Int32 => [(0, (va_rf x.1)), (1, (.int x.2.1)), (2, (.int x.2.2))]) (fun x : Option Nat × Int32 × Int32 => []) (st_it (fun rec12 => (fun x : Option Nat × Int32 × Int32 => mm_sweep_b12 gl rec12 x.1 x.2.1 x.2.2)) fu_) := by
  refine wk_it ?_ _
  intro rec12 hr12 x st H locs cells slots i j ls hw hl h hci hcj
  obtain ⟨p0, p1, p2⟩ := x
  have h : mm_sweep_b12 gl rec12 p0 p1 p2 st = some (rF, stF, i, j) := h
  unfold mm_sweep_b12 at h
  have hl : lh_ ls 5 [(0, (va_rf p0)), (1, (.int p1)), (2, (.int p2))] := hl
  refine W.eq (g2 := F0 m 12 ls []) rfl ?_
  refine lv_iload_n X.1 X.2.1 dd_mm_sweep_12 rfl (lv_at hl.1 2 rfl) ?_
  refine lv_sipush (v := (200 : Int32)) X.1 X.2.1 dd_mm_sweep_13 (by decide) ?_
  by_cases hc16 : (200 : Int32) < p2
  · rw [if_pos hc16] at h
    refine lv_icmp_gt (tgt := 63) X.1 X.2.1 dd_mm_sweep_16 (by decide) (fun _ => ?_) (fun z => absurd hc16 z)
    refine lv_iconst (v := (0 : Int32)) X.1 X.2.1 dd_mm_sweep_63 (by decide) ?_
    refine rr_istn (lv' := [(2, (.int (0 : Int32))), (0, (va_rf p0)), (1, (.int p1))]) X dd_mm_sweep_64 rfl hl (by decide) rfl (fun ls hl => ?_)
    exact (kb_mm_sweep_b65 X hKs hlk hret hnm) (p0, p1, (0 : Int32)) _ _ _ _ _ _ _ _ hw (lh_pk hl [1, 2, 0] rfl) h hci hcj
  · rw [if_neg hc16] at h
    refine lv_icmp_gt (tgt := 63) X.1 X.2.1 dd_mm_sweep_16 (by decide) (fun z => absurd z hc16) (fun _ => ?_)
    refine rr_aldn X dd_mm_sweep_19 rfl (lv_at hl.1 0 rfl) ?_
    obtain ⟨t10, ht10, h⟩ := st_g_some h
    refine rr_getq X hw ff_10_10 ht10 tw_457 (Or.inl rfl) dd_mm_sweep_20 ?_
    refine lv_iload_n X.1 X.2.1 dd_mm_sweep_23 rfl (lv_at hl.1 2 rfl) ?_
    refine rr_aldn X dd_mm_sweep_24 rfl (lv_at hl.1 0 rfl) ?_
    refine lv_iload_n X.1 X.2.1 dd_mm_sweep_25 rfl (lv_at hl.1 2 rfl) ?_
    obtain ⟨t30, ht30, h⟩ := st_g_some h
    obtain ⟨t11, t12, t13, t14, t15, t16, ht11, h, ei, ej⟩ := st_b_some h
    refine rr_callV (n := 1) (As := [(.int p2)]) (rest := [(.int p2), (va_rf t10)]) X hw (kn_ok D ac a0 gl) hKs (kc_mm_lives l D ac a0 gl p0 p2 _ _ _ _ _ ht11) tb_good tw_556 tw_469 tw_557 tw_558 se_63 ht30 (by decide +kernel) rfl (show 1 + 1 ≤ _ ∧ 8 + (2 + 11) + 21 ≤ _ from ⟨Nat.le_of_ble_eq_true rfl, Nat.le_of_ble_eq_true rfl⟩) (show cells + t13 ≤ iT ∧ slots + t14 ≤ jT from ⟨ar_1 hci ei, ar_1 hcj ej⟩) hl.1.1 (by simp [rf_cat, ic_cat]) rfl dd_mm_sweep_26 (sk := [(.int t11), (.int p2), (va_rf t10)]) rfl (fun H locs hw => ?_)
    have hci : cells + t13 + t15 = iT := ar_2 hci ei
    have hcj : slots + t14 + t16 = jT := ar_2 hcj ej
    clear ei ej
    generalize cells + t13 = t17 at hci ⊢
    generalize slots + t14 = t18 at hcj ⊢
    by_cases hc29 : t11 = 0
    · rw [if_pos hc29] at h
      refine lv_if_eq (tgt := 55) X.1 X.2.1 dd_mm_sweep_29 (by decide) (fun _ => ?_) (fun z => absurd hc29 z)
      exact (kb_mm_sweep_b55 X hKs hlk hret hnm hr12) (p0, p1, p2, p2, t10) _ _ _ _ _ _ _ _ hw (lh_pk hl [0, 1, 2] rfl) h hci hcj
    · rw [if_neg hc29] at h
      refine lv_if_eq (tgt := 55) X.1 X.2.1 dd_mm_sweep_29 (by decide) (fun z => absurd z hc29) (fun _ => ?_)
      refine rr_aldn X dd_mm_sweep_32 rfl (lv_at hl.1 0 rfl) ?_
      obtain ⟨t19, ht19, h⟩ := st_g_some h
      refine rr_getq X hw ff_10_6 ht19 tw_461 (Or.inl rfl) dd_mm_sweep_33 ?_
      refine lv_iload_n X.1 X.2.1 dd_mm_sweep_36 rfl (lv_at hl.1 2 rfl) ?_
      obtain ⟨t20, ht20, h⟩ := st_g_some h
      refine rr_bald (t := 1) X hw rfl ht20 dd_mm_sweep_37 ?_
      refine lv_iload_n X.1 X.2.1 dd_mm_sweep_38 rfl (lv_at hl.1 1 rfl) ?_
      by_cases hc39 : t20 = p1
      · rw [if_pos hc39] at h
        refine lv_icmp_ne (tgt := 55) X.1 X.2.1 dd_mm_sweep_39 (by decide) (fun z => absurd hc39 z) (fun _ => ?_)
        refine rr_aldn X dd_mm_sweep_42 rfl (lv_at hl.1 0 rfl) ?_
        refine lv_iload_n X.1 X.2.1 dd_mm_sweep_43 rfl (lv_at hl.1 1 rfl) ?_
        refine lv_iload_n X.1 X.2.1 dd_mm_sweep_44 rfl (lv_at hl.1 2 rfl) ?_
        obtain ⟨t29, ht29, h⟩ := st_g_some h
        obtain ⟨t21, t22, t23, t24, t25, t26, ht21, h, ei, ej⟩ := st_b_some h
        refine rr_callV (n := 2) (As := [(.int p1), (.int p2)]) (rest := [(.int p2), (va_rf t10)]) X hw (kn_ok D ac a0 gl) hKs (kc_mm_rooted l D ac a0 gl p0 p1 p2 _ _ _ _ _ ht21) tb_good tw_564 tw_469 tw_565 tw_566 se_65 ht29 (by decide +kernel) rfl (show 0 + 1 ≤ _ ∧ 8 + (5 + 11) + 0 ≤ _ from ⟨Nat.le_of_ble_eq_true rfl, Nat.le_of_ble_eq_true rfl⟩) (show t17 + t23 ≤ iT ∧ t18 + t24 ≤ jT from ⟨ar_1 hci ei, ar_1 hcj ej⟩) hl.1.1 (by simp [rf_cat, ic_cat]) rfl dd_mm_sweep_45 (sk := [(.int t21), (.int p2), (va_rf t10)]) rfl (fun H locs hw => ?_)
        have hci : t17 + t23 + t25 = iT := ar_2 hci ei
        have hcj : t18 + t24 + t26 = jT := ar_2 hcj ej
        clear ei ej
        generalize t17 + t23 = t27 at hci ⊢
        generalize t18 + t24 = t28 at hcj ⊢
        by_cases hc48 : t21 = 0
        · rw [if_pos hc48] at h
          refine lv_if_eq (tgt := 55) X.1 X.2.1 dd_mm_sweep_48 (by decide) (fun _ => ?_) (fun z => absurd hc48 z)
          exact (kb_mm_sweep_b55 X hKs hlk hret hnm hr12) (p0, p1, p2, p2, t10) _ _ _ _ _ _ _ _ hw (lh_pk hl [0, 1, 2] rfl) h hci hcj
        · rw [if_neg hc48] at h
          refine lv_if_eq (tgt := 55) X.1 X.2.1 dd_mm_sweep_48 (by decide) (fun z => absurd z hc48) (fun _ => ?_)
          refine lv_iconst (v := (1 : Int32)) X.1 X.2.1 dd_mm_sweep_51 (by decide) ?_
          refine lv_goto (tgt := 56) X.1 X.2.1 dd_mm_sweep_52 (by decide) ?_
          exact (kb_mm_sweep_b56 X hKs hlk hret hnm hr12) (p0, p1, p2, (1 : Int32), p2, t10) _ _ _ _ _ _ _ _ hw (lh_pk hl [0, 1, 2] rfl) h hci hcj
      · rw [if_neg hc39] at h
        refine lv_icmp_ne (tgt := 55) X.1 X.2.1 dd_mm_sweep_39 (by decide) (fun _ => ?_) (fun z => absurd z hc39)
        exact (kb_mm_sweep_b55 X hKs hlk hret hnm hr12) (p0, p1, p2, p2, t10) _ _ _ _ _ _ _ _ hw (lh_pk hl [0, 1, 2] rfl) h hci hcj
set_option maxHeartbeats 4000000 in
set_option maxRecDepth 100000 in
theorem kc_mm_sweep (l : Launch) (D : va_G) (ac : Nat → ClassId) (a0 : Nat) (gl : gl_T) (v0 : Option Nat) (v1 : Int32) (st : st_S) (rF : Int32) (stF : st_S) (iT jT : Nat) (h : mm_sweep gl v0 v1 st = some (rF, stF, iT, jT)) :
    ct_ l ⟨"PromiseVatsModel", "sweep", "(I)I"⟩ (Cond.code ⟨"PromiseVatsModel", "sweep", "(I)I"⟩ prog_12_method_32_code 5 (Option.some FieldType.int) :: tb_) 3 65 D cl_ ac a0 (kn_ D ac a0 gl) [(va_rf v0), (.int v1)] st (vb_i rF) stF iT jT := by
  refine ct_of (kn_ok D ac a0 gl) (plainFor_of_name (by decide +kernel)) (by simp [rf_cat, ic_cat]) (by simp) ?_
  intro p e s m args below meth c ls X hw hKs hlk hret hnm hl
  unfold mm_sweep at h
  have hl : lh_ ls 5 [(0, (va_rf v0)), (1, (.int v1))] := hl
  obtain ⟨z0, hz0⟩ : ∃ z : Nat, 0 = z := ⟨0, rfl⟩
  obtain ⟨z1, hz1⟩ : ∃ z : Nat, 0 = z := ⟨0, rfl⟩
  refine W.cs hz0 hz1 ?_
  have hci : z0 + iT = iT := by omega
  have hcj : z1 + jT = jT := by omega
  refine rr_aldn X dd_mm_sweep_0 rfl (lv_at hl.1 0 rfl) ?_
  refine lv_iload_n X.1 X.2.1 dd_mm_sweep_1 rfl (lv_at hl.1 1 rfl) ?_
  obtain ⟨t9, ht9, h⟩ := st_g_some h
  obtain ⟨t1, t2, t3, t4, t5, t6, ht1, h, ei, ej⟩ := st_b_some h
  refine rr_callV (n := 1) (As := [(.int v1)]) (rest := []) X hw (kn_ok D ac a0 gl) hKs (kc_mm_vat l D ac a0 gl v0 v1 _ _ _ _ _ ht1) tb_good tw_516 tw_469 tw_517 tw_518 se_54 ht9 (by decide +kernel) rfl (show 0 + 1 ≤ _ ∧ 8 + (2 + 11) + 0 ≤ _ from ⟨Nat.le_of_ble_eq_true rfl, Nat.le_of_ble_eq_true rfl⟩) (show z0 + t3 ≤ iT ∧ z1 + t4 ≤ jT from ⟨ar_1 hci ei, ar_1 hcj ej⟩) hl.1.1 (by simp [rf_cat, ic_cat]) rfl dd_mm_sweep_2 (sk := [(.int t1)]) rfl (fun H locs hw => ?_)
  have hci : z0 + t3 + t5 = iT := ar_2 hci ei
  have hcj : z1 + t4 + t6 = jT := ar_2 hcj ej
  clear ei ej
  generalize z0 + t3 = t7 at hci ⊢
  generalize z1 + t4 = t8 at hcj ⊢
  by_cases hc5 : t1 = 0
  · rw [if_pos hc5] at h
    refine lv_if_ne (tgt := 10) X.1 X.2.1 dd_mm_sweep_5 (by decide) (fun z => absurd hc5 z) (fun _ => ?_)
    refine lv_iconst (v := (-1 : Int32)) X.1 X.2.1 dd_mm_sweep_8 (by decide) ?_
    obtain ⟨rfl, rfl, rfl, rfl⟩ := st_r_some h
    exact rr_iret X hw hlk hret rfl hci hcj dd_mm_sweep_9
  · rw [if_neg hc5] at h
    refine lv_if_ne (tgt := 10) X.1 X.2.1 dd_mm_sweep_5 (by decide) (fun _ => ?_) (fun z => absurd z hc5)
    refine lv_iconst (v := (1 : Int32)) X.1 X.2.1 dd_mm_sweep_10 (by decide) ?_
    refine rr_istn (lv' := [(2, (.int (1 : Int32))), (0, (va_rf v0)), (1, (.int v1))]) X dd_mm_sweep_11 rfl hl (by decide) rfl (fun ls hl => ?_)
    exact (kb_mm_sweep_b12 X hKs hlk hret hnm) (v0, v1, (1 : Int32)) _ _ _ _ _ _ _ _ hw (lh_pk hl [1, 2, 0] rfl) h hci hcj
