/-! PromiseVatsModel.deliver(II)I -/
theorem dd_mm_deliver_0 : decode prog_12_method_13_code 0 = .ok (.aload_n 0, 1) := by decide +kernel
theorem dd_mm_deliver_1 : decode prog_12_method_13_code 1 = .ok (.iload_n 1, 1) := by decide +kernel
theorem dd_mm_deliver_2 : decode prog_12_method_13_code 2 = .ok (.invokevirtual 115, 3) := by decide +kernel
theorem dd_mm_deliver_5 : decode prog_12_method_13_code 5 = .ok (.ifCond .eq 16, 3) := by decide +kernel
theorem dd_mm_deliver_8 : decode prog_12_method_13_code 8 = .ok (.aload_n 0, 1) := by decide +kernel
theorem dd_mm_deliver_9 : decode prog_12_method_13_code 9 = .ok (.iload_n 2, 1) := by decide +kernel
theorem dd_mm_deliver_10 : decode prog_12_method_13_code 10 = .ok (.invokevirtual 115, 3) := by decide +kernel
theorem dd_mm_deliver_13 : decode prog_12_method_13_code 13 = .ok (.ifCond .eq 8, 3) := by decide +kernel
theorem dd_mm_deliver_16 : decode prog_12_method_13_code 16 = .ok (.iload_n 1, 1) := by decide +kernel
theorem dd_mm_deliver_17 : decode prog_12_method_13_code 17 = .ok (.iload_n 2, 1) := by decide +kernel
theorem dd_mm_deliver_18 : decode prog_12_method_13_code 18 = .ok (.if_icmp .ne 5, 3) := by decide +kernel
theorem dd_mm_deliver_21 : decode prog_12_method_13_code 21 = .ok (.iconst 0, 1) := by decide +kernel
theorem dd_mm_deliver_22 : decode prog_12_method_13_code 22 = .ok (.ireturn, 1) := by decide +kernel
theorem dd_mm_deliver_23 : decode prog_12_method_13_code 23 = .ok (.aload_n 0, 1) := by decide +kernel
theorem dd_mm_deliver_24 : decode prog_12_method_13_code 24 = .ok (.iconst 4, 1) := by decide +kernel
theorem dd_mm_deliver_25 : decode prog_12_method_13_code 25 = .ok (.iload_n 1, 1) := by decide +kernel
theorem dd_mm_deliver_26 : decode prog_12_method_13_code 26 = .ok (.imul, 1) := by decide +kernel
theorem dd_mm_deliver_27 : decode prog_12_method_13_code 27 = .ok (.iload_n 2, 1) := by decide +kernel
theorem dd_mm_deliver_28 : decode prog_12_method_13_code 28 = .ok (.iadd, 1) := by decide +kernel
theorem dd_mm_deliver_29 : decode prog_12_method_13_code 29 = .ok (.invokevirtual 118, 3) := by decide +kernel
theorem dd_mm_deliver_32 : decode prog_12_method_13_code 32 = .ok (.istore_n 3, 1) := by decide +kernel
theorem dd_mm_deliver_33 : decode prog_12_method_13_code 33 = .ok (.iload_n 3, 1) := by decide +kernel
theorem dd_mm_deliver_34 : decode prog_12_method_13_code 34 = .ok (.ifCond .ge 5, 3) := by decide +kernel
theorem dd_mm_deliver_37 : decode prog_12_method_13_code 37 = .ok (.iconst 0, 1) := by decide +kernel
theorem dd_mm_deliver_38 : decode prog_12_method_13_code 38 = .ok (.ireturn, 1) := by decide +kernel
theorem dd_mm_deliver_39 : decode prog_12_method_13_code 39 = .ok (.aload_n 0, 1) := by decide +kernel
theorem dd_mm_deliver_40 : decode prog_12_method_13_code 40 = .ok (.getfield 69, 3) := by decide +kernel
theorem dd_mm_deliver_43 : decode prog_12_method_13_code 43 = .ok (.iload_n 3, 1) := by decide +kernel
theorem dd_mm_deliver_44 : decode prog_12_method_13_code 44 = .ok (.baload, 1) := by decide +kernel
theorem dd_mm_deliver_45 : decode prog_12_method_13_code 45 = .ok (.bipush 16, 2) := by decide +kernel
theorem dd_mm_deliver_47 : decode prog_12_method_13_code 47 = .ok (.idiv, 1) := by decide +kernel
theorem dd_mm_deliver_48 : decode prog_12_method_13_code 48 = .ok (.istore 4, 2) := by decide +kernel
theorem dd_mm_deliver_50 : decode prog_12_method_13_code 50 = .ok (.aload_n 0, 1) := by decide +kernel
theorem dd_mm_deliver_51 : decode prog_12_method_13_code 51 = .ok (.getfield 72, 3) := by decide +kernel
theorem dd_mm_deliver_54 : decode prog_12_method_13_code 54 = .ok (.iload_n 3, 1) := by decide +kernel
theorem dd_mm_deliver_55 : decode prog_12_method_13_code 55 = .ok (.saload, 1) := by decide +kernel
theorem dd_mm_deliver_56 : decode prog_12_method_13_code 56 = .ok (.istore 5, 2) := by decide +kernel
theorem dd_mm_deliver_58 : decode prog_12_method_13_code 58 = .ok (.aload_n 0, 1) := by decide +kernel
theorem dd_mm_deliver_59 : decode prog_12_method_13_code 59 = .ok (.getfield 76, 3) := by decide +kernel
theorem dd_mm_deliver_62 : decode prog_12_method_13_code 62 = .ok (.iload_n 3, 1) := by decide +kernel
theorem dd_mm_deliver_63 : decode prog_12_method_13_code 63 = .ok (.iaload, 1) := by decide +kernel
theorem dd_mm_deliver_64 : decode prog_12_method_13_code 64 = .ok (.istore 6, 2) := by decide +kernel
theorem dd_mm_deliver_66 : decode prog_12_method_13_code 66 = .ok (.aload_n 0, 1) := by decide +kernel
theorem dd_mm_deliver_67 : decode prog_12_method_13_code 67 = .ok (.getfield 79, 3) := by decide +kernel
theorem dd_mm_deliver_70 : decode prog_12_method_13_code 70 = .ok (.iload_n 3, 1) := by decide +kernel
theorem dd_mm_deliver_71 : decode prog_12_method_13_code 71 = .ok (.saload, 1) := by decide +kernel
theorem dd_mm_deliver_72 : decode prog_12_method_13_code 72 = .ok (.istore 7, 2) := by decide +kernel
theorem dd_mm_deliver_74 : decode prog_12_method_13_code 74 = .ok (.aload_n 0, 1) := by decide +kernel
theorem dd_mm_deliver_75 : decode prog_12_method_13_code 75 = .ok (.getfield 82, 3) := by decide +kernel
theorem dd_mm_deliver_78 : decode prog_12_method_13_code 78 = .ok (.iload_n 3, 1) := by decide +kernel
theorem dd_mm_deliver_79 : decode prog_12_method_13_code 79 = .ok (.saload, 1) := by decide +kernel
theorem dd_mm_deliver_80 : decode prog_12_method_13_code 80 = .ok (.istore 8, 2) := by decide +kernel
theorem dd_mm_deliver_82 : decode prog_12_method_13_code 82 = .ok (.aload_n 0, 1) := by decide +kernel
theorem dd_mm_deliver_83 : decode prog_12_method_13_code 83 = .ok (.iload_n 3, 1) := by decide +kernel
theorem dd_mm_deliver_84 : decode prog_12_method_13_code 84 = .ok (.invokevirtual 122, 3) := by decide +kernel
theorem dd_mm_deliver_87 : decode prog_12_method_13_code 87 = .ok (.aload_n 0, 1) := by decide +kernel
theorem dd_mm_deliver_88 : decode prog_12_method_13_code 88 = .ok (.iload_n 1, 1) := by decide +kernel
theorem dd_mm_deliver_89 : decode prog_12_method_13_code 89 = .ok (.iload_n 2, 1) := by decide +kernel
theorem dd_mm_deliver_90 : decode prog_12_method_13_code 90 = .ok (.iload 7, 2) := by decide +kernel
theorem dd_mm_deliver_92 : decode prog_12_method_13_code 92 = .ok (.invokevirtual 126, 3) := by decide +kernel
theorem dd_mm_deliver_95 : decode prog_12_method_13_code 95 = .ok (.iload 4, 2) := by decide +kernel
theorem dd_mm_deliver_97 : decode prog_12_method_13_code 97 = .ok (.iconst 1, 1) := by decide +kernel
theorem dd_mm_deliver_98 : decode prog_12_method_13_code 98 = .ok (.if_icmp .ne 16, 3) := by decide +kernel
theorem dd_mm_deliver_101 : decode prog_12_method_13_code 101 = .ok (.aload_n 0, 1) := by decide +kernel
theorem dd_mm_deliver_102 : decode prog_12_method_13_code 102 = .ok (.iload_n 2, 1) := by decide +kernel
theorem dd_mm_deliver_103 : decode prog_12_method_13_code 103 = .ok (.iload 5, 2) := by decide +kernel
theorem dd_mm_deliver_105 : decode prog_12_method_13_code 105 = .ok (.iload 6, 2) := by decide +kernel
theorem dd_mm_deliver_107 : decode prog_12_method_13_code 107 = .ok (.iload 7, 2) := by decide +kernel
theorem dd_mm_deliver_109 : decode prog_12_method_13_code 109 = .ok (.iload 8, 2) := by decide +kernel
theorem dd_mm_deliver_111 : decode prog_12_method_13_code 111 = .ok (.invokevirtual 130, 3) := by decide +kernel
theorem dd_mm_deliver_114 : decode prog_12_method_13_code 114 = .ok (.iload 4, 2) := by decide +kernel
theorem dd_mm_deliver_116 : decode prog_12_method_13_code 116 = .ok (.iconst 2, 1) := by decide +kernel
theorem dd_mm_deliver_117 : decode prog_12_method_13_code 117 = .ok (.if_icmp .ne 12, 3) := by decide +kernel
theorem dd_mm_deliver_120 : decode prog_12_method_13_code 120 = .ok (.aload_n 0, 1) := by decide +kernel
theorem dd_mm_deliver_121 : decode prog_12_method_13_code 121 = .ok (.iload_n 2, 1) := by decide +kernel
theorem dd_mm_deliver_122 : decode prog_12_method_13_code 122 = .ok (.iload 5, 2) := by decide +kernel
theorem dd_mm_deliver_124 : decode prog_12_method_13_code 124 = .ok (.iload 7, 2) := by decide +kernel
theorem dd_mm_deliver_126 : decode prog_12_method_13_code 126 = .ok (.invokevirtual 134, 3) := by decide +kernel
theorem dd_mm_deliver_129 : decode prog_12_method_13_code 129 = .ok (.iload 4, 2) := by decide +kernel
theorem dd_mm_deliver_131 : decode prog_12_method_13_code 131 = .ok (.iconst 3, 1) := by decide +kernel
theorem dd_mm_deliver_132 : decode prog_12_method_13_code 132 = .ok (.if_icmp .ne 19, 3) := by decide +kernel
theorem dd_mm_deliver_135 : decode prog_12_method_13_code 135 = .ok (.aload_n 0, 1) := by decide +kernel
theorem dd_mm_deliver_136 : decode prog_12_method_13_code 136 = .ok (.getfield 45, 3) := by decide +kernel
theorem dd_mm_deliver_139 : decode prog_12_method_13_code 139 = .ok (.iconst 4, 1) := by decide +kernel
theorem dd_mm_deliver_140 : decode prog_12_method_13_code 140 = .ok (.iload 5, 2) := by decide +kernel
theorem dd_mm_deliver_142 : decode prog_12_method_13_code 142 = .ok (.imul, 1) := by decide +kernel
theorem dd_mm_deliver_143 : decode prog_12_method_13_code 143 = .ok (.iload_n 1, 1) := by decide +kernel
theorem dd_mm_deliver_144 : decode prog_12_method_13_code 144 = .ok (.iadd, 1) := by decide +kernel
theorem dd_mm_deliver_145 : decode prog_12_method_13_code 145 = .ok (.dup2, 1) := by decide +kernel
theorem dd_mm_deliver_146 : decode prog_12_method_13_code 146 = .ok (.iaload, 1) := by decide +kernel
theorem dd_mm_deliver_147 : decode prog_12_method_13_code 147 = .ok (.iload 6, 2) := by decide +kernel
theorem dd_mm_deliver_149 : decode prog_12_method_13_code 149 = .ok (.isub, 1) := by decide +kernel
theorem dd_mm_deliver_150 : decode prog_12_method_13_code 150 = .ok (.iastore, 1) := by decide +kernel
theorem dd_mm_deliver_151 : decode prog_12_method_13_code 151 = .ok (.iload 4, 2) := by decide +kernel
theorem dd_mm_deliver_153 : decode prog_12_method_13_code 153 = .ok (.iconst 4, 1) := by decide +kernel
theorem dd_mm_deliver_154 : decode prog_12_method_13_code 154 = .ok (.if_icmp .ne 13, 3) := by decide +kernel
theorem dd_mm_deliver_157 : decode prog_12_method_13_code 157 = .ok (.aload_n 0, 1) := by decide +kernel
theorem dd_mm_deliver_158 : decode prog_12_method_13_code 158 = .ok (.iload_n 1, 1) := by decide +kernel
theorem dd_mm_deliver_159 : decode prog_12_method_13_code 159 = .ok (.iload 6, 2) := by decide +kernel
theorem dd_mm_deliver_161 : decode prog_12_method_13_code 161 = .ok (.iload 5, 2) := by decide +kernel
theorem dd_mm_deliver_163 : decode prog_12_method_13_code 163 = .ok (.iconst 1, 1) := by decide +kernel
theorem dd_mm_deliver_164 : decode prog_12_method_13_code 164 = .ok (.invokevirtual 137, 3) := by decide +kernel
theorem dd_mm_deliver_167 : decode prog_12_method_13_code 167 = .ok (.iload 4, 2) := by decide +kernel
theorem dd_mm_deliver_169 : decode prog_12_method_13_code 169 = .ok (.iconst 5, 1) := by decide +kernel
theorem dd_mm_deliver_170 : decode prog_12_method_13_code 170 = .ok (.if_icmp .ne 13, 3) := by decide +kernel
theorem dd_mm_deliver_173 : decode prog_12_method_13_code 173 = .ok (.aload_n 0, 1) := by decide +kernel
theorem dd_mm_deliver_174 : decode prog_12_method_13_code 174 = .ok (.iload 6, 2) := by decide +kernel
theorem dd_mm_deliver_176 : decode prog_12_method_13_code 176 = .ok (.iload_n 1, 1) := by decide +kernel
theorem dd_mm_deliver_177 : decode prog_12_method_13_code 177 = .ok (.iload 5, 2) := by decide +kernel
theorem dd_mm_deliver_179 : decode prog_12_method_13_code 179 = .ok (.iconst (-1), 1) := by decide +kernel
theorem dd_mm_deliver_180 : decode prog_12_method_13_code 180 = .ok (.invokevirtual 137, 3) := by decide +kernel
theorem dd_mm_deliver_183 : decode prog_12_method_13_code 183 = .ok (.aload_n 0, 1) := by decide +kernel
theorem dd_mm_deliver_184 : decode prog_12_method_13_code 184 = .ok (.iload_n 2, 1) := by decide +kernel
theorem dd_mm_deliver_185 : decode prog_12_method_13_code 185 = .ok (.invokevirtual 141, 3) := by decide +kernel
theorem dd_mm_deliver_188 : decode prog_12_method_13_code 188 = .ok (.iload 4, 2) := by decide +kernel
theorem dd_mm_deliver_190 : decode prog_12_method_13_code 190 = .ok (.ireturn, 1) := by decide +kernel
set_option maxHeartbeats 4000000 in
set_option maxRecDepth 100000 in
theorem kb_mm_deliver_b21 {p : Program} {l : Launch} {e : Env} {s : State} {m : MethodId} {args : Array Value} {below : List Frame} {meth : Method} {c : Code} {D : va_G} {ac : Nat → ClassId} {a0 : Nat} {gl : gl_T} {rF : Int32} {stF : st_S} {iT jT : Nat}
    (X : cx_ p s m args c prog_12_method_13_code 9 "PromiseVatsModel" tb_ D cl_ (ty_ ac)) (hKs : kn_ D ac a0 gl s) (hlk : meth.locks = false) (hret : meth.sig.returnType = (Option.some FieldType.int)) (hnm : meth.name = "delive\x72") : wk_ p l e 5 127 s m args below meth c D cl_ ac a0 9 vb_i rF stF iT jT 21 (fun x : Unit => []) (fun x : Unit => []) (fun _ : Unit => mm_deliver_b21 gl) := by
  intro x st H locs cells slots i j ls hw hl h hci hcj
  have h : mm_deliver_b21 gl  st = some (rF, stF, i, j) := h
  unfold mm_deliver_b21 at h
  have hl : lh_ ls 9 [] := hl
  refine W.eq (g2 := F0 m 21 ls []) rfl ?_
  refine lv_iconst (v := (0 : Int32)) X.1 X.2.1 dd_mm_deliver_21 (by decide) ?_
  obtain ⟨rfl, rfl, rfl, rfl⟩ := st_r_some h
  exact rr_iret X hw hlk hret rfl hci hcj dd_mm_deliver_22
set_option maxHeartbeats 4000000 in
set_option maxRecDepth 100000 in
theorem kb_mm_deliver_b183 {p : Program} {l : Launch} {e : Env} {s : State} {m : MethodId} {args : Array Value} {below : List Frame} {meth : Method} {c : Code} {D : va_G} {ac : Nat → ClassId} {a0 : Nat} {gl : gl_T} {rF : Int32} {stF : st_S} {iT jT : Nat}
    (X : cx_ p s m args c prog_12_method_13_code 9 "PromiseVatsModel" tb_ D cl_ (ty_ ac)) (hKs : kn_ D ac a0 gl s) (hlk : meth.locks = false) (hret : meth.sig.returnType = (Option.some FieldType.int)) (hnm : meth.name = "delive\x72") : wk_ p l e 5 127 s m args below meth c D cl_ ac a0 9 vb_i rF stF iT jT 183 (fun x : Option Nat × Int32 × Int32 => [(0, (va_rf x.1)), (2, (.int x.2.1)), (4, (.int x.2.2))]) (fun x : Option Nat × Int32 × Int32 => []) (fun x : Option Nat × Int32 × Int32 => mm_deliver_b183 gl x.1 x.2.1 x.2.2) := by
  intro x st H locs cells slots i j ls hw hl h hci hcj
  obtain ⟨p0, p2, p4⟩ := x
  have h : mm_deliver_b183 gl p0 p2 p4 st = some (rF, stF, i, j) := h
  unfold mm_deliver_b183 at h
  have hl : lh_ ls 9 [(0, (va_rf p0)), (2, (.int p2)), (4, (.int p4))] := hl
  refine W.eq (g2 := F0 m 183 ls []) rfl ?_
  refine rr_aldn X dd_mm_deliver_183 rfl (lv_at hl.1 0 rfl) ?_
  refine lv_iload_n X.1 X.2.1 dd_mm_deliver_184 rfl (lv_at hl.1 1 rfl) ?_
  obtain ⟨t103, ht103, h⟩ := st_g_some h
  obtain ⟨t95, t96, t97, t98, t99, t100, ht95, h, ei, ej⟩ := st_b_some h
  refine rr_callV (n := 1) (As := [(.int p2)]) (rest := []) X hw (kn_ok D ac a0 gl) hKs (kc_mm_mourn l D ac a0 gl p0 p2 _ _ _ _ _ ht95) tb_good tw_524 tw_469 tw_525 tw_526 se_56 ht103 (by decide +kernel) rfl (show 4 + 1 ≤ _ ∧ 8 + (3 + 11) + 105 ≤ _ from ⟨Nat.le_of_ble_eq_true rfl, Nat.le_of_ble_eq_true rfl⟩) (show cells + t97 ≤ iT ∧ slots + t98 ≤ jT from ⟨ar_1 hci ei, ar_1 hcj ej⟩) hl.1.1 (by simp [rf_cat, ic_cat]) rfl dd_mm_deliver_185 (sk := []) rfl (fun H locs hw => ?_)
  have hci : cells + t97 + t99 = iT := ar_2 hci ei
  have hcj : slots + t98 + t100 = jT := ar_2 hcj ej
  clear ei ej
  generalize cells + t97 = t101 at hci ⊢
  generalize slots + t98 = t102 at hcj ⊢
  refine lv_iload X.1 X.2.1 dd_mm_deliver_188 (lv_at hl.1 2 rfl) ?_
  obtain ⟨rfl, rfl, rfl, rfl⟩ := st_r_some h
  exact rr_iret X hw hlk hret rfl hci hcj dd_mm_deliver_190
set_option maxHeartbeats 4000000 in
set_option maxRecDepth 100000 in
theorem kb_mm_deliver_b167 {p : Program} {l : Launch} {e : Env} {s : State} {m : MethodId} {args : Array Value} {below : List Frame} {meth : Method} {c : Code} {D : va_G} {ac : Nat → ClassId} {a0 : Nat} {gl : gl_T} {rF : Int32} {stF : st_S} {iT jT : Nat}
    (X : cx_ p s m args c prog_12_method_13_code 9 "PromiseVatsModel" tb_ D cl_ (ty_ ac)) (hKs : kn_ D ac a0 gl s) (hlk : meth.locks = false) (hret : meth.sig.returnType = (Option.some FieldType.int)) (hnm : meth.name = "delive\x72") : wk_ p l e 5 127 s m args below meth c D cl_ ac a0 9 vb_i rF stF iT jT 167 (fun x : Option Nat × Int32 × Int32 × Int32 × Int32 × Int32 => [(0, (va_rf x.1)), (1, (.int x.2.1)), (2, (.int x.2.2.1)), (4, (.int x.2.2.2.1)), (5, (.int x.2.2.2.2.1)), (6, (.int x.2.2.2.2.2))]) (fun x : Option Nat × Int32 × Int32 × Int32 × Int32 × Int32 => []) (fun x : Option Nat × Int32 × Int32 × Int32 × Int32 × Int32 => mm_deliver_b167 gl x.1 x.2.1 x.2.2.1 x.2.2.2.1 x.2.2.2.2.1 x.2.2.2.2.2) := by
  intro x st H locs cells slots i j ls hw hl h hci hcj
  obtain ⟨p0, p1, p2, p4, p5, p6⟩ := x
  have h : mm_deliver_b167 gl p0 p1 p2 p4 p5 p6 st = some (rF, stF, i, j) := h
  unfold mm_deliver_b167 at h
  have hl : lh_ ls 9 [(0, (va_rf p0)), (1, (.int p1)), (2, (.int p2)), (4, (.int p4)), (5, (.int p5)), (6, (.int p6))] := hl
  refine W.eq (g2 := F0 m 167 ls []) rfl ?_
  refine lv_iload X.1 X.2.1 dd_mm_deliver_167 (lv_at hl.1 3 rfl) ?_
  refine lv_iconst (v := (5 : Int32)) X.1 X.2.1 dd_mm_deliver_169 (by decide) ?_
  by_cases hc170 : p4 = (5 : Int32)
  · rw [if_pos hc170] at h
    refine lv_icmp_ne (tgt := 183) X.1 X.2.1 dd_mm_deliver_170 (by decide) (fun z => absurd hc170 z) (fun _ => ?_)
    refine rr_aldn X dd_mm_deliver_173 rfl (lv_at hl.1 0 rfl) ?_
    refine lv_iload X.1 X.2.1 dd_mm_deliver_174 (lv_at hl.1 5 rfl) ?_
    refine lv_iload_n X.1 X.2.1 dd_mm_deliver_176 rfl (lv_at hl.1 1 rfl) ?_
    refine lv_iload X.1 X.2.1 dd_mm_deliver_177 (lv_at hl.1 4 rfl) ?_
    refine lv_iconst (v := (-1 : Int32)) X.1 X.2.1 dd_mm_deliver_179 (by decide) ?_
    obtain ⟨t94, ht94, h⟩ := st_g_some h
    obtain ⟨t86, t87, t88, t89, t90, t91, ht86, h, ei, ej⟩ := st_b_some h
    refine rr_callV (n := 4) (As := [(.int p6), (.int p1), (.int p5), (.int (-1 : Int32))]) (rest := []) X hw (kn_ok D ac a0 gl) hKs (kc_mm_pair l D ac a0 gl p0 p6 p1 p5 (-1 : Int32) _ _ _ _ _ ht86) tb_good tw_520 tw_469 tw_521 tw_522 se_55 ht94 (by decide +kernel) rfl (show 0 + 1 ≤ _ ∧ 8 + (7 + 11) + 0 ≤ _ from ⟨Nat.le_of_ble_eq_true rfl, Nat.le_of_ble_eq_true rfl⟩) (show cells + t88 ≤ iT ∧ slots + t89 ≤ jT from ⟨ar_1 hci ei, ar_1 hcj ej⟩) hl.1.1 (by simp [rf_cat, ic_cat]) rfl dd_mm_deliver_180 (sk := []) rfl (fun H locs hw => ?_)
    have hci : cells + t88 + t90 = iT := ar_2 hci ei
    have hcj : slots + t89 + t91 = jT := ar_2 hcj ej
    clear ei ej
    generalize cells + t88 = t92 at hci ⊢
    generalize slots + t89 = t93 at hcj ⊢
    exact (kb_mm_deliver_b183 X hKs hlk hret hnm) (p0, p2, p4) _ _ _ _ _ _ _ _ hw (lh_pk hl [0, 2, 3] rfl) h hci hcj
  · rw [if_neg hc170] at h
    refine lv_icmp_ne (tgt := 183) X.1 X.2.1 dd_mm_deliver_170 (by decide) (fun _ => ?_) (fun z => absurd z hc170)
    exact (kb_mm_deliver_b183 X hKs hlk hret hnm) (p0, p2, p4) _ _ _ _ _ _ _ _ hw (lh_pk hl [0, 2, 3] rfl) h hci hcj
set_option maxHeartbeats 4000000 in
set_option maxRecDepth 100000 in
theorem kb_mm_deliver_b151 {p : Program} {l : Launch} {e : Env} {s : State} {m : MethodId} {args : Array Value} {below : List Frame} {meth : Method} {c : Code} {D : va_G} {ac : Nat → ClassId} {a0 : Nat} {gl : gl_T} {rF : Int32} {stF : st_S} {iT jT : Nat}
    (X : cx_ p s m args c prog_12_method_13_code 9 "PromiseVatsModel" tb_ D cl_ (ty_ ac)) (hKs : kn_ D ac a0 gl s) (hlk : meth.locks = false) (hret : meth.sig.returnType = (Option.some FieldType.int)) (hnm : meth.name = "delive\x72") : wk_ p l e 5 127 s m args below meth c D cl_ ac a0 9 vb_i rF stF iT jT 151 (fun x : Option Nat × Int32 × Int32 × Int32 × Int32 × Int32 => [(0, (va_rf x.1)), (1, (.int x.2.1)), (2, (.int x.2.2.1)), (4, (.int x.2.2.2.1)), (5, (.int x.2.2.2.2.1)), (6, (.int x.2.2.2.2.2))]) (fun x : Option Nat × Int32 × Int32 × Int32 × Int32 × Int32 => []) (fun x : Option Nat × Int32 × Int32 × Int32 × Int32 × Int32 => mm_deliver_b151 gl x.1 x.2.1 x.2.2.1 x.2.2.2.1 x.2.2.2.2.1 x.2.2.2.2.2) := by
  intro x st H locs cells slots i j ls hw hl h hci hcj
  obtain ⟨p0, p1, p2, p4, p5, p6⟩ := x
  have h : mm_deliver_b151 gl p0 p1 p2 p4 p5 p6 st = some (rF, stF, i, j) := h
  unfold mm_deliver_b151 at h
  have hl : lh_ ls 9 [(0, (va_rf p0)), (1, (.int p1)), (2, (.int p2)), (4, (.int p4)), (5, (.int p5)), (6, (.int p6))] := hl
  refine W.eq (g2 := F0 m 151 ls []) rfl ?_
  refine lv_iload X.1 X.2.1 dd_mm_deliver_151 (lv_at hl.1 3 rfl) ?_
  refine lv_iconst (v := (4 : Int32)) X.1 X.2.1 dd_mm_deliver_153 (by decide) ?_
  by_cases hc154 : p4 = (4 : Int32)
  · rw [if_pos hc154] at h
    refine lv_icmp_ne (tgt := 167) X.1 X.2.1 dd_mm_deliver_154 (by decide) (fun z => absurd hc154 z) (fun _ => ?_)
    refine rr_aldn X dd_mm_deliver_157 rfl (lv_at hl.1 0 rfl) ?_
    refine lv_iload_n X.1 X.2.1 dd_mm_deliver_158 rfl (lv_at hl.1 1 rfl) ?_
    refine lv_iload X.1 X.2.1 dd_mm_deliver_159 (lv_at hl.1 5 rfl) ?_
    refine lv_iload X.1 X.2.1 dd_mm_deliver_161 (lv_at hl.1 4 rfl) ?_
    refine lv_iconst (v := (1 : Int32)) X.1 X.2.1 dd_mm_deliver_163 (by decide) ?_
    obtain ⟨t85, ht85, h⟩ := st_g_some h
    obtain ⟨t77, t78, t79, t80, t81, t82, ht77, h, ei, ej⟩ := st_b_some h
    refine rr_callV (n := 4) (As := [(.int p1), (.int p6), (.int p5), (.int (1 : Int32))]) (rest := []) X hw (kn_ok D ac a0 gl) hKs (kc_mm_pair l D ac a0 gl p0 p1 p6 p5 (1 : Int32) _ _ _ _ _ ht77) tb_good tw_520 tw_469 tw_521 tw_522 se_55 ht85 (by decide +kernel) rfl (show 0 + 1 ≤ _ ∧ 8 + (7 + 11) + 0 ≤ _ from ⟨Nat.le_of_ble_eq_true rfl, Nat.le_of_ble_eq_true rfl⟩) (show cells + t79 ≤ iT ∧ slots + t80 ≤ jT from ⟨ar_1 hci ei, ar_1 hcj ej⟩) hl.1.1 (by simp [rf_cat, ic_cat]) rfl dd_mm_deliver_164 (sk := []) rfl (fun H locs hw => ?_)
    have hci : cells + t79 + t81 = iT := ar_2 hci ei
    have hcj : slots + t80 + t82 = jT := ar_2 hcj ej
    clear ei ej
    generalize cells + t79 = t83 at hci ⊢
    generalize slots + t80 = t84 at hcj ⊢
    exact (kb_mm_deliver_b167 X hKs hlk hret hnm) (p0, p1, p2, p4, p5, p6) _ _ _ _ _ _ _ _ hw (lh_pk hl [0, 1, 2, 3, 4, 5] rfl) h hci hcj
  · rw [if_neg hc154] at h
    refine lv_icmp_ne (tgt := 167) X.1 X.2.1 dd_mm_deliver_154 (by decide) (fun _ => ?_) (fun z => absurd z hc154)
    exact (kb_mm_deliver_b167 X hKs hlk hret hnm) (p0, p1, p2, p4, p5, p6) _ _ _ _ _ _ _ _ hw (lh_pk hl [0, 1, 2, 3, 4, 5] rfl) h hci hcj
set_option maxHeartbeats 4000000 in
set_option maxRecDepth 100000 in
theorem kb_mm_deliver_b129 {p : Program} {l : Launch} {e : Env} {s : State} {m : MethodId} {args : Array Value} {below : List Frame} {meth : Method} {c : Code} {D : va_G} {ac : Nat → ClassId} {a0 : Nat} {gl : gl_T} {rF : Int32} {stF : st_S} {iT jT : Nat}
    (X : cx_ p s m args c prog_12_method_13_code 9 "PromiseVatsModel" tb_ D cl_ (ty_ ac)) (hKs : kn_ D ac a0 gl s) (hlk : meth.locks = false) (hret : meth.sig.returnType = (Option.some FieldType.int)) (hnm : meth.name = "delive\x72") : wk_ p l e 5 127 s m args below meth c D cl_ ac a0 9 vb_i rF stF iT jT 129 (fun x : Option Nat × Int32 × Int32 × Int32 × Int32 × Int32 => [(0, (va_rf x.1)), (1, (.int x.2.1)), (2, (.int x.2.2.1)), (4, (.int x.2.2.2.1)), (5, (.int x.2.2.2.2.1)), (6, (.int x.2.2.2.2.2))]) (fun x : Option Nat × Int32 × Int32 × Int32 × Int32 × Int32 => []) (fun x : Option Nat × Int32 × Int32 × Int32 × Int32 × Int32 => mm_deliver_b129 gl x.1 x.2.1 x.2.2.1 x.2.2.2.1 x.2.2.2.2.1 x.2.2.2.2.2) := by
  intro x st H locs cells slots i j ls hw hl h hci hcj
  obtain ⟨p0, p1, p2, p4, p5, p6⟩ := x
  have h : mm_deliver_b129 gl p0 p1 p2 p4 p5 p6 st = some (rF, stF, i, j) := h
  unfold mm_deliver_b129 at h
  have hl : lh_ ls 9 [(0, (va_rf p0)), (1, (.int p1)), (2, (.int p2)), (4, (.int p4)), (5, (.int p5)), (6, (.int p6))] := hl
  refine W.eq (g2 := F0 m 129 ls []) rfl ?_
  refine lv_iload X.1 X.2.1 dd_mm_deliver_129 (lv_at hl.1 3 rfl) ?_
  refine lv_iconst (v := (3 : Int32)) X.1 X.2.1 dd_mm_deliver_131 (by decide) ?_
  by_cases hc132 : p4 = (3 : Int32)
  · rw [if_pos hc132] at h
    refine lv_icmp_ne (tgt := 151) X.1 X.2.1 dd_mm_deliver_132 (by decide) (fun z => absurd hc132 z) (fun _ => ?_)
    refine rr_aldn X dd_mm_deliver_135 rfl (lv_at hl.1 0 rfl) ?_
    obtain ⟨t74, ht74, h⟩ := st_g_some h
    refine rr_getq X hw ff_10_15 ht74 tw_453 (Or.inl rfl) dd_mm_deliver_136 ?_
    refine lv_iconst (v := (4 : Int32)) X.1 X.2.1 dd_mm_deliver_139 (by decide) ?_
    refine lv_iload X.1 X.2.1 dd_mm_deliver_140 (lv_at hl.1 4 rfl) ?_
    refine lv_imul X.1 X.2.1 dd_mm_deliver_142 ?_
    refine lv_iload_n X.1 X.2.1 dd_mm_deliver_143 rfl (lv_at hl.1 1 rfl) ?_
    refine lv_iadd X.1 X.2.1 dd_mm_deliver_144 ?_
    refine lv_dup2_11 X.1 X.2.1 dd_mm_deliver_145 rfl (rf_cat _) ?_
    obtain ⟨t75, ht75, h⟩ := st_g_some h
    refine rr_iald (t := 0) X hw rfl ht75 dd_mm_deliver_146 ?_
    refine lv_iload X.1 X.2.1 dd_mm_deliver_147 (lv_at hl.1 5 rfl) ?_
    refine lv_isub X.1 X.2.1 dd_mm_deliver_149 ?_
    obtain ⟨t76, hp150, h⟩ := st_w_some h
    refine rr_iast (t := 0) X hw rfl hp150 dd_mm_deliver_150 (fun H locs hw => ?_)
    exact (kb_mm_deliver_b151 X hKs hlk hret hnm) (p0, p1, p2, p4, p5, p6) _ _ _ _ _ _ _ _ hw (lh_pk hl [0, 1, 2, 3, 4, 5] rfl) h hci hcj
  · rw [if_neg hc132] at h
    refine lv_icmp_ne (tgt := 151) X.1 X.2.1 dd_mm_deliver_132 (by decide) (fun _ => ?_) (fun z => absurd z hc132)
    exact (kb_mm_deliver_b151 X hKs hlk hret hnm) (p0, p1, p2, p4, p5, p6) _ _ _ _ _ _ _ _ hw (lh_pk hl [0, 1, 2, 3, 4, 5] rfl) h hci hcj
set_option maxHeartbeats 4000000 in
set_option maxRecDepth 100000 in
theorem kb_mm_deliver_b114 {p : Program} {l : Launch} {e : Env} {s : State} {m : MethodId} {args : Array Value} {below : List Frame} {meth : Method} {c : Code} {D : va_G} {ac : Nat → ClassId} {a0 : Nat} {gl : gl_T} {rF : Int32} {stF : st_S} {iT jT : Nat}
    (X : cx_ p s m args c prog_12_method_13_code 9 "PromiseVatsModel" tb_ D cl_ (ty_ ac)) (hKs : kn_ D ac a0 gl s) (hlk : meth.locks = false) (hret : meth.sig.returnType = (Option.some FieldType.int)) (hnm : meth.name = "delive\x72") : wk_ p l e 5 127 s m args below meth c D cl_ ac a0 9 vb_i rF stF iT jT 114 (fun x : Option Nat × Int32 × Int32 × Int32 × Int32 × Int32 × Int32 => [(0, (va_rf x.1)), (1, (.int x.2.1)), (2, (.int x.2.2.1)), (4, (.int x.2.2.2.1)), (5, (.int x.2.2.2.2.1)), (6, (.int x.2.2.2.2.2.1)), (7, (.int x.2.2.2.2.2.2))]) (fun x : Option Nat × Int32 × Int32 × Int32 × Int32 × Int32 × Int32 => []) (fun x : Option Nat × Int32 × Int32 × Int32 × Int32 × Int32 × Int32 => mm_deliver_b114 gl x.1 x.2.1 x.2.2.1 x.2.2.2.1 x.2.2.2.2.1 x.2.2.2.2.2.1 x.2.2.2.2.2.2) := by
  intro x st H locs cells slots i j ls hw hl h hci hcj
  obtain ⟨p0, p1, p2, p4, p5, p6, p7⟩ := x
  have h : mm_deliver_b114 gl p0 p1 p2 p4 p5 p6 p7 st = some (rF, stF, i, j) := h
  unfold mm_deliver_b114 at h
  have hl : lh_ ls 9 [(0, (va_rf p0)), (1, (.int p1)), (2, (.int p2)), (4, (.int p4)), (5, (.int p5)), (6, (.int p6)), (7, (.int p7))] := hl
  refine W.eq (g2 := F0 m 114 ls []) rfl ?_
  refine lv_iload X.1 X.2.1 dd_mm_deliver_114 (lv_at hl.1 3 rfl) ?_
  refine lv_iconst (v := (2 : Int32)) X.1 X.2.1 dd_mm_deliver_116 (by decide) ?_
  by_cases hc117 : p4 = (2 : Int32)
  · rw [if_pos hc117] at h
    refine lv_icmp_ne (tgt := 129) X.1 X.2.1 dd_mm_deliver_117 (by decide) (fun z => absurd hc117 z) (fun _ => ?_)
    refine rr_aldn X dd_mm_deliver_120 rfl (lv_at hl.1 0 rfl) ?_
    refine lv_iload_n X.1 X.2.1 dd_mm_deliver_121 rfl (lv_at hl.1 2 rfl) ?_
    refine lv_iload X.1 X.2.1 dd_mm_deliver_122 (lv_at hl.1 4 rfl) ?_
    refine lv_iload X.1 X.2.1 dd_mm_deliver_124 (lv_at hl.1 6 rfl) ?_
    obtain ⟨t73, ht73, h⟩ := st_g_some h
    obtain ⟨t65, t66, t67, t68, t69, t70, ht65, h, ei, ej⟩ := st_b_some h
    refine rr_callV (n := 3) (As := [(.int p2), (.int p5), (.int p7)]) (rest := []) X hw (kn_ok D ac a0 gl) hKs (kc_mm_settle l D ac a0 gl p0 p2 p5 p7 _ _ _ _ _ ht65) tb_good tw_500 tw_469 tw_501 tw_502 se_50 ht73 (by decide +kernel) rfl (show 3 + 1 ≤ _ ∧ 8 + (9 + 11) + 77 ≤ _ from ⟨Nat.le_of_ble_eq_true rfl, Nat.le_of_ble_eq_true rfl⟩) (show cells + t67 ≤ iT ∧ slots + t68 ≤ jT from ⟨ar_1 hci ei, ar_1 hcj ej⟩) hl.1.1 (by simp [rf_cat, ic_cat]) rfl dd_mm_deliver_126 (sk := []) rfl (fun H locs hw => ?_)
    have hci : cells + t67 + t69 = iT := ar_2 hci ei
    have hcj : slots + t68 + t70 = jT := ar_2 hcj ej
    clear ei ej
    generalize cells + t67 = t71 at hci ⊢
    generalize slots + t68 = t72 at hcj ⊢
    exact (kb_mm_deliver_b129 X hKs hlk hret hnm) (p0, p1, p2, p4, p5, p6) _ _ _ _ _ _ _ _ hw (lh_pk hl [0, 1, 2, 3, 4, 5] rfl) h hci hcj
  · rw [if_neg hc117] at h
    refine lv_icmp_ne (tgt := 129) X.1 X.2.1 dd_mm_deliver_117 (by decide) (fun _ => ?_) (fun z => absurd z hc117)
    exact (kb_mm_deliver_b129 X hKs hlk hret hnm) (p0, p1, p2, p4, p5, p6) _ _ _ _ _ _ _ _ hw (lh_pk hl [0, 1, 2, 3, 4, 5] rfl) h hci hcj
set_option maxHeartbeats 4000000 in
set_option maxRecDepth 100000 in
theorem kc_mm_deliver (l : Launch) (D : va_G) (ac : Nat → ClassId) (a0 : Nat) (gl : gl_T) (v0 : Option Nat) (v1 : Int32) (v2 : Int32) (st : st_S) (rF : Int32) (stF : st_S) (iT jT : Nat) (h : mm_deliver gl v0 v1 v2 st = some (rF, stF, iT, jT)) :
    ct_ l ⟨"PromiseVatsModel", "delive\x72", "(II)I"⟩ (Cond.code ⟨"PromiseVatsModel", "delive\x72", "(II)I"⟩ prog_12_method_13_code 9 (Option.some FieldType.int) :: tb_) 5 127 D cl_ ac a0 (kn_ D ac a0 gl) [(va_rf v0), (.int v1), (.int v2)] st (vb_i rF) stF iT jT := by
  refine ct_of (kn_ok D ac a0 gl) (plainFor_of_name (by decide +kernel)) (by simp [rf_cat, ic_cat]) (by simp) ?_
  intro p e s m args below meth c ls X hw hKs hlk hret hnm hl
  unfold mm_deliver at h
  have hl : lh_ ls 9 [(0, (va_rf v0)), (1, (.int v1)), (2, (.int v2))] := hl
  obtain ⟨z0, hz0⟩ : ∃ z : Nat, 0 = z := ⟨0, rfl⟩
  obtain ⟨z1, hz1⟩ : ∃ z : Nat, 0 = z := ⟨0, rfl⟩
  refine W.cs hz0 hz1 ?_
  have hci : z0 + iT = iT := by omega
  have hcj : z1 + jT = jT := by omega
  refine rr_aldn X dd_mm_deliver_0 rfl (lv_at hl.1 0 rfl) ?_
  refine lv_iload_n X.1 X.2.1 dd_mm_deliver_1 rfl (lv_at hl.1 1 rfl) ?_
  obtain ⟨t64, ht64, h⟩ := st_g_some h
  obtain ⟨t1, t2, t3, t4, t5, t6, ht1, h, ei, ej⟩ := st_b_some h
  refine rr_callV (n := 1) (As := [(.int v1)]) (rest := []) X hw (kn_ok D ac a0 gl) hKs (kc_mm_vat l D ac a0 gl v0 v1 _ _ _ _ _ ht1) tb_good tw_516 tw_469 tw_517 tw_518 se_54 ht64 (by decide +kernel) rfl (show 0 + 1 ≤ _ ∧ 8 + (2 + 11) + 0 ≤ _ from ⟨Nat.le_of_ble_eq_true rfl, Nat.le_of_ble_eq_true rfl⟩) (show z0 + t3 ≤ iT ∧ z1 + t4 ≤ jT from ⟨ar_1 hci ei, ar_1 hcj ej⟩) hl.1.1 (by simp [rf_cat, ic_cat]) rfl dd_mm_deliver_2 (sk := [(.int t1)]) rfl (fun H locs hw => ?_)
  have hci : z0 + t3 + t5 = iT := ar_2 hci ei
  have hcj : z1 + t4 + t6 = jT := ar_2 hcj ej
  clear ei ej
  generalize z0 + t3 = t7 at hci ⊢
  generalize z1 + t4 = t8 at hcj ⊢
  by_cases hc5 : t1 = 0
  · rw [if_pos hc5] at h
    refine lv_if_eq (tgt := 21) X.1 X.2.1 dd_mm_deliver_5 (by decide) (fun _ => ?_) (fun z => absurd hc5 z)
    exact (kb_mm_deliver_b21 X hKs hlk hret hnm) () _ _ _ _ _ _ _ _ hw (lh_pk hl [] rfl) h hci hcj
  · rw [if_neg hc5] at h
    refine lv_if_eq (tgt := 21) X.1 X.2.1 dd_mm_deliver_5 (by decide) (fun z => absurd z hc5) (fun _ => ?_)
    refine rr_aldn X dd_mm_deliver_8 rfl (lv_at hl.1 0 rfl) ?_
    refine lv_iload_n X.1 X.2.1 dd_mm_deliver_9 rfl (lv_at hl.1 2 rfl) ?_
    obtain ⟨t63, ht63, h⟩ := st_g_some h
    obtain ⟨t9, t10, t11, t12, t13, t14, ht9, h, ei, ej⟩ := st_b_some h
    refine rr_callV (n := 1) (As := [(.int v2)]) (rest := []) X hw (kn_ok D ac a0 gl) hKs (kc_mm_vat l D ac a0 gl v0 v2 _ _ _ _ _ ht9) tb_good tw_516 tw_469 tw_517 tw_518 se_54 ht63 (by decide +kernel) rfl (show 0 + 1 ≤ _ ∧ 8 + (2 + 11) + 0 ≤ _ from ⟨Nat.le_of_ble_eq_true rfl, Nat.le_of_ble_eq_true rfl⟩) (show t7 + t11 ≤ iT ∧ t8 + t12 ≤ jT from ⟨ar_1 hci ei, ar_1 hcj ej⟩) hl.1.1 (by simp [rf_cat, ic_cat]) rfl dd_mm_deliver_10 (sk := [(.int t9)]) rfl (fun H locs hw => ?_)
    have hci : t7 + t11 + t13 = iT := ar_2 hci ei
    have hcj : t8 + t12 + t14 = jT := ar_2 hcj ej
    clear ei ej
    generalize t7 + t11 = t15 at hci ⊢
    generalize t8 + t12 = t16 at hcj ⊢
    by_cases hc13 : t9 = 0
    · rw [if_pos hc13] at h
      refine lv_if_eq (tgt := 21) X.1 X.2.1 dd_mm_deliver_13 (by decide) (fun _ => ?_) (fun z => absurd hc13 z)
      exact (kb_mm_deliver_b21 X hKs hlk hret hnm) () _ _ _ _ _ _ _ _ hw (lh_pk hl [] rfl) h hci hcj
    · rw [if_neg hc13] at h
      refine lv_if_eq (tgt := 21) X.1 X.2.1 dd_mm_deliver_13 (by decide) (fun z => absurd z hc13) (fun _ => ?_)
      refine lv_iload_n X.1 X.2.1 dd_mm_deliver_16 rfl (lv_at hl.1 1 rfl) ?_
      refine lv_iload_n X.1 X.2.1 dd_mm_deliver_17 rfl (lv_at hl.1 2 rfl) ?_
      by_cases hc18 : v1 = v2
      · rw [if_pos hc18] at h
        refine lv_icmp_ne (tgt := 23) X.1 X.2.1 dd_mm_deliver_18 (by decide) (fun z => absurd hc18 z) (fun _ => ?_)
        exact (kb_mm_deliver_b21 X hKs hlk hret hnm) () _ _ _ _ _ _ _ _ hw (lh_pk hl [] rfl) h hci hcj
      · rw [if_neg hc18] at h
        refine lv_icmp_ne (tgt := 23) X.1 X.2.1 dd_mm_deliver_18 (by decide) (fun _ => ?_) (fun z => absurd z hc18)
        refine rr_aldn X dd_mm_deliver_23 rfl (lv_at hl.1 0 rfl) ?_
        refine lv_iconst (v := (4 : Int32)) X.1 X.2.1 dd_mm_deliver_24 (by decide) ?_
        refine lv_iload_n X.1 X.2.1 dd_mm_deliver_25 rfl (lv_at hl.1 1 rfl) ?_
        refine lv_imul X.1 X.2.1 dd_mm_deliver_26 ?_
        refine lv_iload_n X.1 X.2.1 dd_mm_deliver_27 rfl (lv_at hl.1 2 rfl) ?_
        refine lv_iadd X.1 X.2.1 dd_mm_deliver_28 ?_
        obtain ⟨t62, ht62, h⟩ := st_g_some h
        obtain ⟨t17, t18, t19, t20, t21, t22, ht17, h, ei, ej⟩ := st_b_some h
        refine rr_callV (n := 1) (As := [(.int (((4 : Int32) * v1) + v2))]) (rest := []) X hw (kn_ok D ac a0 gl) hKs (kc_mm_oldest l D ac a0 gl v0 (((4 : Int32) * v1) + v2) _ _ _ _ _ ht17) tb_good tw_512 tw_469 tw_513 tw_514 se_53 ht62 (by decide +kernel) rfl (show 0 + 1 ≤ _ ∧ 8 + (3 + 11) + 0 ≤ _ from ⟨Nat.le_of_ble_eq_true rfl, Nat.le_of_ble_eq_true rfl⟩) (show t15 + t19 ≤ iT ∧ t16 + t20 ≤ jT from ⟨ar_1 hci ei, ar_1 hcj ej⟩) hl.1.1 (by simp [rf_cat, ic_cat]) rfl dd_mm_deliver_29 (sk := [(.int t17)]) rfl (fun H locs hw => ?_)
        have hci : t15 + t19 + t21 = iT := ar_2 hci ei
        have hcj : t16 + t20 + t22 = jT := ar_2 hcj ej
        clear ei ej
        generalize t15 + t19 = t23 at hci ⊢
        generalize t16 + t20 = t24 at hcj ⊢
        refine rr_istn (lv' := [(3, (.int t17)), (0, (va_rf v0)), (1, (.int v1)), (2, (.int v2))]) X dd_mm_deliver_32 rfl hl (by decide) rfl (fun ls hl => ?_)
        refine lv_iload_n X.1 X.2.1 dd_mm_deliver_33 rfl (lv_at hl.1 0 rfl) ?_
        by_cases hc34 : 0 ≤ t17
        · rw [if_pos hc34] at h
          refine lv_if_ge (tgt := 39) X.1 X.2.1 dd_mm_deliver_34 (by decide) (fun _ => ?_) (fun z => absurd hc34 z)
          refine rr_aldn X dd_mm_deliver_39 rfl (lv_at hl.1 1 rfl) ?_
          obtain ⟨t25, ht25, h⟩ := st_g_some h
          refine rr_getq X hw ff_10_25 ht25 tw_445 (Or.inl rfl) dd_mm_deliver_40 ?_
          refine lv_iload_n X.1 X.2.1 dd_mm_deliver_43 rfl (lv_at hl.1 0 rfl) ?_
          obtain ⟨t26, ht26, h⟩ := st_g_some h
          refine rr_bald (t := 1) X hw rfl ht26 dd_mm_deliver_44 ?_
          refine lv_bipush (v := (16 : Int32)) X.1 X.2.1 dd_mm_deliver_45 (by decide) ?_
          refine lv_idiv X.1 X.2.1 dd_mm_deliver_47 (by decide) ?_
          refine rr_ist (lv' := [(4, (.int (t26 / (16 : Int32)))), (3, (.int t17)), (0, (va_rf v0)), (1, (.int v1)), (2, (.int v2))]) X dd_mm_deliver_48 hl (by decide) rfl (fun ls hl => ?_)
          refine rr_aldn X dd_mm_deliver_50 rfl (lv_at hl.1 2 rfl) ?_
          obtain ⟨t27, ht27, h⟩ := st_g_some h
          refine rr_getq X hw ff_10_26 ht27 tw_444 (Or.inl rfl) dd_mm_deliver_51 ?_
          refine lv_iload_n X.1 X.2.1 dd_mm_deliver_54 rfl (lv_at hl.1 1 rfl) ?_
          obtain ⟨t28, ht28, h⟩ := st_g_some h
          refine rr_sald (t := 3) X hw rfl ht28 dd_mm_deliver_55 ?_
          refine rr_ist (lv' := [(5, (.int t28)), (4, (.int (t26 / (16 : Int32)))), (3, (.int t17)), (0, (va_rf v0)), (1, (.int v1)), (2, (.int v2))]) X dd_mm_deliver_56 hl (by decide) rfl (fun ls hl => ?_)
          refine rr_aldn X dd_mm_deliver_58 rfl (lv_at hl.1 3 rfl) ?_
          obtain ⟨t29, ht29, h⟩ := st_g_some h
          refine rr_getq X hw ff_10_27 ht29 tw_443 (Or.inl rfl) dd_mm_deliver_59 ?_
          refine lv_iload_n X.1 X.2.1 dd_mm_deliver_62 rfl (lv_at hl.1 2 rfl) ?_
          obtain ⟨t30, ht30, h⟩ := st_g_some h
          refine rr_iald (t := 0) X hw rfl ht30 dd_mm_deliver_63 ?_
          refine rr_ist (lv' := [(6, (.int t30)), (5, (.int t28)), (4, (.int (t26 / (16 : Int32)))), (3, (.int t17)), (0, (va_rf v0)), (1, (.int v1)), (2, (.int v2))]) X dd_mm_deliver_64 hl (by decide) rfl (fun ls hl => ?_)
          refine rr_aldn X dd_mm_deliver_66 rfl (lv_at hl.1 4 rfl) ?_
          obtain ⟨t31, ht31, h⟩ := st_g_some h
          refine rr_getq X hw ff_10_28 ht31 tw_442 (Or.inl rfl) dd_mm_deliver_67 ?_
          refine lv_iload_n X.1 X.2.1 dd_mm_deliver_70 rfl (lv_at hl.1 3 rfl) ?_
          obtain ⟨t32, ht32, h⟩ := st_g_some h
          refine rr_sald (t := 3) X hw rfl ht32 dd_mm_deliver_71 ?_
          refine rr_ist (lv' := [(7, (.int t32)), (6, (.int t30)), (5, (.int t28)), (4, (.int (t26 / (16 : Int32)))), (3, (.int t17)), (0, (va_rf v0)), (1, (.int v1)), (2, (.int v2))]) X dd_mm_deliver_72 hl (by decide) rfl (fun ls hl => ?_)
          refine rr_aldn X dd_mm_deliver_74 rfl (lv_at hl.1 5 rfl) ?_
          obtain ⟨t33, ht33, h⟩ := st_g_some h
          refine rr_getq X hw ff_10_29 ht33 tw_441 (Or.inl rfl) dd_mm_deliver_75 ?_
          refine lv_iload_n X.1 X.2.1 dd_mm_deliver_78 rfl (lv_at hl.1 4 rfl) ?_
          obtain ⟨t34, ht34, h⟩ := st_g_some h
          refine rr_sald (t := 3) X hw rfl ht34 dd_mm_deliver_79 ?_
          refine rr_ist (lv' := [(8, (.int t34)), (7, (.int t32)), (6, (.int t30)), (5, (.int t28)), (4, (.int (t26 / (16 : Int32)))), (3, (.int t17)), (0, (va_rf v0)), (1, (.int v1)), (2, (.int v2))]) X dd_mm_deliver_80 hl (by decide) rfl (fun ls hl => ?_)
          refine rr_aldn X dd_mm_deliver_82 rfl (lv_at hl.1 6 rfl) ?_
          refine lv_iload_n X.1 X.2.1 dd_mm_deliver_83 rfl (lv_at hl.1 5 rfl) ?_
          obtain ⟨t61, ht61, h⟩ := st_g_some h
          obtain ⟨t35, t36, t37, t38, t39, t40, ht35, h, ei, ej⟩ := st_b_some h
          refine rr_callV (n := 1) (As := [(.int t17)]) (rest := []) X hw (kn_ok D ac a0 gl) hKs (kc_mm_unmail l D ac a0 gl v0 t17 _ _ _ _ _ ht35) tb_good tw_508 tw_469 tw_509 tw_510 se_52 ht61 (by decide +kernel) rfl (show 0 + 1 ≤ _ ∧ 8 + (3 + 11) + 0 ≤ _ from ⟨Nat.le_of_ble_eq_true rfl, Nat.le_of_ble_eq_true rfl⟩) (show t23 + t37 ≤ iT ∧ t24 + t38 ≤ jT from ⟨ar_1 hci ei, ar_1 hcj ej⟩) hl.1.1 (by simp [rf_cat, ic_cat]) rfl dd_mm_deliver_84 (sk := []) rfl (fun H locs hw => ?_)
          have hci : t23 + t37 + t39 = iT := ar_2 hci ei
          have hcj : t24 + t38 + t40 = jT := ar_2 hcj ej
          clear ei ej
          generalize t23 + t37 = t41 at hci ⊢
          generalize t24 + t38 = t42 at hcj ⊢
          refine rr_aldn X dd_mm_deliver_87 rfl (lv_at hl.1 6 rfl) ?_
          refine lv_iload_n X.1 X.2.1 dd_mm_deliver_88 rfl (lv_at hl.1 7 rfl) ?_
          refine lv_iload_n X.1 X.2.1 dd_mm_deliver_89 rfl (lv_at hl.1 8 rfl) ?_
          refine lv_iload X.1 X.2.1 dd_mm_deliver_90 (lv_at hl.1 1 rfl) ?_
          obtain ⟨t60, ht60, h⟩ := st_g_some h
          obtain ⟨t43, t44, t45, t46, t47, t48, ht43, h, ei, ej⟩ := st_b_some h
          refine rr_callV (n := 3) (As := [(.int v1), (.int v2), (.int t32)]) (rest := []) X hw (kn_ok D ac a0 gl) hKs (kc_mm_unpack l D ac a0 gl v0 v1 v2 t32 _ _ _ _ _ ht43) tb_good tw_504 tw_469 tw_505 tw_506 se_51 ht60 (by decide +kernel) rfl (show 1 + 1 ≤ _ ∧ 8 + (4 + 11) + 26 ≤ _ from ⟨Nat.le_of_ble_eq_true rfl, Nat.le_of_ble_eq_true rfl⟩) (show t41 + t45 ≤ iT ∧ t42 + t46 ≤ jT from ⟨ar_1 hci ei, ar_1 hcj ej⟩) hl.1.1 (by simp [rf_cat, ic_cat]) rfl dd_mm_deliver_92 (sk := []) rfl (fun H locs hw => ?_)
          have hci : t41 + t45 + t47 = iT := ar_2 hci ei
          have hcj : t42 + t46 + t48 = jT := ar_2 hcj ej
          clear ei ej
          generalize t41 + t45 = t49 at hci ⊢
          generalize t42 + t46 = t50 at hcj ⊢
          refine lv_iload X.1 X.2.1 dd_mm_deliver_95 (lv_at hl.1 4 rfl) ?_
          refine lv_iconst (v := (1 : Int32)) X.1 X.2.1 dd_mm_deliver_97 (by decide) ?_
          by_cases hc98 : (t26 / (16 : Int32)) = (1 : Int32)
          · rw [if_pos hc98] at h
            refine lv_icmp_ne (tgt := 114) X.1 X.2.1 dd_mm_deliver_98 (by decide) (fun z => absurd hc98 z) (fun _ => ?_)
            refine rr_aldn X dd_mm_deliver_101 rfl (lv_at hl.1 6 rfl) ?_
            refine lv_iload_n X.1 X.2.1 dd_mm_deliver_102 rfl (lv_at hl.1 8 rfl) ?_
            refine lv_iload X.1 X.2.1 dd_mm_deliver_103 (lv_at hl.1 3 rfl) ?_
            refine lv_iload X.1 X.2.1 dd_mm_deliver_105 (lv_at hl.1 2 rfl) ?_
            refine lv_iload X.1 X.2.1 dd_mm_deliver_107 (lv_at hl.1 1 rfl) ?_
            refine lv_iload X.1 X.2.1 dd_mm_deliver_109 (lv_at hl.1 0 rfl) ?_
            obtain ⟨t59, ht59, h⟩ := st_g_some h
            obtain ⟨t51, t52, t53, t54, t55, t56, ht51, h, ei, ej⟩ := st_b_some h
            refine rr_callV (n := 5) (As := [(.int v2), (.int t28), (.int t30), (.int t32), (.int t34)]) (rest := []) X hw (kn_ok D ac a0 gl) hKs (kc_mm_go l D ac a0 gl v0 v2 t28 t30 t32 t34 _ _ _ _ _ ht51) tb_good tw_492 tw_469 tw_493 tw_494 se_48 ht59 (by decide +kernel) rfl (show 2 + 1 ≤ _ ∧ 8 + (8 + 11) + 50 ≤ _ from ⟨Nat.le_of_ble_eq_true rfl, Nat.le_of_ble_eq_true rfl⟩) (show t49 + t53 ≤ iT ∧ t50 + t54 ≤ jT from ⟨ar_1 hci ei, ar_1 hcj ej⟩) hl.1.1 (by simp [rf_cat, ic_cat]) rfl dd_mm_deliver_111 (sk := []) rfl (fun H locs hw => ?_)
            have hci : t49 + t53 + t55 = iT := ar_2 hci ei
            have hcj : t50 + t54 + t56 = jT := ar_2 hcj ej
            clear ei ej
            generalize t49 + t53 = t57 at hci ⊢
            generalize t50 + t54 = t58 at hcj ⊢
            exact (kb_mm_deliver_b114 X hKs hlk hret hnm) (v0, v1, v2, (t26 / (16 : Int32)), t28, t30, t32) _ _ _ _ _ _ _ _ hw (lh_pk hl [6, 7, 8, 4, 3, 2, 1] rfl) h hci hcj
          · rw [if_neg hc98] at h
            refine lv_icmp_ne (tgt := 114) X.1 X.2.1 dd_mm_deliver_98 (by decide) (fun _ => ?_) (fun z => absurd z hc98)
            exact (kb_mm_deliver_b114 X hKs hlk hret hnm) (v0, v1, v2, (t26 / (16 : Int32)), t28, t30, t32) _ _ _ _ _ _ _ _ hw (lh_pk hl [6, 7, 8, 4, 3, 2, 1] rfl) h hci hcj
        · rw [if_neg hc34] at h
          refine lv_if_ge (tgt := 39) X.1 X.2.1 dd_mm_deliver_34 (by decide) (fun z => absurd z hc34) (fun _ => ?_)
          refine lv_iconst (v := (0 : Int32)) X.1 X.2.1 dd_mm_deliver_37 (by decide) ?_
          obtain ⟨rfl, rfl, rfl, rfl⟩ := st_r_some h
          exact rr_iret X hw hlk hret rfl hci hcj dd_mm_deliver_38
