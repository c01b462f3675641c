/-! PromiseVatsModel.spread(I)V -/
theorem dd_mm_spread_0 : decode prog_12_method_31_code 0 = .ok (.iconst 1, 1) := by decide +kernel
theorem dd_mm_spread_1 : decode prog_12_method_31_code 1 = .ok (.istore_n 2, 1) := by decide +kernel
theorem dd_mm_spread_2 : decode prog_12_method_31_code 2 = .ok (.iload_n 2, 1) := by decide +kernel
theorem dd_mm_spread_3 : decode prog_12_method_31_code 3 = .ok (.sipush 200, 3) := by decide +kernel
theorem dd_mm_spread_6 : decode prog_12_method_31_code 6 = .ok (.if_icmp .gt 98, 3) := by decide +kernel
theorem dd_mm_spread_9 : decode prog_12_method_31_code 9 = .ok (.aload_n 0, 1) := by decide +kernel
theorem dd_mm_spread_10 : decode prog_12_method_31_code 10 = .ok (.iload_n 2, 1) := by decide +kernel
theorem dd_mm_spread_11 : decode prog_12_method_31_code 11 = .ok (.invokevirtual 193, 3) := by decide +kernel
theorem dd_mm_spread_14 : decode prog_12_method_31_code 14 = .ok (.ifCond .eq 84, 3) := by decide +kernel
theorem dd_mm_spread_17 : decode prog_12_method_31_code 17 = .ok (.aload_n 0, 1) := by decide +kernel
theorem dd_mm_spread_18 : decode prog_12_method_31_code 18 = .ok (.getfield 19, 3) := by decide +kernel
theorem dd_mm_spread_21 : decode prog_12_method_31_code 21 = .ok (.iload_n 2, 1) := by decide +kernel
theorem dd_mm_spread_22 : decode prog_12_method_31_code 22 = .ok (.baload, 1) := by decide +kernel
theorem dd_mm_spread_23 : decode prog_12_method_31_code 23 = .ok (.iload_n 1, 1) := by decide +kernel
theorem dd_mm_spread_24 : decode prog_12_method_31_code 24 = .ok (.if_icmp .ne 74, 3) := by decide +kernel
theorem dd_mm_spread_27 : decode prog_12_method_31_code 27 = .ok (.aload_n 0, 1) := by decide +kernel
theorem dd_mm_spread_28 : decode prog_12_method_31_code 28 = .ok (.getfield 33, 3) := by decide +kernel
theorem dd_mm_spread_31 : decode prog_12_method_31_code 31 = .ok (.iload_n 2, 1) := by decide +kernel
theorem dd_mm_spread_32 : decode prog_12_method_31_code 32 = .ok (.baload, 1) := by decide +kernel
theorem dd_mm_spread_33 : decode prog_12_method_31_code 33 = .ok (.ifCond .eq 65, 3) := by decide +kernel
theorem dd_mm_spread_36 : decode prog_12_method_31_code 36 = .ok (.iload_n 2, 1) := by decide +kernel
theorem dd_mm_spread_37 : decode prog_12_method_31_code 37 = .ok (.bipush 100, 2) := by decide +kernel
theorem dd_mm_spread_39 : decode prog_12_method_31_code 39 = .ok (.if_icmp .le 26, 3) := by decide +kernel
theorem dd_mm_spread_42 : decode prog_12_method_31_code 42 = .ok (.aload_n 0, 1) := by decide +kernel
theorem dd_mm_spread_43 : decode prog_12_method_31_code 43 = .ok (.aload_n 0, 1) := by decide +kernel
theorem dd_mm_spread_44 : decode prog_12_method_31_code 44 = .ok (.getfield 27, 3) := by decide +kernel
theorem dd_mm_spread_47 : decode prog_12_method_31_code 47 = .ok (.iload_n 2, 1) := by decide +kernel
theorem dd_mm_spread_48 : decode prog_12_method_31_code 48 = .ok (.baload, 1) := by decide +kernel
theorem dd_mm_spread_49 : decode prog_12_method_31_code 49 = .ok (.ifCond .eq 12, 3) := by decide +kernel
theorem dd_mm_spread_52 : decode prog_12_method_31_code 52 = .ok (.aload_n 0, 1) := by decide +kernel
theorem dd_mm_spread_53 : decode prog_12_method_31_code 53 = .ok (.getfield 30, 3) := by decide +kernel
theorem dd_mm_spread_56 : decode prog_12_method_31_code 56 = .ok (.iload_n 2, 1) := by decide +kernel
theorem dd_mm_spread_57 : decode prog_12_method_31_code 57 = .ok (.iaload, 1) := by decide +kernel
theorem dd_mm_spread_58 : decode prog_12_method_31_code 58 = .ok (.goto 4, 3) := by decide +kernel
theorem dd_mm_spread_61 : decode prog_12_method_31_code 61 = .ok (.iconst 0, 1) := by decide +kernel
theorem dd_mm_spread_62 : decode prog_12_method_31_code 62 = .ok (.invokevirtual 196, 3) := by decide +kernel
theorem dd_mm_spread_65 : decode prog_12_method_31_code 65 = .ok (.iconst 0, 1) := by decide +kernel
theorem dd_mm_spread_66 : decode prog_12_method_31_code 66 = .ok (.istore_n 3, 1) := by decide +kernel
theorem dd_mm_spread_67 : decode prog_12_method_31_code 67 = .ok (.iload_n 3, 1) := by decide +kernel
theorem dd_mm_spread_68 : decode prog_12_method_31_code 68 = .ok (.iconst 4, 1) := by decide +kernel
theorem dd_mm_spread_69 : decode prog_12_method_31_code 69 = .ok (.if_icmp .ge 29, 3) := by decide +kernel
theorem dd_mm_spread_72 : decode prog_12_method_31_code 72 = .ok (.iload_n 2, 1) := by decide +kernel
theorem dd_mm_spread_73 : decode prog_12_method_31_code 73 = .ok (.bipush 60, 2) := by decide +kernel
theorem dd_mm_spread_75 : decode prog_12_method_31_code 75 = .ok (.if_icmp .gt 23, 3) := by decide +kernel
theorem dd_mm_spread_78 : decode prog_12_method_31_code 78 = .ok (.aload_n 0, 1) := by decide +kernel
theorem dd_mm_spread_79 : decode prog_12_method_31_code 79 = .ok (.aload_n 0, 1) := by decide +kernel
theorem dd_mm_spread_80 : decode prog_12_method_31_code 80 = .ok (.getfield 42, 3) := by decide +kernel
theorem dd_mm_spread_83 : decode prog_12_method_31_code 83 = .ok (.iconst 4, 1) := by decide +kernel
theorem dd_mm_spread_84 : decode prog_12_method_31_code 84 = .ok (.iload_n 2, 1) := by decide +kernel
theorem dd_mm_spread_85 : decode prog_12_method_31_code 85 = .ok (.imul, 1) := by decide +kernel
theorem dd_mm_spread_86 : decode prog_12_method_31_code 86 = .ok (.iload_n 3, 1) := by decide +kernel
theorem dd_mm_spread_87 : decode prog_12_method_31_code 87 = .ok (.iadd, 1) := by decide +kernel
theorem dd_mm_spread_88 : decode prog_12_method_31_code 88 = .ok (.iaload, 1) := by decide +kernel
theorem dd_mm_spread_89 : decode prog_12_method_31_code 89 = .ok (.invokevirtual 196, 3) := by decide +kernel
theorem dd_mm_spread_92 : decode prog_12_method_31_code 92 = .ok (.iinc 3 1, 3) := by decide +kernel
theorem dd_mm_spread_95 : decode prog_12_method_31_code 95 = .ok (.goto (-28), 3) := by decide +kernel
theorem dd_mm_spread_98 : decode prog_12_method_31_code 98 = .ok (.iinc 2 1, 3) := by decide +kernel
theorem dd_mm_spread_101 : decode prog_12_method_31_code 101 = .ok (.goto (-99), 3) := by decide +kernel
theorem dd_mm_spread_104 : decode prog_12_method_31_code 104 = .ok (.iconst 0, 1) := by decide +kernel
theorem dd_mm_spread_105 : decode prog_12_method_31_code 105 = .ok (.istore_n 2, 1) := by decide +kernel
theorem dd_mm_spread_106 : decode prog_12_method_31_code 106 = .ok (.iload_n 2, 1) := by decide +kernel
theorem dd_mm_spread_107 : decode prog_12_method_31_code 107 = .ok (.aload_n 0, 1) := by decide +kernel
theorem dd_mm_spread_108 : decode prog_12_method_31_code 108 = .ok (.getfield 144, 3) := by decide +kernel
theorem dd_mm_spread_111 : decode prog_12_method_31_code 111 = .ok (.if_icmp .ge 59, 3) := by decide +kernel
theorem dd_mm_spread_114 : decode prog_12_method_31_code 114 = .ok (.aload_n 0, 1) := by decide +kernel
theorem dd_mm_spread_115 : decode prog_12_method_31_code 115 = .ok (.getfield 54, 3) := by decide +kernel
theorem dd_mm_spread_118 : decode prog_12_method_31_code 118 = .ok (.iload_n 2, 1) := by decide +kernel
theorem dd_mm_spread_119 : decode prog_12_method_31_code 119 = .ok (.iaload, 1) := by decide +kernel
theorem dd_mm_spread_120 : decode prog_12_method_31_code 120 = .ok (.bipush 100, 2) := by decide +kernel
theorem dd_mm_spread_122 : decode prog_12_method_31_code 122 = .ok (.if_icmp .le 42, 3) := by decide +kernel
theorem dd_mm_spread_125 : decode prog_12_method_31_code 125 = .ok (.aload_n 0, 1) := by decide +kernel
theorem dd_mm_spread_126 : decode prog_12_method_31_code 126 = .ok (.getfield 19, 3) := by decide +kernel
theorem dd_mm_spread_129 : decode prog_12_method_31_code 129 = .ok (.aload_n 0, 1) := by decide +kernel
theorem dd_mm_spread_130 : decode prog_12_method_31_code 130 = .ok (.getfield 54, 3) := by decide +kernel
theorem dd_mm_spread_133 : decode prog_12_method_31_code 133 = .ok (.iload_n 2, 1) := by decide +kernel
theorem dd_mm_spread_134 : decode prog_12_method_31_code 134 = .ok (.iaload, 1) := by decide +kernel
theorem dd_mm_spread_135 : decode prog_12_method_31_code 135 = .ok (.baload, 1) := by decide +kernel
theorem dd_mm_spread_136 : decode prog_12_method_31_code 136 = .ok (.iload_n 1, 1) := by decide +kernel
theorem dd_mm_spread_137 : decode prog_12_method_31_code 137 = .ok (.if_icmp .ne 27, 3) := by decide +kernel
theorem dd_mm_spread_140 : decode prog_12_method_31_code 140 = .ok (.aload_n 0, 1) := by decide +kernel
theorem dd_mm_spread_141 : decode prog_12_method_31_code 141 = .ok (.getfield 33, 3) := by decide +kernel
theorem dd_mm_spread_144 : decode prog_12_method_31_code 144 = .ok (.aload_n 0, 1) := by decide +kernel
theorem dd_mm_spread_145 : decode prog_12_method_31_code 145 = .ok (.getfield 54, 3) := by decide +kernel
theorem dd_mm_spread_148 : decode prog_12_method_31_code 148 = .ok (.iload_n 2, 1) := by decide +kernel
theorem dd_mm_spread_149 : decode prog_12_method_31_code 149 = .ok (.iaload, 1) := by decide +kernel
theorem dd_mm_spread_150 : decode prog_12_method_31_code 150 = .ok (.baload, 1) := by decide +kernel
theorem dd_mm_spread_151 : decode prog_12_method_31_code 151 = .ok (.ifCond .eq 13, 3) := by decide +kernel
theorem dd_mm_spread_154 : decode prog_12_method_31_code 154 = .ok (.aload_n 0, 1) := by decide +kernel
theorem dd_mm_spread_155 : decode prog_12_method_31_code 155 = .ok (.aload_n 0, 1) := by decide +kernel
theorem dd_mm_spread_156 : decode prog_12_method_31_code 156 = .ok (.getfield 63, 3) := by decide +kernel
theorem dd_mm_spread_159 : decode prog_12_method_31_code 159 = .ok (.iload_n 2, 1) := by decide +kernel
theorem dd_mm_spread_160 : decode prog_12_method_31_code 160 = .ok (.iaload, 1) := by decide +kernel
theorem dd_mm_spread_161 : decode prog_12_method_31_code 161 = .ok (.invokevirtual 196, 3) := by decide +kernel
theorem dd_mm_spread_164 : decode prog_12_method_31_code 164 = .ok (.iinc 2 1, 3) := by decide +kernel
theorem dd_mm_spread_167 : decode prog_12_method_31_code 167 = .ok (.goto (-61), 3) := by decide +kernel
theorem dd_mm_spread_170 : decode prog_12_method_31_code 170 = .ok (.return_, 1) := by decide +kernel
set_option maxHeartbeats 4000000 in
set_option maxRecDepth 100000 in
theorem kb_mm_spread_b98 {p : Program} {l : Launch} {e : Env} {s : State} {m : MethodId} {args : Array Value} {below : List Frame} {meth : Method} {c : Code} {D : va_G} {ac : Nat → ClassId} {a0 : Nat} {gl : gl_T} {rF : Unit} {stF : st_S} {iT jT : Nat} {rec2 : Option Nat × Int32 × Int32 → st_M (Unit)}
    (X : cx_ p s m args c prog_12_method_31_code 4 "PromiseVatsModel" tb_ D cl_ (ty_ ac)) (hKs : kn_ D ac a0 gl s) (hlk : meth.locks = false) (hret : meth.sig.returnType = (Option.none : Option FieldType)) (hnm : meth.name = "spread") (hr2 : wk_ p l e 2 42 s m args below meth c D cl_ ac a0 4 vb_u rF stF iT jT 2 (fun x : Option Nat × Int32 × Int32 => [(0, (va_rf x.1)), (1, (.int x.2.1)), (2, (.int x.2.2))]) (fun x : Option Nat × Int32 × Int32 => []) rec2) : wk_ p l e 2 42 s m args below meth c D cl_ ac a0 4 vb_u rF stF iT jT 98 (fun x : Option Nat × Int32 × Int32 => [(0, (va_rf x.1)), (1, (.int x.2.1)), (2, (.int x.2.2))]) (fun x : Option Nat × Int32 × Int32 => []) (fun x : Option Nat × Int32 × Int32 => mm_spread_b98 gl rec2 x.1 x.2.1 x.2.2) := by
  intro x st H locs cells slots i j ls hw hl h hci hcj
  obtain ⟨p0, p1, p2⟩ := x
  have h : mm_spread_b98 gl rec2 p0 p1 p2 st = some (rF, stF, i, j) := h
  unfold mm_spread_b98 at h
  have hl : lh_ ls 4 [(0, (va_rf p0)), (1, (.int p1)), (2, (.int p2))] := hl
  refine W.eq (g2 := F0 m 98 ls []) rfl ?_
  refine rr_iinc (k := 2) (v := (p2 + (1 : Int32))) (lv' := [(2, (.int (p2 + (1 : Int32)))), (0, (va_rf p0)), (1, (.int p1))]) X dd_mm_spread_98 hl rfl (by rw [show Int32.ofInt (1) = (1 : Int32) from by decide]) (by decide) rfl (fun ls hl => ?_)
  refine lv_goto (tgt := 2) X.1 X.2.1 dd_mm_spread_101 (by decide) ?_
  exact hr2 (p0, p1, (p2 + (1 : Int32))) _ _ _ _ _ _ _ _ hw (lh_pk hl [1, 2, 0] rfl) h hci hcj
set_option maxHeartbeats 4000000 in
set_option maxRecDepth 100000 in
theorem kb_mm_spread_b67 {p : Program} {l : Launch} {e : Env} {s : State} {m : MethodId} {args : Array Value} {below : List Frame} {meth : Method} {c : Code} {D : va_G} {ac : Nat → ClassId} {a0 : Nat} {gl : gl_T} {rF : Unit} {stF : st_S} {iT jT : Nat} {rec2 : Option Nat × Int32 × Int32 → st_M (Unit)}
    (X : cx_ p s m args c prog_12_method_31_code 4 "PromiseVatsModel" tb_ D cl_ (ty_ ac)) (hKs : kn_ D ac a0 gl s) (hlk : meth.locks = false) (hret : meth.sig.returnType = (Option.none : Option FieldType)) (hnm : meth.name = "spread") (hr2 : wk_ p l e 2 42 s m args below meth c D cl_ ac a0 4 vb_u rF stF iT jT 2 (fun x : Option Nat × Int32 × Int32 => [(0, (va_rf x.1)), (1, (.int x.2.1)), (2, (.int x.2.2))]) (fun x : Option Nat × Int32 × Int32 => []) rec2) : wk_ p l e 2 42 s m args below meth c D cl_ ac a0 4 vb_u rF stF iT jT 67 (fun x : Option Nat × Int32 × Int32 × Int32 => [(0, (va_rf x.1)), (1, (.int x.2.1)), (2, (.int x.2.2.1)), (3, (.int x.2.2.2))]) (fun x : Option Nat × Int32 × Int32 × Int32 => []) (st_it (fun rec67 => (fun x : Option Nat × Int32 × Int32 × Int32 => mm_spread_b67 gl rec2 rec67 x.1 x.2.1 x.2.2.1 x.2.2.2)) fu_) := by
  refine wk_it ?_ _
  intro rec67 hr67 x st H locs cells slots i j ls hw hl h hci hcj
  obtain ⟨p0, p1, p2, p3⟩ := x
  have h : mm_spread_b67 gl rec2 rec67 p0 p1 p2 p3 st = some (rF, stF, i, j) := h
  unfold mm_spread_b67 at h
  have hl : lh_ ls 4 [(0, (va_rf p0)), (1, (.int p1)), (2, (.int p2)), (3, (.int p3))] := hl
  refine W.eq (g2 := F0 m 67 ls []) rfl ?_
  refine lv_iload_n X.1 X.2.1 dd_mm_spread_67 rfl (lv_at hl.1 3 rfl) ?_
  refine lv_iconst (v := (4 : Int32)) X.1 X.2.1 dd_mm_spread_68 (by decide) ?_
  by_cases hc69 : (4 : Int32) ≤ p3
  · rw [if_pos hc69] at h
    refine lv_icmp_ge (tgt := 98) X.1 X.2.1 dd_mm_spread_69 (by decide) (fun _ => ?_) (fun z => absurd hc69 z)
    exact (kb_mm_spread_b98 X hKs hlk hret hnm hr2) (p0, p1, p2) _ _ _ _ _ _ _ _ hw (lh_pk hl [0, 1, 2] rfl) h hci hcj
  · rw [if_neg hc69] at h
    refine lv_icmp_ge (tgt := 98) X.1 X.2.1 dd_mm_spread_69 (by decide) (fun z => absurd z hc69) (fun _ => ?_)
    refine lv_iload_n X.1 X.2.1 dd_mm_spread_72 rfl (lv_at hl.1 2 rfl) ?_
    refine lv_bipush (v := (60 : Int32)) X.1 X.2.1 dd_mm_spread_73 (by decide) ?_
    by_cases hc75 : (60 : Int32) < p2
    · rw [if_pos hc75] at h
      refine lv_icmp_gt (tgt := 98) X.1 X.2.1 dd_mm_spread_75 (by decide) (fun _ => ?_) (fun z => absurd hc75 z)
      exact (kb_mm_spread_b98 X hKs hlk hret hnm hr2) (p0, p1, p2) _ _ _ _ _ _ _ _ hw (lh_pk hl [0, 1, 2] rfl) h hci hcj
    · rw [if_neg hc75] at h
      refine lv_icmp_gt (tgt := 98) X.1 X.2.1 dd_mm_spread_75 (by decide) (fun z => absurd z hc75) (fun _ => ?_)
      refine rr_aldn X dd_mm_spread_78 rfl (lv_at hl.1 0 rfl) ?_
      refine rr_aldn X dd_mm_spread_79 rfl (lv_at hl.1 0 rfl) ?_
      obtain ⟨t27, ht27, h⟩ := st_g_some h
      refine rr_getq X hw ff_10_13 ht27 tw_454 (Or.inl rfl) dd_mm_spread_80 ?_
      refine lv_iconst (v := (4 : Int32)) X.1 X.2.1 dd_mm_spread_83 (by decide) ?_
      refine lv_iload_n X.1 X.2.1 dd_mm_spread_84 rfl (lv_at hl.1 2 rfl) ?_
      refine lv_imul X.1 X.2.1 dd_mm_spread_85 ?_
      refine lv_iload_n X.1 X.2.1 dd_mm_spread_86 rfl (lv_at hl.1 3 rfl) ?_
      refine lv_iadd X.1 X.2.1 dd_mm_spread_87 ?_
      obtain ⟨t28, ht28, h⟩ := st_g_some h
      refine rr_iald (t := 0) X hw rfl ht28 dd_mm_spread_88 ?_
      obtain ⟨t37, ht37, h⟩ := st_g_some h
      obtain ⟨t29, t30, t31, t32, t33, t34, ht29, h, ei, ej⟩ := st_b_some h
      refine rr_callV (n := 1) (As := [(.int t28)]) (rest := []) X hw (kn_ok D ac a0 gl) hKs (kc_mm_mark l D ac a0 gl p0 t28 _ _ _ _ _ ht29) tb_good tw_560 tw_469 tw_561 tw_562 se_64 ht37 (by decide +kernel) rfl (show 0 + 1 ≤ _ ∧ 8 + (2 + 11) + 0 ≤ _ from ⟨Nat.le_of_ble_eq_true rfl, Nat.le_of_ble_eq_true rfl⟩) (show cells + t31 ≤ iT ∧ slots + t32 ≤ jT from ⟨ar_1 hci ei, ar_1 hcj ej⟩) hl.1.1 (by simp [rf_cat, ic_cat]) rfl dd_mm_spread_89 (sk := []) rfl (fun H locs hw => ?_)
      have hci : cells + t31 + t33 = iT := ar_2 hci ei
      have hcj : slots + t32 + t34 = jT := ar_2 hcj ej
      clear ei ej
      generalize cells + t31 = t35 at hci ⊢
      generalize slots + t32 = t36 at hcj ⊢
      refine rr_iinc (k := 3) (v := (p3 + (1 : Int32))) (lv' := [(3, (.int (p3 + (1 : Int32)))), (0, (va_rf p0)), (1, (.int p1)), (2, (.int p2))]) X dd_mm_spread_92 hl rfl (by rw [show Int32.ofInt (1) = (1 : Int32) from by decide]) (by decide) rfl (fun ls hl => ?_)
      refine lv_goto (tgt := 67) X.1 X.2.1 dd_mm_spread_95 (by decide) ?_
      exact hr67 (p0, p1, p2, (p3 + (1 : Int32))) _ _ _ _ _ _ _ _ hw (lh_pk hl [1, 2, 3, 0] rfl) h hci hcj
set_option maxHeartbeats 4000000 in
set_option maxRecDepth 100000 in
theorem kb_mm_spread_b65 {p : Program} {l : Launch} {e : Env} {s : State} {m : MethodId} {args : Array Value} {below : List Frame} {meth : Method} {c : Code} {D : va_G} {ac : Nat → ClassId} {a0 : Nat} {gl : gl_T} {rF : Unit} {stF : st_S} {iT jT : Nat} {rec2 : Option Nat × Int32 × Int32 → st_M (Unit)}
    (X : cx_ p s m args c prog_12_method_31_code 4 "PromiseVatsModel" tb_ D cl_ (ty_ ac)) (hKs : kn_ D ac a0 gl s) (hlk : meth.locks = false) (hret : meth.sig.returnType = (Option.none : Option FieldType)) (hnm : meth.name = "spread") (hr2 : wk_ p l e 2 42 s m args below meth c D cl_ ac a0 4 vb_u rF stF iT jT 2 (fun x : Option Nat × Int32 × Int32 => [(0, (va_rf x.1)), (1, (.int x.2.1)), (2, (.int x.2.2))]) (fun x : Option Nat × Int32 × Int32 => []) rec2) : wk_ p l e 2 42 s m args below meth c D cl_ ac a0 4 vb_u rF stF iT jT 65 (fun x : Option Nat × Int32 × Int32 => [(0, (va_rf x.1)), (1, (.int x.2.1)), (2, (.int x.2.2))]) (fun x : Option Nat × Int32 × Int32 => []) (fun x : Option Nat × Int32 × Int32 => mm_spread_b65 gl rec2 x.1 x.2.1 x.2.2) := by
  intro x st H locs cells slots i j ls hw hl h hci hcj
  obtain ⟨p0, p1, p2⟩ := x
  have h : mm_spread_b65 gl rec2 p0 p1 p2 st = some (rF, stF, i, j) := h
  unfold mm_spread_b65 at h
  have hl : lh_ ls 4 [(0, (va_rf p0)), (1, (.int p1)), (2, (.int p2))] := hl
  refine W.eq (g2 := F0 m 65 ls []) rfl ?_
  refine lv_iconst (v := (0 : Int32)) X.1 X.2.1 dd_mm_spread_65 (by decide) ?_
  refine rr_istn (lv' := [(3, (.int (0 : Int32))), (0, (va_rf p0)), (1, (.int p1)), (2, (.int p2))]) X dd_mm_spread_66 rfl hl (by decide) rfl (fun ls hl => ?_)
  exact (kb_mm_spread_b67 X hKs hlk hret hnm hr2) (p0, p1, p2, (0 : Int32)) _ _ _ _ _ _ _ _ hw (lh_pk hl [1, 2, 3, 0] rfl) h hci hcj
set_option maxHeartbeats 4000000 in
set_option maxRecDepth 100000 in
theorem kb_mm_spread_b62 {p : Program} {l : Launch} {e : Env} {s : State} {m : MethodId} {args : Array Value} {below : List Frame} {meth : Method} {c : Code} {D : va_G} {ac : Nat → ClassId} {a0 : Nat} {gl : gl_T} {rF : Unit} {stF : st_S} {iT jT : Nat} {rec2 : Option Nat × Int32 × Int32 → st_M (Unit)}
    (X : cx_ p s m args c prog_12_method_31_code 4 "PromiseVatsModel" tb_ D cl_ (ty_ ac)) (hKs : kn_ D ac a0 gl s) (hlk : meth.locks = false) (hret : meth.sig.returnType = (Option.none : Option FieldType)) (hnm : meth.name = "spread") (hr2 : wk_ p l e 2 42 s m args below meth c D cl_ ac a0 4 vb_u rF stF iT jT 2 (fun x : Option Nat × Int32 × Int32 => [(0, (va_rf x.1)), (1, (.int x.2.1)), (2, (.int x.2.2))]) (fun x : Option Nat × Int32 × Int32 => []) rec2) : wk_ p l e 2 42 s m args below meth c D cl_ ac a0 4 vb_u rF stF iT jT 62 (fun x : Option Nat × Int32 × Int32 × Int32 × Option Nat => [(0, (va_rf x.1)), (1, (.int x.2.1)), (2, (.int x.2.2.1))]) (fun x : Option Nat × Int32 × Int32 × Int32 × Option Nat => [(.int x.2.2.2.1), (va_rf x.2.2.2.2)]) (fun x : Option Nat × Int32 × Int32 × Int32 × Option Nat => mm_spread_b62 gl rec2 x.1 x.2.1 x.2.2.1 x.2.2.2.1 x.2.2.2.2) := by
  intro x st H locs cells slots i j ls hw hl h hci hcj
  obtain ⟨p0, p1, p2, q0, q1⟩ := x
  have h : mm_spread_b62 gl rec2 p0 p1 p2 q0 q1 st = some (rF, stF, i, j) := h
  unfold mm_spread_b62 at h
  have hl : lh_ ls 4 [(0, (va_rf p0)), (1, (.int p1)), (2, (.int p2))] := hl
  refine W.eq (g2 := F0 m 62 ls [(.int q0), (va_rf q1)]) rfl ?_
  obtain ⟨t26, ht26, h⟩ := st_g_some h
  obtain ⟨t18, t19, t20, t21, t22, t23, ht18, h, ei, ej⟩ := st_b_some h
  refine rr_callV (n := 1) (As := [(.int q0)]) (rest := []) X hw (kn_ok D ac a0 gl) hKs (kc_mm_mark l D ac a0 gl q1 q0 _ _ _ _ _ ht18) tb_good tw_560 tw_469 tw_561 tw_562 se_64 ht26 (by decide +kernel) rfl (show 0 + 1 ≤ _ ∧ 8 + (2 + 11) + 0 ≤ _ from ⟨Nat.le_of_ble_eq_true rfl, Nat.le_of_ble_eq_true rfl⟩) (show cells + t20 ≤ iT ∧ slots + t21 ≤ jT from ⟨ar_1 hci ei, ar_1 hcj ej⟩) hl.1.1 (by simp [rf_cat, ic_cat]) rfl dd_mm_spread_62 (sk := []) rfl (fun H locs hw => ?_)
  have hci : cells + t20 + t22 = iT := ar_2 hci ei
  have hcj : slots + t21 + t23 = jT := ar_2 hcj ej
  clear ei ej
  generalize cells + t20 = t24 at hci ⊢
  generalize slots + t21 = t25 at hcj ⊢
  exact (kb_mm_spread_b65 X hKs hlk hret hnm hr2) (p0, p1, p2) _ _ _ _ _ _ _ _ hw (lh_pk hl [0, 1, 2] rfl) h hci hcj
set_option maxHeartbeats 4000000 in
set_option maxRecDepth 100000 in
theorem kb_mm_spread_b164 {p : Program} {l : Launch} {e : Env} {s : State} {m : MethodId} {args : Array Value} {below : List Frame} {meth : Method} {c : Code} {D : va_G} {ac : Nat → ClassId} {a0 : Nat} {gl : gl_T} {rF : Unit} {stF : st_S} {iT jT : Nat} {rec106 : Option Nat × Int32 × Int32 → st_M (Unit)}
    (X : cx_ p s m args c prog_12_method_31_code 4 "PromiseVatsModel" tb_ D cl_ (ty_ ac)) (hKs : kn_ D ac a0 gl s) (hlk : meth.locks = false) (hret : meth.sig.returnType = (Option.none : Option FieldType)) (hnm : meth.name = "spread") (hr106 : wk_ p l e 2 42 s m args below meth c D cl_ ac a0 4 vb_u rF stF iT jT 106 (fun x : Option Nat × Int32 × Int32 => [(0, (va_rf x.1)), (1, (.int x.2.1)), (2, (.int x.2.2))]) (fun x : Option Nat × Int32 × Int32 => []) rec106) : wk_ p l e 2 42 s m args below meth c D cl_ ac a0 4 vb_u rF stF iT jT 164 (fun x : Option Nat × Int32 × Int32 => [(0, (va_rf x.1)), (1, (.int x.2.1)), (2, (.int x.2.2))]) (fun x : Option Nat × Int32 × Int32 => []) (fun x : Option Nat × Int32 × Int32 => mm_spread_b164 gl rec106 x.1 x.2.1 x.2.2) := by
  intro x st H locs cells slots i j ls hw hl h hci hcj
  obtain ⟨p0, p1, p2⟩ := x
  have h : mm_spread_b164 gl rec106 p0 p1 p2 st = some (rF, stF, i, j) := h
  unfold mm_spread_b164 at h
  have hl : lh_ ls 4 [(0, (va_rf p0)), (1, (.int p1)), (2, (.int p2))] := hl
  refine W.eq (g2 := F0 m 164 ls []) rfl ?_
  refine rr_iinc (k := 2) (v := (p2 + (1 : Int32))) (lv' := [(2, (.int (p2 + (1 : Int32)))), (0, (va_rf p0)), (1, (.int p1))]) X dd_mm_spread_164 hl rfl (by rw [show Int32.ofInt (1) = (1 : Int32) from by decide]) (by decide) rfl (fun ls hl => ?_)
  refine lv_goto (tgt := 106) X.1 X.2.1 dd_mm_spread_167 (by decide) ?_
  exact hr106 (p0, p1, (p2 + (1 : Int32))) _ _ _ _ _ _ _ _ hw (lh_pk hl [1, 2, 0] rfl) h hci hcj
set_option maxHeartbeats 4000000 in
set_option maxRecDepth 100000 in
theorem kb_mm_spread_b106 {p : Program} {l : Launch} {e : Env} {s : State} {m : MethodId} {args : Array Value} {below : List Frame} {meth : Method} {c : Code} {D : va_G} {ac : Nat → ClassId} {a0 : Nat} {gl : gl_T} {rF : Unit} {stF : st_S} {iT jT : Nat}
    (X : cx_ p s m args c prog_12_method_31_code 4 "PromiseVatsModel" tb_ D cl_ (ty_ ac)) (hKs : kn_ D ac a0 gl s) (hlk : meth.locks = false) (hret : meth.sig.returnType = (Option.none : Option FieldType)) (hnm : meth.name = "spread") : wk_ p l e 2 42 s m args below meth c D cl_ ac a0 4 vb_u rF stF iT jT 106 (fun x : Option Nat × Int32 × Int32 => [(0, (va_rf x.1)), (1, (.int x.2.1)), (2, (.int x.2.2))]) (fun x : Option Nat × Int32 × Int32 => []) (st_it (fun rec106 => (fun x : Option Nat × Int32 × Int32 => mm_spread_b106 gl rec106 x.1 x.2.1 x.2.2)) fu_) := by
  refine wk_it ?_ _
  intro rec106 hr106 x st H locs cells slots i j ls hw hl h hci hcj
  obtain ⟨p0, p1, p2⟩ := x
  have h : mm_spread_b106 gl rec106 p0 p1 p2 st = some (rF, stF, i, j) := h
  unfold mm_spread_b106 at h
  have hl : lh_ ls 4 [(0, (va_rf p0)), (1, (.int p1)), (2, (.int p2))] := hl
  refine W.eq (g2 := F0 m 106 ls []) rfl ?_
  refine lv_iload_n X.1 X.2.1 dd_mm_spread_106 rfl (lv_at hl.1 2 rfl) ?_
  refine rr_aldn X dd_mm_spread_107 rfl (lv_at hl.1 0 rfl) ?_
  obtain ⟨t38, ht38, h⟩ := st_g_some h
  refine rr_geti X hw ff_10_18 ht38 tw_474 (Or.inl rfl) dd_mm_spread_108 ?_
  by_cases hc111 : t38 ≤ p2
  · rw [if_pos hc111] at h
    refine lv_icmp_ge (tgt := 170) X.1 X.2.1 dd_mm_spread_111 (by decide) (fun _ => ?_) (fun z => absurd hc111 z)
    obtain ⟨rfl, rfl, rfl, rfl⟩ := st_r_some h
    exact rr_vret X hw hlk hret hci hcj dd_mm_spread_170
  · rw [if_neg hc111] at h
    refine lv_icmp_ge (tgt := 170) X.1 X.2.1 dd_mm_spread_111 (by decide) (fun z => absurd z hc111) (fun _ => ?_)
    refine rr_aldn X dd_mm_spread_114 rfl (lv_at hl.1 0 rfl) ?_
    obtain ⟨t39, ht39, h⟩ := st_g_some h
    refine rr_getq X hw ff_10_19 ht39 tw_450 (Or.inl rfl) dd_mm_spread_115 ?_
    refine lv_iload_n X.1 X.2.1 dd_mm_spread_118 rfl (lv_at hl.1 2 rfl) ?_
    obtain ⟨t40, ht40, h⟩ := st_g_some h
    refine rr_iald (t := 0) X hw rfl ht40 dd_mm_spread_119 ?_
    refine lv_bipush (v := (100 : Int32)) X.1 X.2.1 dd_mm_spread_120 (by decide) ?_
    by_cases hc122 : t40 ≤ (100 : Int32)
    · rw [if_pos hc122] at h
      refine lv_icmp_le (tgt := 164) X.1 X.2.1 dd_mm_spread_122 (by decide) (fun _ => ?_) (fun z => absurd hc122 z)
      exact (kb_mm_spread_b164 X hKs hlk hret hnm hr106) (p0, p1, p2) _ _ _ _ _ _ _ _ hw (lh_pk hl [0, 1, 2] rfl) h hci hcj
    · rw [if_neg hc122] at h
      refine lv_icmp_le (tgt := 164) X.1 X.2.1 dd_mm_spread_122 (by decide) (fun z => absurd z hc122) (fun _ => ?_)
      refine rr_aldn X dd_mm_spread_125 rfl (lv_at hl.1 0 rfl) ?_
      obtain ⟨t41, ht41, h⟩ := st_g_some h
      refine rr_getq X hw ff_10_6 ht41 tw_461 (Or.inl rfl) dd_mm_spread_126 ?_
      refine rr_aldn X dd_mm_spread_129 rfl (lv_at hl.1 0 rfl) ?_
      obtain ⟨t42, ht42, h⟩ := st_g_some h
      refine rr_getq X hw ff_10_19 ht42 tw_450 (Or.inl rfl) dd_mm_spread_130 ?_
      refine lv_iload_n X.1 X.2.1 dd_mm_spread_133 rfl (lv_at hl.1 2 rfl) ?_
      obtain ⟨t43, ht43, h⟩ := st_g_some h
      refine rr_iald (t := 0) X hw rfl ht43 dd_mm_spread_134 ?_
      obtain ⟨t44, ht44, h⟩ := st_g_some h
      refine rr_bald (t := 1) X hw rfl ht44 dd_mm_spread_135 ?_
      refine lv_iload_n X.1 X.2.1 dd_mm_spread_136 rfl (lv_at hl.1 1 rfl) ?_
      by_cases hc137 : t44 = p1
      · rw [if_pos hc137] at h
        refine lv_icmp_ne (tgt := 164) X.1 X.2.1 dd_mm_spread_137 (by decide) (fun z => absurd hc137 z) (fun _ => ?_)
        refine rr_aldn X dd_mm_spread_140 rfl (lv_at hl.1 0 rfl) ?_
        obtain ⟨t45, ht45, h⟩ := st_g_some h
        refine rr_getq X hw ff_10_10 ht45 tw_457 (Or.inl rfl) dd_mm_spread_141 ?_
        refine rr_aldn X dd_mm_spread_144 rfl (lv_at hl.1 0 rfl) ?_
        obtain ⟨t46, ht46, h⟩ := st_g_some h
        refine rr_getq X hw ff_10_19 ht46 tw_450 (Or.inl rfl) dd_mm_spread_145 ?_
        refine lv_iload_n X.1 X.2.1 dd_mm_spread_148 rfl (lv_at hl.1 2 rfl) ?_
        obtain ⟨t47, ht47, h⟩ := st_g_some h
        refine rr_iald (t := 0) X hw rfl ht47 dd_mm_spread_149 ?_
        obtain ⟨t48, ht48, h⟩ := st_g_some h
        refine rr_zald (t := 2) X hw rfl ht48 dd_mm_spread_150 ?_
        by_cases hc151 : t48 = 0
        · rw [if_pos hc151] at h
          refine lv_if_eq (tgt := 164) X.1 X.2.1 dd_mm_spread_151 (by decide) (fun _ => ?_) (fun z => absurd hc151 z)
          exact (kb_mm_spread_b164 X hKs hlk hret hnm hr106) (p0, p1, p2) _ _ _ _ _ _ _ _ hw (lh_pk hl [0, 1, 2] rfl) h hci hcj
        · rw [if_neg hc151] at h
          refine lv_if_eq (tgt := 164) X.1 X.2.1 dd_mm_spread_151 (by decide) (fun z => absurd z hc151) (fun _ => ?_)
          refine rr_aldn X dd_mm_spread_154 rfl (lv_at hl.1 0 rfl) ?_
          refine rr_aldn X dd_mm_spread_155 rfl (lv_at hl.1 0 rfl) ?_
          obtain ⟨t49, ht49, h⟩ := st_g_some h
          refine rr_getq X hw ff_10_22 ht49 tw_447 (Or.inl rfl) dd_mm_spread_156 ?_
          refine lv_iload_n X.1 X.2.1 dd_mm_spread_159 rfl (lv_at hl.1 2 rfl) ?_
          obtain ⟨t50, ht50, h⟩ := st_g_some h
          refine rr_iald (t := 0) X hw rfl ht50 dd_mm_spread_160 ?_
          obtain ⟨t59, ht59, h⟩ := st_g_some h
          obtain ⟨t51, t52, t53, t54, t55, t56, ht51, h, ei, ej⟩ := st_b_some h
          refine rr_callV (n := 1) (As := [(.int t50)]) (rest := []) X hw (kn_ok D ac a0 gl) hKs (kc_mm_mark l D ac a0 gl p0 t50 _ _ _ _ _ ht51) tb_good tw_560 tw_469 tw_561 tw_562 se_64 ht59 (by decide +kernel) rfl (show 0 + 1 ≤ _ ∧ 8 + (2 + 11) + 0 ≤ _ from ⟨Nat.le_of_ble_eq_true rfl, Nat.le_of_ble_eq_true rfl⟩) (show cells + t53 ≤ iT ∧ slots + t54 ≤ jT from ⟨ar_1 hci ei, ar_1 hcj ej⟩) hl.1.1 (by simp [rf_cat, ic_cat]) rfl dd_mm_spread_161 (sk := []) rfl (fun H locs hw => ?_)
          have hci : cells + t53 + t55 = iT := ar_2 hci ei
          have hcj : slots + t54 + t56 = jT := ar_2 hcj ej
          clear ei ej
          generalize cells + t53 = t57 at hci ⊢
          generalize slots + t54 = t58 at hcj ⊢
          exact (kb_mm_spread_b164 X hKs hlk hret hnm hr106) (p0, p1, p2) _ _ _ _ _ _ _ _ hw (lh_pk hl [0, 1, 2] rfl) h hci hcj
      · rw [if_neg hc137] at h
        refine lv_icmp_ne (tgt := 164) X.1 X.2.1 dd_mm_spread_137 (by decide) (fun _ => ?_) (fun z => absurd z hc137)
        exact (kb_mm_spread_b164 X hKs hlk hret hnm hr106) (p0, p1, p2) _ _ _ _ _ _ _ _ hw (lh_pk hl [0, 1, 2] rfl) h hci hcj
set_option maxHeartbeats 4000000 in
set_option maxRecDepth 100000 in
theorem kb_mm_spread_b2 {p : Program} {l : Launch} {e : Env} {s : State} {m : MethodId} {args : Array Value} {below : List Frame} {meth : Method} {c : Code} {D : va_G} {ac : Nat → ClassId} {a0 : Nat} {gl : gl_T} {rF : Unit} {stF : st_S} {iT jT : Nat}
    (X : cx_ p s m args c prog_12_method_31_code 4 "PromiseVatsModel" tb_ D cl_ (ty_ ac)) (hKs : kn_ D ac a0 gl s) (hlk : meth.locks = false) (hret : meth.sig.returnType = (Option.none : Option FieldType)) (hnm : meth.name = "spread") : wk_ p l e 2 42 s m args below meth c D cl_ ac a0 4 vb_u rF stF iT jT 2 (fun x : Option Nat × Int32 × Int32 => [(0, (va_rf x.1)), (1, (.int x.2.1)), (2, (.int x.2.2))]) (fun x : Option Nat × Int32 × Int32 => []) (st_it (fun rec2 => (fun x : Option Nat × Int32 × Int32 => mm_spread_b2 gl rec2 x.1 x.2.1 x.2.2)) fu_) := by
  refine wk_it ?_ _
  intro rec2 hr2 x st H locs cells slots i j ls hw hl h hci hcj
  obtain ⟨p0, p1, p2⟩ := x
  have h : mm_spread_b2 gl rec2 p0 p1 p2 st = some (rF, stF, i, j) := h
  unfold mm_spread_b2 at h
  have hl : lh_ ls 4 [(0, (va_rf p0)), (1, (.int p1)), (2, (.int p2))] := hl
  refine W.eq (g2 := F0 m 2 ls []) rfl ?_
  refine lv_iload_n X.1 X.2.1 dd_mm_spread_2 rfl (lv_at hl.1 2 rfl) ?_
  refine lv_sipush (v := (200 : Int32)) X.1 X.2.1 dd_mm_spread_3 (by decide) ?_
  by_cases hc6 : (200 : Int32) < p2
  · rw [if_pos hc6] at h
    refine lv_icmp_gt (tgt := 104) X.1 X.2.1 dd_mm_spread_6 (by decide) (fun _ => ?_) (fun z => absurd hc6 z)
    refine lv_iconst (v := (0 : Int32)) X.1 X.2.1 dd_mm_spread_104 (by decide) ?_
    refine rr_istn (lv' := [(2, (.int (0 : Int32))), (0, (va_rf p0)), (1, (.int p1))]) X dd_mm_spread_105 rfl hl (by decide) rfl (fun ls hl => ?_)
    exact (kb_mm_spread_b106 X hKs hlk hret hnm) (p0, p1, (0 : Int32)) _ _ _ _ _ _ _ _ hw (lh_pk hl [1, 2, 0] rfl) h hci hcj
  · rw [if_neg hc6] at h
    refine lv_icmp_gt (tgt := 104) X.1 X.2.1 dd_mm_spread_6 (by decide) (fun z => absurd z hc6) (fun _ => ?_)
    refine rr_aldn X dd_mm_spread_9 rfl (lv_at hl.1 0 rfl) ?_
    refine lv_iload_n X.1 X.2.1 dd_mm_spread_10 rfl (lv_at hl.1 2 rfl) ?_
    obtain ⟨t17, ht17, h⟩ := st_g_some h
    obtain ⟨t1, t2, t3, t4, t5, t6, ht1, h, ei, ej⟩ := st_b_some h
    refine rr_callV (n := 1) (As := [(.int p2)]) (rest := []) X hw (kn_ok D ac a0 gl) hKs (kc_mm_lives l D ac a0 gl p0 p2 _ _ _ _ _ ht1) tb_good tw_556 tw_469 tw_557 tw_558 se_63 ht17 (by decide +kernel) rfl (show 1 + 1 ≤ _ ∧ 8 + (2 + 11) + 21 ≤ _ from ⟨Nat.le_of_ble_eq_true rfl, Nat.le_of_ble_eq_true rfl⟩) (show cells + t3 ≤ iT ∧ slots + t4 ≤ jT from ⟨ar_1 hci ei, ar_1 hcj ej⟩) hl.1.1 (by simp [rf_cat, ic_cat]) rfl dd_mm_spread_11 (sk := [(.int t1)]) rfl (fun H locs hw => ?_)
    have hci : cells + t3 + t5 = iT := ar_2 hci ei
    have hcj : slots + t4 + t6 = jT := ar_2 hcj ej
    clear ei ej
    generalize cells + t3 = t7 at hci ⊢
    generalize slots + t4 = t8 at hcj ⊢
    by_cases hc14 : t1 = 0
    · rw [if_pos hc14] at h
      refine lv_if_eq (tgt := 98) X.1 X.2.1 dd_mm_spread_14 (by decide) (fun _ => ?_) (fun z => absurd hc14 z)
      exact (kb_mm_spread_b98 X hKs hlk hret hnm hr2) (p0, p1, p2) _ _ _ _ _ _ _ _ hw (lh_pk hl [0, 1, 2] rfl) h hci hcj
    · rw [if_neg hc14] at h
      refine lv_if_eq (tgt := 98) X.1 X.2.1 dd_mm_spread_14 (by decide) (fun z => absurd z hc14) (fun _ => ?_)
      refine rr_aldn X dd_mm_spread_17 rfl (lv_at hl.1 0 rfl) ?_
      obtain ⟨t9, ht9, h⟩ := st_g_some h
      refine rr_getq X hw ff_10_6 ht9 tw_461 (Or.inl rfl) dd_mm_spread_18 ?_
      refine lv_iload_n X.1 X.2.1 dd_mm_spread_21 rfl (lv_at hl.1 2 rfl) ?_
      obtain ⟨t10, ht10, h⟩ := st_g_some h
      refine rr_bald (t := 1) X hw rfl ht10 dd_mm_spread_22 ?_
      refine lv_iload_n X.1 X.2.1 dd_mm_spread_23 rfl (lv_at hl.1 1 rfl) ?_
      by_cases hc24 : t10 = p1
      · rw [if_pos hc24] at h
        refine lv_icmp_ne (tgt := 98) X.1 X.2.1 dd_mm_spread_24 (by decide) (fun z => absurd hc24 z) (fun _ => ?_)
        refine rr_aldn X dd_mm_spread_27 rfl (lv_at hl.1 0 rfl) ?_
        obtain ⟨t11, ht11, h⟩ := st_g_some h
        refine rr_getq X hw ff_10_10 ht11 tw_457 (Or.inl rfl) dd_mm_spread_28 ?_
        refine lv_iload_n X.1 X.2.1 dd_mm_spread_31 rfl (lv_at hl.1 2 rfl) ?_
        obtain ⟨t12, ht12, h⟩ := st_g_some h
        refine rr_zald (t := 2) X hw rfl ht12 dd_mm_spread_32 ?_
        by_cases hc33 : t12 = 0
        · rw [if_pos hc33] at h
          refine lv_if_eq (tgt := 98) X.1 X.2.1 dd_mm_spread_33 (by decide) (fun _ => ?_) (fun z => absurd hc33 z)
          exact (kb_mm_spread_b98 X hKs hlk hret hnm hr2) (p0, p1, p2) _ _ _ _ _ _ _ _ hw (lh_pk hl [0, 1, 2] rfl) h hci hcj
        · rw [if_neg hc33] at h
          refine lv_if_eq (tgt := 98) X.1 X.2.1 dd_mm_spread_33 (by decide) (fun z => absurd z hc33) (fun _ => ?_)
          refine lv_iload_n X.1 X.2.1 dd_mm_spread_36 rfl (lv_at hl.1 2 rfl) ?_
          refine lv_bipush (v := (100 : Int32)) X.1 X.2.1 dd_mm_spread_37 (by decide) ?_
          by_cases hc39 : p2 ≤ (100 : Int32)
          · rw [if_pos hc39] at h
            refine lv_icmp_le (tgt := 65) X.1 X.2.1 dd_mm_spread_39 (by decide) (fun _ => ?_) (fun z => absurd hc39 z)
            exact (kb_mm_spread_b65 X hKs hlk hret hnm hr2) (p0, p1, p2) _ _ _ _ _ _ _ _ hw (lh_pk hl [0, 1, 2] rfl) h hci hcj
          · rw [if_neg hc39] at h
            refine lv_icmp_le (tgt := 65) X.1 X.2.1 dd_mm_spread_39 (by decide) (fun z => absurd z hc39) (fun _ => ?_)
            refine rr_aldn X dd_mm_spread_42 rfl (lv_at hl.1 0 rfl) ?_
            refine rr_aldn X dd_mm_spread_43 rfl (lv_at hl.1 0 rfl) ?_
            obtain ⟨t13, ht13, h⟩ := st_g_some h
            refine rr_getq X hw ff_10_8 ht13 tw_459 (Or.inl rfl) dd_mm_spread_44 ?_
            refine lv_iload_n X.1 X.2.1 dd_mm_spread_47 rfl (lv_at hl.1 2 rfl) ?_
            obtain ⟨t14, ht14, h⟩ := st_g_some h
            refine rr_zald (t := 2) X hw rfl ht14 dd_mm_spread_48 ?_
            by_cases hc49 : t14 = 0
            · rw [if_pos hc49] at h
              refine lv_if_eq (tgt := 61) X.1 X.2.1 dd_mm_spread_49 (by decide) (fun _ => ?_) (fun z => absurd hc49 z)
              refine lv_iconst (v := (0 : Int32)) X.1 X.2.1 dd_mm_spread_61 (by decide) ?_
              exact (kb_mm_spread_b62 X hKs hlk hret hnm hr2) (p0, p1, p2, (0 : Int32), p0) _ _ _ _ _ _ _ _ hw (lh_pk hl [0, 1, 2] rfl) h hci hcj
            · rw [if_neg hc49] at h
              refine lv_if_eq (tgt := 61) X.1 X.2.1 dd_mm_spread_49 (by decide) (fun z => absurd z hc49) (fun _ => ?_)
              refine rr_aldn X dd_mm_spread_52 rfl (lv_at hl.1 0 rfl) ?_
              obtain ⟨t15, ht15, h⟩ := st_g_some h
              refine rr_getq X hw ff_10_9 ht15 tw_458 (Or.inl rfl) dd_mm_spread_53 ?_
              refine lv_iload_n X.1 X.2.1 dd_mm_spread_56 rfl (lv_at hl.1 2 rfl) ?_
              obtain ⟨t16, ht16, h⟩ := st_g_some h
              refine rr_iald (t := 0) X hw rfl ht16 dd_mm_spread_57 ?_
              refine lv_goto (tgt := 62) X.1 X.2.1 dd_mm_spread_58 (by decide) ?_
              exact (kb_mm_spread_b62 X hKs hlk hret hnm hr2) (p0, p1, p2, t16, p0) _ _ _ _ _ _ _ _ hw (lh_pk hl [0, 1, 2] rfl) h hci hcj
      · rw [if_neg hc24] at h
        refine lv_icmp_ne (tgt := 98) X.1 X.2.1 dd_mm_spread_24 (by decide) (fun _ => ?_) (fun z => absurd z hc24)
        exact (kb_mm_spread_b98 X hKs hlk hret hnm hr2) (p0, p1, p2) _ _ _ _ _ _ _ _ hw (lh_pk hl [0, 1, 2] rfl) h hci hcj
set_option maxHeartbeats 4000000 in
set_option maxRecDepth 100000 in
theorem kc_mm_spread (l : Launch) (D : va_G) (ac : Nat → ClassId) (a0 : Nat) (gl : gl_T) (v0 : Option Nat) (v1 : Int32) (st : st_S) (rF : Unit) (stF : st_S) (iT jT : Nat) (h : mm_spread gl v0 v1 st = some (rF, stF, iT, jT)) :
    ct_ l ⟨"PromiseVatsModel", "spread", "(I)V"⟩ (Cond.code ⟨"PromiseVatsModel", "spread", "(I)V"⟩ prog_12_method_31_code 4 (Option.none : Option FieldType) :: tb_) 2 42 D cl_ ac a0 (kn_ D ac a0 gl) [(va_rf v0), (.int v1)] st (vb_u rF) stF iT jT := by
  refine ct_of (kn_ok D ac a0 gl) (plainFor_of_name (by decide +kernel)) (by simp [rf_cat, ic_cat]) (by simp) ?_
  intro p e s m args below meth c ls X hw hKs hlk hret hnm hl
  unfold mm_spread at h
  have hl : lh_ ls 4 [(0, (va_rf v0)), (1, (.int v1))] := hl
  obtain ⟨z0, hz0⟩ : ∃ z : Nat, 0 = z := ⟨0, rfl⟩
  obtain ⟨z1, hz1⟩ : ∃ z : Nat, 0 = z := ⟨0, rfl⟩
  refine W.cs hz0 hz1 ?_
  have hci : z0 + iT = iT := by omega
  have hcj : z1 + jT = jT := by omega
  refine lv_iconst (v := (1 : Int32)) X.1 X.2.1 dd_mm_spread_0 (by decide) ?_
  refine rr_istn (lv' := [(2, (.int (1 : Int32))), (0, (va_rf v0)), (1, (.int v1))]) X dd_mm_spread_1 rfl hl (by decide) rfl (fun ls hl => ?_)
  exact (kb_mm_spread_b2 X hKs hlk hret hnm) (v0, v1, (1 : Int32)) _ _ _ _ _ _ _ _ hw (lh_pk hl [1, 2, 0] rfl) h hci hcj
