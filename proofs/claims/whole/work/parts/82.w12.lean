/-! PromiseVats.settleLost(I)V -/
theorem dd_xP_settleLost_0 : decode prog_1_method_32_code 0 = .ok (.iconst 0, 1) := by decide +kernel
theorem dd_xP_settleLost_1 : decode prog_1_method_32_code 1 = .ok (.istore_n 2, 1) := by decide +kernel
theorem dd_xP_settleLost_2 : decode prog_1_method_32_code 2 = .ok (.iload_n 2, 1) := by decide +kernel
theorem dd_xP_settleLost_3 : decode prog_1_method_32_code 3 = .ok (.aload_n 0, 1) := by decide +kernel
theorem dd_xP_settleLost_4 : decode prog_1_method_32_code 4 = .ok (.getfield 45, 3) := by decide +kernel
theorem dd_xP_settleLost_7 : decode prog_1_method_32_code 7 = .ok (.arraylength, 1) := by decide +kernel
theorem dd_xP_settleLost_8 : decode prog_1_method_32_code 8 = .ok (.if_icmp .ge 29, 3) := by decide +kernel
theorem dd_xP_settleLost_11 : decode prog_1_method_32_code 11 = .ok (.iload_n 2, 1) := by decide +kernel
theorem dd_xP_settleLost_12 : decode prog_1_method_32_code 12 = .ok (.aload_n 0, 1) := by decide +kernel
theorem dd_xP_settleLost_13 : decode prog_1_method_32_code 13 = .ok (.getfield 288, 3) := by decide +kernel
theorem dd_xP_settleLost_16 : decode prog_1_method_32_code 16 = .ok (.if_icmp .ge 21, 3) := by decide +kernel
theorem dd_xP_settleLost_19 : decode prog_1_method_32_code 19 = .ok (.aload_n 0, 1) := by decide +kernel
theorem dd_xP_settleLost_20 : decode prog_1_method_32_code 20 = .ok (.iload_n 1, 1) := by decide +kernel
theorem dd_xP_settleLost_21 : decode prog_1_method_32_code 21 = .ok (.aload_n 0, 1) := by decide +kernel
theorem dd_xP_settleLost_22 : decode prog_1_method_32_code 22 = .ok (.getfield 45, 3) := by decide +kernel
theorem dd_xP_settleLost_25 : decode prog_1_method_32_code 25 = .ok (.iload_n 2, 1) := by decide +kernel
theorem dd_xP_settleLost_26 : decode prog_1_method_32_code 26 = .ok (.aaload, 1) := by decide +kernel
theorem dd_xP_settleLost_27 : decode prog_1_method_32_code 27 = .ok (.aconst_null, 1) := by decide +kernel
theorem dd_xP_settleLost_28 : decode prog_1_method_32_code 28 = .ok (.invokevirtual 158, 3) := by decide +kernel
theorem dd_xP_settleLost_31 : decode prog_1_method_32_code 31 = .ok (.iinc 2 1, 3) := by decide +kernel
theorem dd_xP_settleLost_34 : decode prog_1_method_32_code 34 = .ok (.goto (-32), 3) := by decide +kernel
theorem dd_xP_settleLost_37 : decode prog_1_method_32_code 37 = .ok (.aload_n 0, 1) := by decide +kernel
theorem dd_xP_settleLost_38 : decode prog_1_method_32_code 38 = .ok (.iconst 0, 1) := by decide +kernel
theorem dd_xP_settleLost_39 : decode prog_1_method_32_code 39 = .ok (.putfield 288, 3) := by decide +kernel
theorem dd_xP_settleLost_42 : decode prog_1_method_32_code 42 = .ok (.return_, 1) := by decide +kernel
set_option maxHeartbeats 4000000 in
set_option maxRecDepth 100000 in
theorem kb_xP_settleLost_b37 {p : Program} {l : Launch} {e : Env} {s : State} {m : MethodId} {args : Array Value} {below : List Frame} {meth : Method} {c : Code} {D : va_G} {ac : Nat → ClassId} {a0 : Nat} {gl : gl_T} {rF : Unit} {stF : st_S} {iT jT : Nat}
    (X : cx_ p s m args c prog_1_method_32_code 3 "PromiseVats" tb_ D cl_ (ty_ ac)) (hKs : kn_ D ac a0 gl s) (hlk : meth.locks = false) (hret : meth.sig.returnType = (Option.none : Option FieldType)) (hnm : meth.name = "settleLost") : wk_ p l e 12 310 s m args below meth c D cl_ ac a0 3 vb_u rF stF iT jT 37 (fun x : Option Nat => [(0, (va_rf x))]) (fun x : Option Nat => []) (fun x : Option Nat => xP_settleLost_b37 gl x) := by
  intro x st H locs cells slots i j ls hw hl h hci hcj
  have hx : ∃ z, z = x := ⟨_, rfl⟩; obtain ⟨p0, rfl⟩ := hx
  have h : xP_settleLost_b37 gl p0 st = some (rF, stF, i, j) := h
  unfold xP_settleLost_b37 at h
  have hl : lh_ ls 3 [(0, (va_rf p0))] := hl
  refine W.eq (g2 := F0 m 37 ls []) rfl ?_
  refine rr_aldn X dd_xP_settleLost_37 rfl (lv_at hl.1 0 rfl) ?_
  refine lv_iconst (v := (0 : Int32)) X.1 X.2.1 dd_xP_settleLost_38 (by decide) ?_
  obtain ⟨t15, hp39, h⟩ := st_w_some h
  refine rr_put (ty := .int) X hw ff_0_7 hp39 tw_120 (Or.inl rfl) (by decide +kernel) rfl rfl dd_xP_settleLost_39 (fun H locs hw => ?_)
  obtain ⟨rfl, rfl, rfl, rfl⟩ := st_r_some h
  exact rr_vret X hw hlk hret hci hcj dd_xP_settleLost_42
set_option maxHeartbeats 4000000 in
set_option maxRecDepth 100000 in
theorem kb_xP_settleLost_b2 {p : Program} {l : Launch} {e : Env} {s : State} {m : MethodId} {args : Array Value} {below : List Frame} {meth : Method} {c : Code} {D : va_G} {ac : Nat → ClassId} {a0 : Nat} {gl : gl_T} {rF : Unit} {stF : st_S} {iT jT : Nat}
    (X : cx_ p s m args c prog_1_method_32_code 3 "PromiseVats" tb_ D cl_ (ty_ ac)) (hKs : kn_ D ac a0 gl s) (hlk : meth.locks = false) (hret : meth.sig.returnType = (Option.none : Option FieldType)) (hnm : meth.name = "settleLost") : wk_ p l e 12 310 s m args below meth c D cl_ ac a0 3 vb_u rF stF iT jT 2 (fun x : Option Nat × Int32 × Int32 => [(0, (va_rf x.1)), (1, (.int x.2.1)), (2, (.int x.2.2))]) (fun x : Option Nat × Int32 × Int32 => []) (st_it (fun rec2 => (fun x : Option Nat × Int32 × Int32 => xP_settleLost_b2 gl rec2 x.1 x.2.1 x.2.2)) fu_) := by
  refine wk_it ?_ _
  intro rec2 hr2 x st H locs cells slots i j ls hw hl h hci hcj
  obtain ⟨p0, p1, p2⟩ := x
  have h : xP_settleLost_b2 gl rec2 p0 p1 p2 st = some (rF, stF, i, j) := h
  unfold xP_settleLost_b2 at h
  have hl : lh_ ls 3 [(0, (va_rf p0)), (1, (.int p1)), (2, (.int p2))] := hl
  refine W.eq (g2 := F0 m 2 ls []) rfl ?_
  refine lv_iload_n X.1 X.2.1 dd_xP_settleLost_2 rfl (lv_at hl.1 2 rfl) ?_
  refine rr_aldn X dd_xP_settleLost_3 rfl (lv_at hl.1 0 rfl) ?_
  obtain ⟨t1, ht1, h⟩ := st_g_some h
  refine rr_getq X hw ff_0_6 ht1 tw_57 (Or.inl rfl) dd_xP_settleLost_4 ?_
  obtain ⟨t2, ht2, h⟩ := st_g_some h
  refine rr_alen X hw (tl_7 ac) ht2 dd_xP_settleLost_7 ?_
  by_cases hc8 : t2 ≤ p2
  · rw [if_pos hc8] at h
    refine lv_icmp_ge (tgt := 37) X.1 X.2.1 dd_xP_settleLost_8 (by decide) (fun _ => ?_) (fun z => absurd hc8 z)
    exact (kb_xP_settleLost_b37 X hKs hlk hret hnm) p0 _ _ _ _ _ _ _ _ hw (lh_pk hl [0] rfl) h hci hcj
  · rw [if_neg hc8] at h
    refine lv_icmp_ge (tgt := 37) X.1 X.2.1 dd_xP_settleLost_8 (by decide) (fun z => absurd z hc8) (fun _ => ?_)
    refine lv_iload_n X.1 X.2.1 dd_xP_settleLost_11 rfl (lv_at hl.1 2 rfl) ?_
    refine rr_aldn X dd_xP_settleLost_12 rfl (lv_at hl.1 0 rfl) ?_
    obtain ⟨t3, ht3, h⟩ := st_g_some h
    refine rr_geti X hw ff_0_7 ht3 tw_120 (Or.inl rfl) dd_xP_settleLost_13 ?_
    by_cases hc16 : t3 ≤ p2
    · rw [if_pos hc16] at h
      refine lv_icmp_ge (tgt := 37) X.1 X.2.1 dd_xP_settleLost_16 (by decide) (fun _ => ?_) (fun z => absurd hc16 z)
      exact (kb_xP_settleLost_b37 X hKs hlk hret hnm) p0 _ _ _ _ _ _ _ _ hw (lh_pk hl [0] rfl) h hci hcj
    · rw [if_neg hc16] at h
      refine lv_icmp_ge (tgt := 37) X.1 X.2.1 dd_xP_settleLost_16 (by decide) (fun z => absurd z hc16) (fun _ => ?_)
      refine rr_aldn X dd_xP_settleLost_19 rfl (lv_at hl.1 0 rfl) ?_
      refine lv_iload_n X.1 X.2.1 dd_xP_settleLost_20 rfl (lv_at hl.1 1 rfl) ?_
      refine rr_aldn X dd_xP_settleLost_21 rfl (lv_at hl.1 0 rfl) ?_
      obtain ⟨t4, ht4, h⟩ := st_g_some h
      refine rr_getq X hw ff_0_6 ht4 tw_57 (Or.inl rfl) dd_xP_settleLost_22 ?_
      refine lv_iload_n X.1 X.2.1 dd_xP_settleLost_25 rfl (lv_at hl.1 2 rfl) ?_
      obtain ⟨t5, ht5, h⟩ := st_g_some h
      refine rr_aald X hw (tq_7 ac) ht5 dd_xP_settleLost_26 ?_
      refine rr_null X dd_xP_settleLost_27 ?_
      obtain ⟨t14, ht14, h⟩ := st_g_some h
      obtain ⟨t6, t7, t8, t9, t10, t11, ht6, h, ei, ej⟩ := st_b_some h
      refine rr_callV (n := 3) (As := [(.int p1), (va_rf t5), (va_rf none)]) (rest := []) X hw (kn_ok D ac a0 gl) hKs (kc_xP_resolveIn l D ac a0 gl p0 p1 t5 none _ _ _ _ _ ht6) tb_good tw_303 tw_91 tw_304 tw_305 se_19 ht14 (by decide +kernel) rfl (show 11 + 1 ≤ _ ∧ 8 + (5 + 11) + 286 ≤ _ from ⟨Nat.le_of_ble_eq_true rfl, Nat.le_of_ble_eq_true rfl⟩) (show cells + t8 ≤ iT ∧ slots + t9 ≤ jT from ⟨ar_1 hci ei, ar_1 hcj ej⟩) hl.1.1 (by simp [rf_cat, ic_cat]) rfl dd_xP_settleLost_28 (sk := []) rfl (fun H locs hw => ?_)
      have hci : cells + t8 + t10 = iT := ar_2 hci ei
      have hcj : slots + t9 + t11 = jT := ar_2 hcj ej
      clear ei ej
      generalize cells + t8 = t12 at hci ⊢
      generalize slots + t9 = t13 at hcj ⊢
      refine rr_iinc (k := 2) (v := (p2 + (1 : Int32))) (lv' := [(2, (.int (p2 + (1 : Int32)))), (0, (va_rf p0)), (1, (.int p1))]) X dd_xP_settleLost_31 hl rfl (by rw [show Int32.ofInt (1) = (1 : Int32) from by decide]) (by decide) rfl (fun ls hl => ?_)
      refine lv_goto (tgt := 2) X.1 X.2.1 dd_xP_settleLost_34 (by decide) ?_
      exact hr2 (p0, p1, (p2 + (1 : Int32))) _ _ _ _ _ _ _ _ hw (lh_pk hl [1, 2, 0] rfl) h hci hcj
set_option maxHeartbeats 4000000 in
set_option maxRecDepth 100000 in
theorem kc_xP_settleLost (l : Launch) (D : va_G) (ac : Nat → ClassId) (a0 : Nat) (gl : gl_T) (v0 : Option Nat) (v1 : Int32) (st : st_S) (rF : Unit) (stF : st_S) (iT jT : Nat) (h : xP_settleLost gl v0 v1 st = some (rF, stF, iT, jT)) :
    ct_ l ⟨"PromiseVats", "settleLost", "(I)V"⟩ (Cond.code ⟨"PromiseVats", "settleLost", "(I)V"⟩ prog_1_method_32_code 3 (Option.none : Option FieldType) :: tb_) 12 310 D cl_ ac a0 (kn_ D ac a0 gl) [(va_rf v0), (.int v1)] st (vb_u rF) stF iT jT := by
  refine ct_of (kn_ok D ac a0 gl) (plainFor_of_name (by decide +kernel)) (by simp [rf_cat, ic_cat]) (by simp) ?_
  intro p e s m args below meth c ls X hw hKs hlk hret hnm hl
  unfold xP_settleLost at h
  have hl : lh_ ls 3 [(0, (va_rf v0)), (1, (.int v1))] := hl
  obtain ⟨z0, hz0⟩ : ∃ z : Nat, 0 = z := ⟨0, rfl⟩
  obtain ⟨z1, hz1⟩ : ∃ z : Nat, 0 = z := ⟨0, rfl⟩
  refine W.cs hz0 hz1 ?_
  have hci : z0 + iT = iT := by omega
  have hcj : z1 + jT = jT := by omega
  refine lv_iconst (v := (0 : Int32)) X.1 X.2.1 dd_xP_settleLost_0 (by decide) ?_
  refine rr_istn (lv' := [(2, (.int (0 : Int32))), (0, (va_rf v0)), (1, (.int v1))]) X dd_xP_settleLost_1 rfl hl (by decide) rfl (fun ls hl => ?_)
  exact (kb_xP_settleLost_b2 X hKs hlk hret hnm) (v0, v1, (0 : Int32)) _ _ _ _ _ _ _ _ hw (lh_pk hl [1, 2, 0] rfl) h hci hcj
/-! PromiseVats.turn(I)I -/
theorem dd_xP_turn_0 : decode prog_1_method_6_code 0 = .ok (.aload_n 0, 1) := by decide +kernel
theorem dd_xP_turn_1 : decode prog_1_method_6_code 1 = .ok (.iload_n 1, 1) := by decide +kernel
theorem dd_xP_turn_2 : decode prog_1_method_6_code 2 = .ok (.invokevirtual 83, 3) := by decide +kernel
theorem dd_xP_turn_5 : decode prog_1_method_6_code 5 = .ok (.ifCond .eq 18, 3) := by decide +kernel
theorem dd_xP_turn_8 : decode prog_1_method_6_code 8 = .ok (.aload_n 0, 1) := by decide +kernel
theorem dd_xP_turn_9 : decode prog_1_method_6_code 9 = .ok (.getfield 20, 3) := by decide +kernel
theorem dd_xP_turn_12 : decode prog_1_method_6_code 12 = .ok (.iload_n 1, 1) := by decide +kernel
theorem dd_xP_turn_13 : decode prog_1_method_6_code 13 = .ok (.aaload, 1) := by decide +kernel
theorem dd_xP_turn_14 : decode prog_1_method_6_code 14 = .ok (.getfield 102, 3) := by decide +kernel
theorem dd_xP_turn_17 : decode prog_1_method_6_code 17 = .ok (.invokevirtual 121, 3) := by decide +kernel
theorem dd_xP_turn_20 : decode prog_1_method_6_code 20 = .ok (.ifCond .eq 5, 3) := by decide +kernel
theorem dd_xP_turn_23 : decode prog_1_method_6_code 23 = .ok (.iconst (-1), 1) := by decide +kernel
theorem dd_xP_turn_24 : decode prog_1_method_6_code 24 = .ok (.ireturn, 1) := by decide +kernel
theorem dd_xP_turn_25 : decode prog_1_method_6_code 25 = .ok (.aload_n 0, 1) := by decide +kernel
theorem dd_xP_turn_26 : decode prog_1_method_6_code 26 = .ok (.getfield 20, 3) := by decide +kernel
theorem dd_xP_turn_29 : decode prog_1_method_6_code 29 = .ok (.iload_n 1, 1) := by decide +kernel
theorem dd_xP_turn_30 : decode prog_1_method_6_code 30 = .ok (.aaload, 1) := by decide +kernel
theorem dd_xP_turn_31 : decode prog_1_method_6_code 31 = .ok (.getfield 102, 3) := by decide +kernel
theorem dd_xP_turn_34 : decode prog_1_method_6_code 34 = .ok (.iconst 0, 1) := by decide +kernel
theorem dd_xP_turn_35 : decode prog_1_method_6_code 35 = .ok (.invokevirtual 125, 3) := by decide +kernel
theorem dd_xP_turn_38 : decode prog_1_method_6_code 38 = .ok (.checkcast 112, 3) := by decide +kernel
theorem dd_xP_turn_41 : decode prog_1_method_6_code 41 = .ok (.astore_n 2, 1) := by decide +kernel
theorem dd_xP_turn_42 : decode prog_1_method_6_code 42 = .ok (.aload_n 2, 1) := by decide +kernel
theorem dd_xP_turn_43 : decode prog_1_method_6_code 43 = .ok (.getfield 129, 3) := by decide +kernel
theorem dd_xP_turn_46 : decode prog_1_method_6_code 46 = .ok (.astore 4, 2) := by decide +kernel
theorem dd_xP_turn_48 : decode prog_1_method_6_code 48 = .ok (.aload 4, 2) := by decide +kernel
theorem dd_xP_turn_50 : decode prog_1_method_6_code 50 = .ok (.instanceof 53, 3) := by decide +kernel
theorem dd_xP_turn_53 : decode prog_1_method_6_code 53 = .ok (.ifCond .eq 136, 3) := by decide +kernel
theorem dd_xP_turn_56 : decode prog_1_method_6_code 56 = .ok (.aload 4, 2) := by decide +kernel
theorem dd_xP_turn_58 : decode prog_1_method_6_code 58 = .ok (.checkcast 53, 3) := by decide +kernel
theorem dd_xP_turn_61 : decode prog_1_method_6_code 61 = .ok (.astore_n 3, 1) := by decide +kernel
theorem dd_xP_turn_62 : decode prog_1_method_6_code 62 = .ok (.aload_n 0, 1) := by decide +kernel
theorem dd_xP_turn_63 : decode prog_1_method_6_code 63 = .ok (.getfield 39, 3) := by decide +kernel
theorem dd_xP_turn_66 : decode prog_1_method_6_code 66 = .ok (.aload_n 3, 1) := by decide +kernel
theorem dd_xP_turn_67 : decode prog_1_method_6_code 67 = .ok (.aload_n 2, 1) := by decide +kernel
theorem dd_xP_turn_68 : decode prog_1_method_6_code 68 = .ok (.invokevirtual 133, 3) := by decide +kernel
theorem dd_xP_turn_71 : decode prog_1_method_6_code 71 = .ok (.aload_n 0, 1) := by decide +kernel
theorem dd_xP_turn_72 : decode prog_1_method_6_code 72 = .ok (.getfield 26, 3) := by decide +kernel
theorem dd_xP_turn_75 : decode prog_1_method_6_code 75 = .ok (.aload_n 3, 1) := by decide +kernel
theorem dd_xP_turn_76 : decode prog_1_method_6_code 76 = .ok (.getfield 137, 3) := by decide +kernel
theorem dd_xP_turn_79 : decode prog_1_method_6_code 79 = .ok (.aaload, 1) := by decide +kernel
theorem dd_xP_turn_80 : decode prog_1_method_6_code 80 = .ok (.astore 4, 2) := by decide +kernel
theorem dd_xP_turn_82 : decode prog_1_method_6_code 82 = .ok (.iconst 0, 1) := by decide +kernel
theorem dd_xP_turn_83 : decode prog_1_method_6_code 83 = .ok (.istore 5, 2) := by decide +kernel
theorem dd_xP_turn_85 : decode prog_1_method_6_code 85 = .ok (.iload 5, 2) := by decide +kernel
theorem dd_xP_turn_87 : decode prog_1_method_6_code 87 = .ok (.aload 4, 2) := by decide +kernel
theorem dd_xP_turn_89 : decode prog_1_method_6_code 89 = .ok (.getfield 73, 3) := by decide +kernel
theorem dd_xP_turn_92 : decode prog_1_method_6_code 92 = .ok (.if_icmp .ge 64, 3) := by decide +kernel
theorem dd_xP_turn_95 : decode prog_1_method_6_code 95 = .ok (.aload_n 0, 1) := by decide +kernel
theorem dd_xP_turn_96 : decode prog_1_method_6_code 96 = .ok (.getfield 39, 3) := by decide +kernel
theorem dd_xP_turn_99 : decode prog_1_method_6_code 99 = .ok (.getfield 140, 3) := by decide +kernel
theorem dd_xP_turn_102 : decode prog_1_method_6_code 102 = .ok (.ifCond .le 19, 3) := by decide +kernel
theorem dd_xP_turn_105 : decode prog_1_method_6_code 105 = .ok (.aload_n 0, 1) := by decide +kernel
theorem dd_xP_turn_106 : decode prog_1_method_6_code 106 = .ok (.getfield 39, 3) := by decide +kernel
theorem dd_xP_turn_109 : decode prog_1_method_6_code 109 = .ok (.dup, 1) := by decide +kernel
theorem dd_xP_turn_110 : decode prog_1_method_6_code 110 = .ok (.getfield 140, 3) := by decide +kernel
theorem dd_xP_turn_113 : decode prog_1_method_6_code 113 = .ok (.iconst 1, 1) := by decide +kernel
theorem dd_xP_turn_114 : decode prog_1_method_6_code 114 = .ok (.isub, 1) := by decide +kernel
theorem dd_xP_turn_115 : decode prog_1_method_6_code 115 = .ok (.putfield 140, 3) := by decide +kernel
theorem dd_xP_turn_118 : decode prog_1_method_6_code 118 = .ok (.goto 32, 3) := by decide +kernel
theorem dd_xP_turn_121 : decode prog_1_method_6_code 121 = .ok (.aload_n 0, 1) := by decide +kernel
theorem dd_xP_turn_122 : decode prog_1_method_6_code 122 = .ok (.aload_n 0, 1) := by decide +kernel
theorem dd_xP_turn_123 : decode prog_1_method_6_code 123 = .ok (.getfield 39, 3) := by decide +kernel
theorem dd_xP_turn_126 : decode prog_1_method_6_code 126 = .ok (.aload 4, 2) := by decide +kernel
theorem dd_xP_turn_128 : decode prog_1_method_6_code 128 = .ok (.getfield 76, 3) := by decide +kernel
theorem dd_xP_turn_131 : decode prog_1_method_6_code 131 = .ok (.iload 5, 2) := by decide +kernel
theorem dd_xP_turn_133 : decode prog_1_method_6_code 133 = .ok (.iaload, 1) := by decide +kernel
theorem dd_xP_turn_134 : decode prog_1_method_6_code 134 = .ok (.aload 4, 2) := by decide +kernel
theorem dd_xP_turn_136 : decode prog_1_method_6_code 136 = .ok (.getfield 80, 3) := by decide +kernel
theorem dd_xP_turn_139 : decode prog_1_method_6_code 139 = .ok (.iload 5, 2) := by decide +kernel
theorem dd_xP_turn_141 : decode prog_1_method_6_code 141 = .ok (.iaload, 1) := by decide +kernel
theorem dd_xP_turn_142 : decode prog_1_method_6_code 142 = .ok (.invokevirtual 143, 3) := by decide +kernel
theorem dd_xP_turn_145 : decode prog_1_method_6_code 145 = .ok (.aload_n 0, 1) := by decide +kernel
theorem dd_xP_turn_146 : decode prog_1_method_6_code 146 = .ok (.iload_n 1, 1) := by decide +kernel
theorem dd_xP_turn_147 : decode prog_1_method_6_code 147 = .ok (.invokevirtual 147, 3) := by decide +kernel
theorem dd_xP_turn_150 : decode prog_1_method_6_code 150 = .ok (.iinc 5 1, 3) := by decide +kernel
theorem dd_xP_turn_153 : decode prog_1_method_6_code 153 = .ok (.goto (-68), 3) := by decide +kernel
theorem dd_xP_turn_156 : decode prog_1_method_6_code 156 = .ok (.aload_n 2, 1) := by decide +kernel
theorem dd_xP_turn_157 : decode prog_1_method_6_code 157 = .ok (.getfield 151, 3) := by decide +kernel
theorem dd_xP_turn_160 : decode prog_1_method_6_code 160 = .ok (.ifnull 24, 3) := by decide +kernel
theorem dd_xP_turn_163 : decode prog_1_method_6_code 163 = .ok (.aload_n 0, 1) := by decide +kernel
theorem dd_xP_turn_164 : decode prog_1_method_6_code 164 = .ok (.iload_n 1, 1) := by decide +kernel
theorem dd_xP_turn_165 : decode prog_1_method_6_code 165 = .ok (.aload_n 2, 1) := by decide +kernel
theorem dd_xP_turn_166 : decode prog_1_method_6_code 166 = .ok (.getfield 151, 3) := by decide +kernel
theorem dd_xP_turn_169 : decode prog_1_method_6_code 169 = .ok (.aload_n 0, 1) := by decide +kernel
theorem dd_xP_turn_170 : decode prog_1_method_6_code 170 = .ok (.getfield 39, 3) := by decide +kernel
theorem dd_xP_turn_173 : decode prog_1_method_6_code 173 = .ok (.getfield 155, 3) := by decide +kernel
theorem dd_xP_turn_176 : decode prog_1_method_6_code 176 = .ok (.invokevirtual 158, 3) := by decide +kernel
theorem dd_xP_turn_179 : decode prog_1_method_6_code 179 = .ok (.aload_n 0, 1) := by decide +kernel
theorem dd_xP_turn_180 : decode prog_1_method_6_code 180 = .ok (.iload_n 1, 1) := by decide +kernel
theorem dd_xP_turn_181 : decode prog_1_method_6_code 181 = .ok (.invokevirtual 147, 3) := by decide +kernel
theorem dd_xP_turn_184 : decode prog_1_method_6_code 184 = .ok (.aload_n 3, 1) := by decide +kernel
theorem dd_xP_turn_185 : decode prog_1_method_6_code 185 = .ok (.getfield 162, 3) := by decide +kernel
theorem dd_xP_turn_188 : decode prog_1_method_6_code 188 = .ok (.ireturn, 1) := by decide +kernel
theorem dd_xP_turn_189 : decode prog_1_method_6_code 189 = .ok (.iconst (-1), 1) := by decide +kernel
theorem dd_xP_turn_190 : decode prog_1_method_6_code 190 = .ok (.ireturn, 1) := by decide +kernel
set_option maxHeartbeats 4000000 in
set_option maxRecDepth 100000 in
theorem kb_xP_turn_b23 {p : Program} {l : Launch} {e : Env} {s : State} {m : MethodId} {args : Array Value} {below : List Frame} {meth : Method} {c : Code} {D : va_G} {ac : Nat → ClassId} {a0 : Nat} {gl : gl_T} {rF : Int32} {stF : st_S} {iT jT : Nat}
    (X : cx_ p s m args c prog_1_method_6_code 6 "PromiseVats" tb_ D cl_ (ty_ ac)) (hKs : kn_ D ac a0 gl s) (hlk : meth.locks = false) (hret : meth.sig.returnType = (Option.some FieldType.int)) (hnm : meth.name = "turn") : wk_ p l e 13 335 s m args below meth c D cl_ ac a0 6 vb_i rF stF iT jT 23 (fun x : Unit => []) (fun x : Unit => []) (fun _ : Unit => xP_turn_b23 gl) := by
  intro x st H locs cells slots i j ls hw hl h hci hcj
  have h : xP_turn_b23 gl  st = some (rF, stF, i, j) := h
  unfold xP_turn_b23 at h
  have hl : lh_ ls 6 [] := hl
  refine W.eq (g2 := F0 m 23 ls []) rfl ?_
  refine lv_iconst (v := (-1 : Int32)) X.1 X.2.1 dd_xP_turn_23 (by decide) ?_
  obtain ⟨rfl, rfl, rfl, rfl⟩ := st_r_some h
  exact rr_iret X hw hlk hret rfl hci hcj dd_xP_turn_24
set_option maxHeartbeats 4000000 in
set_option maxRecDepth 100000 in
theorem kb_xP_turn_b150 {p : Program} {l : Launch} {e : Env} {s : State} {m : MethodId} {args : Array Value} {below : List Frame} {meth : Method} {c : Code} {D : va_G} {ac : Nat → ClassId} {a0 : Nat} {gl : gl_T} {rF : Int32} {stF : st_S} {iT jT : Nat} {rec85 : Option Nat × Int32 × Option Nat × Option Nat × Option Nat × Int32 → st_M (Int32)}
    (X : cx_ p s m args c prog_1_method_6_code 6 "PromiseVats" tb_ D cl_ (ty_ ac)) (hKs : kn_ D ac a0 gl s) (hlk : meth.locks = false) (hret : meth.sig.returnType = (Option.some FieldType.int)) (hnm : meth.name = "turn") (hr85 : wk_ p l e 13 335 s m args below meth c D cl_ ac a0 6 vb_i rF stF iT jT 85 (fun x : Option Nat × Int32 × Option Nat × Option Nat × Option Nat × Int32 => [(0, (va_rf x.1)), (1, (.int x.2.1)), (2, (va_rf x.2.2.1)), (3, (va_rf x.2.2.2.1)), (4, (va_rf x.2.2.2.2.1)), (5, (.int x.2.2.2.2.2))]) (fun x : Option Nat × Int32 × Option Nat × Option Nat × Option Nat × Int32 => []) rec85) : wk_ p l e 13 335 s m args below meth c D cl_ ac a0 6 vb_i rF stF iT jT 150 (fun x : Option Nat × Int32 × Option Nat × Option Nat × Option Nat × Int32 => [(0, (va_rf x.1)), (1, (.int x.2.1)), (2, (va_rf x.2.2.1)), (3, (va_rf x.2.2.2.1)), (4, (va_rf x.2.2.2.2.1)), (5, (.int x.2.2.2.2.2))]) (fun x : Option Nat × Int32 × Option Nat × Option Nat × Option Nat × Int32 => []) (fun x : Option Nat × Int32 × Option Nat × Option Nat × Option Nat × Int32 => xP_turn_b150 gl rec85 x.1 x.2.1 x.2.2.1 x.2.2.2.1 x.2.2.2.2.1 x.2.2.2.2.2) := by
  intro x st H locs cells slots i j ls hw hl h hci hcj
  obtain ⟨p0, p1, p2, p3, p4, p5⟩ := x
  have h : xP_turn_b150 gl rec85 p0 p1 p2 p3 p4 p5 st = some (rF, stF, i, j) := h
  unfold xP_turn_b150 at h
  have hl : lh_ ls 6 [(0, (va_rf p0)), (1, (.int p1)), (2, (va_rf p2)), (3, (va_rf p3)), (4, (va_rf p4)), (5, (.int p5))] := hl
  refine W.eq (g2 := F0 m 150 ls []) rfl ?_
  refine rr_iinc (k := 5) (v := (p5 + (1 : Int32))) (lv' := [(5, (.int (p5 + (1 : Int32)))), (0, (va_rf p0)), (1, (.int p1)), (2, (va_rf p2)), (3, (va_rf p3)), (4, (va_rf p4))]) X dd_xP_turn_150 hl rfl (by rw [show Int32.ofInt (1) = (1 : Int32) from by decide]) (by decide) rfl (fun ls hl => ?_)
  refine lv_goto (tgt := 85) X.1 X.2.1 dd_xP_turn_153 (by decide) ?_
  exact hr85 (p0, p1, p2, p3, p4, (p5 + (1 : Int32))) _ _ _ _ _ _ _ _ hw (lh_pk hl [1, 2, 3, 4, 5, 0] rfl) h hci hcj
set_option maxHeartbeats 4000000 in
set_option maxRecDepth 100000 in
theorem kb_xP_turn_b184 {p : Program} {l : Launch} {e : Env} {s : State} {m : MethodId} {args : Array Value} {below : List Frame} {meth : Method} {c : Code} {D : va_G} {ac : Nat → ClassId} {a0 : Nat} {gl : gl_T} {rF : Int32} {stF : st_S} {iT jT : Nat}
    (X : cx_ p s m args c prog_1_method_6_code 6 "PromiseVats" tb_ D cl_ (ty_ ac)) (hKs : kn_ D ac a0 gl s) (hlk : meth.locks = false) (hret : meth.sig.returnType = (Option.some FieldType.int)) (hnm : meth.name = "turn") : wk_ p l e 13 335 s m args below meth c D cl_ ac a0 6 vb_i rF stF iT jT 184 (fun x : Option Nat => [(3, (va_rf x))]) (fun x : Option Nat => []) (fun x : Option Nat => xP_turn_b184 gl x) := by
  intro x st H locs cells slots i j ls hw hl h hci hcj
  have hx : ∃ z, z = x := ⟨_, rfl⟩; obtain ⟨p3, rfl⟩ := hx
  have h : xP_turn_b184 gl p3 st = some (rF, stF, i, j) := h
  unfold xP_turn_b184 at h
  have hl : lh_ ls 6 [(3, (va_rf p3))] := hl
  refine W.eq (g2 := F0 m 184 ls []) rfl ?_
  refine rr_aldn X dd_xP_turn_184 rfl (lv_at hl.1 0 rfl) ?_
  obtain ⟨t102, ht102, h⟩ := st_g_some h
  refine rr_geti X hw ff_3_3 ht102 tw_245 (Or.inr tw_244) dd_xP_turn_185 ?_
  obtain ⟨rfl, rfl, rfl, rfl⟩ := st_r_some h
  exact rr_iret X hw hlk hret rfl hci hcj dd_xP_turn_188
set_option maxHeartbeats 4000000 in
set_option maxRecDepth 100000 in
theorem kb_xP_turn_b85 {p : Program} {l : Launch} {e : Env} {s : State} {m : MethodId} {args : Array Value} {below : List Frame} {meth : Method} {c : Code} {D : va_G} {ac : Nat → ClassId} {a0 : Nat} {gl : gl_T} {rF : Int32} {stF : st_S} {iT jT : Nat}
    (X : cx_ p s m args c prog_1_method_6_code 6 "PromiseVats" tb_ D cl_ (ty_ ac)) (hKs : kn_ D ac a0 gl s) (hlk : meth.locks = false) (hret : meth.sig.returnType = (Option.some FieldType.int)) (hnm : meth.name = "turn") : wk_ p l e 13 335 s m args below meth c D cl_ ac a0 6 vb_i rF stF iT jT 85 (fun x : Option Nat × Int32 × Option Nat × Option Nat × Option Nat × Int32 => [(0, (va_rf x.1)), (1, (.int x.2.1)), (2, (va_rf x.2.2.1)), (3, (va_rf x.2.2.2.1)), (4, (va_rf x.2.2.2.2.1)), (5, (.int x.2.2.2.2.2))]) (fun x : Option Nat × Int32 × Option Nat × Option Nat × Option Nat × Int32 => []) (st_it (fun rec85 => (fun x : Option Nat × Int32 × Option Nat × Option Nat × Option Nat × Int32 => xP_turn_b85 gl rec85 x.1 x.2.1 x.2.2.1 x.2.2.2.1 x.2.2.2.2.1 x.2.2.2.2.2)) fu_) := by
  refine wk_it ?_ _
  intro rec85 hr85 x st H locs cells slots i j ls hw hl h hci hcj
  obtain ⟨p0, p1, p2, p3, p4, p5⟩ := x
  have h : xP_turn_b85 gl rec85 p0 p1 p2 p3 p4 p5 st = some (rF, stF, i, j) := h
  unfold xP_turn_b85 at h
  have hl : lh_ ls 6 [(0, (va_rf p0)), (1, (.int p1)), (2, (va_rf p2)), (3, (va_rf p3)), (4, (va_rf p4)), (5, (.int p5))] := hl
  refine W.eq (g2 := F0 m 85 ls []) rfl ?_
  refine lv_iload X.1 X.2.1 dd_xP_turn_85 (lv_at hl.1 5 rfl) ?_
  refine rr_ald X dd_xP_turn_87 (lv_at hl.1 4 rfl) ?_
  obtain ⟨t51, ht51, h⟩ := st_g_some h
  refine rr_geti X hw ff_2_2 ht51 tw_98 (Or.inl rfl) dd_xP_turn_89 ?_
  by_cases hc92 : t51 ≤ p5
  · rw [if_pos hc92] at h
    refine lv_icmp_ge (tgt := 156) X.1 X.2.1 dd_xP_turn_92 (by decide) (fun _ => ?_) (fun z => absurd hc92 z)
    refine rr_aldn X dd_xP_turn_156 rfl (lv_at hl.1 2 rfl) ?_
    obtain ⟨t52, ht52, h⟩ := st_g_some h
    refine rr_getq X hw ff_8_3 ht52 tw_121 (Or.inl rfl) dd_xP_turn_157 ?_
    by_cases hc160 : t52 = none
    · rw [if_pos hc160] at h
      refine rr_ifnull (tgt := 184) X dd_xP_turn_160 (by decide) (fun _ => ?_) (fun z => absurd hc160 z)
      exact (kb_xP_turn_b184 X hKs hlk hret hnm) p3 _ _ _ _ _ _ _ _ hw (lh_pk hl [3] rfl) h hci hcj
    · rw [if_neg hc160] at h
      refine rr_ifnull (tgt := 184) X dd_xP_turn_160 (by decide) (fun z => absurd z hc160) (fun _ => ?_)
      refine rr_aldn X dd_xP_turn_163 rfl (lv_at hl.1 0 rfl) ?_
      refine lv_iload_n X.1 X.2.1 dd_xP_turn_164 rfl (lv_at hl.1 1 rfl) ?_
      refine rr_aldn X dd_xP_turn_165 rfl (lv_at hl.1 2 rfl) ?_
      obtain ⟨t53, ht53, h⟩ := st_g_some h
      refine rr_getq X hw ff_8_3 ht53 tw_121 (Or.inl rfl) dd_xP_turn_166 ?_
      refine rr_aldn X dd_xP_turn_169 rfl (lv_at hl.1 0 rfl) ?_
      obtain ⟨t54, ht54, h⟩ := st_g_some h
      refine rr_getq X hw ff_0_5 ht54 tw_58 (Or.inl rfl) dd_xP_turn_170 ?_
      obtain ⟨t55, ht55, h⟩ := st_g_some h
      refine rr_getq X hw ff_1_2 ht55 tw_246 (Or.inl rfl) dd_xP_turn_173 ?_
      obtain ⟨t73, ht73, h⟩ := st_g_some h
      obtain ⟨t56, t57, t58, t59, t60, t61, ht56, h, ei, ej⟩ := st_b_some h
      refine rr_callV (n := 3) (As := [(.int p1), (va_rf t53), (va_rf t55)]) (rest := []) X hw (kn_ok D ac a0 gl) hKs (kc_xP_resolveIn l D ac a0 gl p0 p1 t53 t55 _ _ _ _ _ ht56) tb_good tw_303 tw_91 tw_304 tw_305 se_19 ht73 (by decide +kernel) rfl (show 11 + 1 ≤ _ ∧ 8 + (5 + 11) + 286 ≤ _ from ⟨Nat.le_of_ble_eq_true rfl, Nat.le_of_ble_eq_true rfl⟩) (show cells + t58 ≤ iT ∧ slots + t59 ≤ jT from ⟨ar_1 hci ei, ar_1 hcj ej⟩) hl.1.1 (by simp [rf_cat, ic_cat]) rfl dd_xP_turn_176 (sk := []) rfl (fun H locs hw => ?_)
      have hci : cells + t58 + t60 = iT := ar_2 hci ei
      have hcj : slots + t59 + t61 = jT := ar_2 hcj ej
      clear ei ej
      generalize cells + t58 = t62 at hci ⊢
      generalize slots + t59 = t63 at hcj ⊢
      refine rr_aldn X dd_xP_turn_179 rfl (lv_at hl.1 0 rfl) ?_
      refine lv_iload_n X.1 X.2.1 dd_xP_turn_180 rfl (lv_at hl.1 1 rfl) ?_
      obtain ⟨t72, ht72, h⟩ := st_g_some h
      obtain ⟨t64, t65, t66, t67, t68, t69, ht64, h, ei, ej⟩ := st_b_some h
      refine rr_callV (n := 1) (As := [(.int p1)]) (rest := []) X hw (kn_ok D ac a0 gl) hKs (kc_xP_settleLost l D ac a0 gl p0 p1 _ _ _ _ _ ht64) tb_good tw_320 tw_91 tw_321 tw_322 se_23 ht72 (by decide +kernel) rfl (show 12 + 1 ≤ _ ∧ 8 + (3 + 11) + 310 ≤ _ from ⟨Nat.le_of_ble_eq_true rfl, Nat.le_of_ble_eq_true rfl⟩) (show t62 + t66 ≤ iT ∧ t63 + t67 ≤ jT from ⟨ar_1 hci ei, ar_1 hcj ej⟩) hl.1.1 (by simp [rf_cat, ic_cat]) rfl dd_xP_turn_181 (sk := []) rfl (fun H locs hw => ?_)
      have hci : t62 + t66 + t68 = iT := ar_2 hci ei
      have hcj : t63 + t67 + t69 = jT := ar_2 hcj ej
      clear ei ej
      generalize t62 + t66 = t70 at hci ⊢
      generalize t63 + t67 = t71 at hcj ⊢
      exact (kb_xP_turn_b184 X hKs hlk hret hnm) p3 _ _ _ _ _ _ _ _ hw (lh_pk hl [3] rfl) h hci hcj
  · rw [if_neg hc92] at h
    refine lv_icmp_ge (tgt := 156) X.1 X.2.1 dd_xP_turn_92 (by decide) (fun z => absurd z hc92) (fun _ => ?_)
    refine rr_aldn X dd_xP_turn_95 rfl (lv_at hl.1 0 rfl) ?_
    obtain ⟨t74, ht74, h⟩ := st_g_some h
    refine rr_getq X hw ff_0_5 ht74 tw_58 (Or.inl rfl) dd_xP_turn_96 ?_
    obtain ⟨t75, ht75, h⟩ := st_g_some h
    refine rr_geti X hw ff_1_3 ht75 tw_283 (Or.inl rfl) dd_xP_turn_99 ?_
    by_cases hc102 : t75 ≤ 0
    · rw [if_pos hc102] at h
      refine lv_if_le (tgt := 121) X.1 X.2.1 dd_xP_turn_102 (by decide) (fun _ => ?_) (fun z => absurd hc102 z)
      refine rr_aldn X dd_xP_turn_121 rfl (lv_at hl.1 0 rfl) ?_
      refine rr_aldn X dd_xP_turn_122 rfl (lv_at hl.1 0 rfl) ?_
      obtain ⟨t76, ht76, h⟩ := st_g_some h
      refine rr_getq X hw ff_0_5 ht76 tw_58 (Or.inl rfl) dd_xP_turn_123 ?_
      refine rr_ald X dd_xP_turn_126 (lv_at hl.1 4 rfl) ?_
      obtain ⟨t77, ht77, h⟩ := st_g_some h
      refine rr_getq X hw ff_2_0 ht77 tw_100 (Or.inl rfl) dd_xP_turn_128 ?_
      refine lv_iload X.1 X.2.1 dd_xP_turn_131 (lv_at hl.1 5 rfl) ?_
      obtain ⟨t78, ht78, h⟩ := st_g_some h
      refine rr_iald (t := 0) X hw rfl ht78 dd_xP_turn_133 ?_
      refine rr_ald X dd_xP_turn_134 (lv_at hl.1 4 rfl) ?_
      obtain ⟨t79, ht79, h⟩ := st_g_some h
      refine rr_getq X hw ff_2_1 ht79 tw_99 (Or.inl rfl) dd_xP_turn_136 ?_
      refine lv_iload X.1 X.2.1 dd_xP_turn_139 (lv_at hl.1 5 rfl) ?_
      obtain ⟨t80, ht80, h⟩ := st_g_some h
      refine rr_iald (t := 0) X hw rfl ht80 dd_xP_turn_141 ?_
      obtain ⟨t98, ht98, h⟩ := st_g_some h
      obtain ⟨t81, t82, t83, t84, t85, t86, ht81, h, ei, ej⟩ := st_b_some h
      refine rr_callV (n := 3) (As := [(va_rf t76), (.int t78), (.int t80)]) (rest := []) X hw (kn_ok D ac a0 gl) hKs (kc_xP_perform l D ac a0 gl p0 t76 t78 t80 _ _ _ _ _ ht81) tb_good tw_324 tw_91 tw_325 tw_326 se_24 ht98 (by decide +kernel) rfl (show 12 + 1 ≤ _ ∧ 8 + (5 + 11) + 311 ≤ _ from ⟨Nat.le_of_ble_eq_true rfl, Nat.le_of_ble_eq_true rfl⟩) (show cells + t83 ≤ iT ∧ slots + t84 ≤ jT from ⟨ar_1 hci ei, ar_1 hcj ej⟩) hl.1.1 (by simp [rf_cat, ic_cat]) rfl dd_xP_turn_142 (sk := []) rfl (fun H locs hw => ?_)
      have hci : cells + t83 + t85 = iT := ar_2 hci ei
      have hcj : slots + t84 + t86 = jT := ar_2 hcj ej
      clear ei ej
      generalize cells + t83 = t87 at hci ⊢
      generalize slots + t84 = t88 at hcj ⊢
      refine rr_aldn X dd_xP_turn_145 rfl (lv_at hl.1 0 rfl) ?_
      refine lv_iload_n X.1 X.2.1 dd_xP_turn_146 rfl (lv_at hl.1 1 rfl) ?_
      obtain ⟨t97, ht97, h⟩ := st_g_some h
      obtain ⟨t89, t90, t91, t92, t93, t94, ht89, h, ei, ej⟩ := st_b_some h
      refine rr_callV (n := 1) (As := [(.int p1)]) (rest := []) X hw (kn_ok D ac a0 gl) hKs (kc_xP_settleLost l D ac a0 gl p0 p1 _ _ _ _ _ ht89) tb_good tw_320 tw_91 tw_321 tw_322 se_23 ht97 (by decide +kernel) rfl (show 12 + 1 ≤ _ ∧ 8 + (3 + 11) + 310 ≤ _ from ⟨Nat.le_of_ble_eq_true rfl, Nat.le_of_ble_eq_true rfl⟩) (show t87 + t91 ≤ iT ∧ t88 + t92 ≤ jT from ⟨ar_1 hci ei, ar_1 hcj ej⟩) hl.1.1 (by simp [rf_cat, ic_cat]) rfl dd_xP_turn_147 (sk := []) rfl (fun H locs hw => ?_)
      have hci : t87 + t91 + t93 = iT := ar_2 hci ei
      have hcj : t88 + t92 + t94 = jT := ar_2 hcj ej
      clear ei ej
      generalize t87 + t91 = t95 at hci ⊢
      generalize t88 + t92 = t96 at hcj ⊢
      exact (kb_xP_turn_b150 X hKs hlk hret hnm hr85) (p0, p1, p2, p3, p4, p5) _ _ _ _ _ _ _ _ hw (lh_pk hl [0, 1, 2, 3, 4, 5] rfl) h hci hcj
    · rw [if_neg hc102] at h
      refine lv_if_le (tgt := 121) X.1 X.2.1 dd_xP_turn_102 (by decide) (fun z => absurd z hc102) (fun _ => ?_)
      refine rr_aldn X dd_xP_turn_105 rfl (lv_at hl.1 0 rfl) ?_
      obtain ⟨t99, ht99, h⟩ := st_g_some h
      refine rr_getq X hw ff_0_5 ht99 tw_58 (Or.inl rfl) dd_xP_turn_106 ?_
      refine lv_dup X.1 X.2.1 dd_xP_turn_109 (rf_cat _) ?_
      obtain ⟨t100, ht100, h⟩ := st_g_some h
      refine rr_geti X hw ff_1_3 ht100 tw_283 (Or.inl rfl) dd_xP_turn_110 ?_
      refine lv_iconst (v := (1 : Int32)) X.1 X.2.1 dd_xP_turn_113 (by decide) ?_
      refine lv_isub X.1 X.2.1 dd_xP_turn_114 ?_
      obtain ⟨t101, hp115, h⟩ := st_w_some h
      refine rr_put (ty := .int) X hw ff_1_3 hp115 tw_283 (Or.inl rfl) (by decide +kernel) rfl rfl dd_xP_turn_115 (fun H locs hw => ?_)
      refine lv_goto (tgt := 150) X.1 X.2.1 dd_xP_turn_118 (by decide) ?_
      exact (kb_xP_turn_b150 X hKs hlk hret hnm hr85) (p0, p1, p2, p3, p4, p5) _ _ _ _ _ _ _ _ hw (lh_pk hl [0, 1, 2, 3, 4, 5] rfl) h hci hcj
set_option maxHeartbeats 4000000 in
set_option maxRecDepth 100000 in
theorem kc_xP_turn (l : Launch) (D : va_G) (ac : Nat → ClassId) (a0 : Nat) (gl : gl_T) (v0 : Option Nat) (v1 : Int32) (st : st_S) (rF : Int32) (stF : st_S) (iT jT : Nat) (h : xP_turn gl v0 v1 st = some (rF, stF, iT, jT)) :
    ct_ l ⟨"PromiseVats", "turn", "(I)I"⟩ (Cond.code ⟨"PromiseVats", "turn", "(I)I"⟩ prog_1_method_6_code 6 (Option.some FieldType.int) :: tb_) 13 335 D cl_ ac a0 (kn_ D ac a0 gl) [(va_rf v0), (.int v1)] st (vb_i rF) stF iT jT := by
  refine ct_of (kn_ok D ac a0 gl) (plainFor_of_name (by decide +kernel)) (by simp [rf_cat, ic_cat]) (by simp) ?_
  intro p e s m args below meth c ls X hw hKs hlk hret hnm hl
  unfold xP_turn at h
  have hl : lh_ ls 6 [(0, (va_rf v0)), (1, (.int v1))] := hl
  obtain ⟨z0, hz0⟩ : ∃ z : Nat, 0 = z := ⟨0, rfl⟩
  obtain ⟨z1, hz1⟩ : ∃ z : Nat, 0 = z := ⟨0, rfl⟩
  refine W.cs hz0 hz1 ?_
  have hci : z0 + iT = iT := by omega
  have hcj : z1 + jT = jT := by omega
  refine rr_aldn X dd_xP_turn_0 rfl (lv_at hl.1 0 rfl) ?_
  refine lv_iload_n X.1 X.2.1 dd_xP_turn_1 rfl (lv_at hl.1 1 rfl) ?_
  obtain ⟨t50, ht50, h⟩ := st_g_some h
  obtain ⟨t1, t2, t3, t4, t5, t6, ht1, h, ei, ej⟩ := st_b_some h
  refine rr_callV (n := 1) (As := [(.int v1)]) (rest := []) X hw (kn_ok D ac a0 gl) hKs (kc_xP_isVat l D ac a0 gl v0 v1 _ _ _ _ _ ht1) tb_good tw_110 tw_91 tw_111 tw_112 se_0 ht50 (by decide +kernel) rfl (show 0 + 1 ≤ _ ∧ 8 + (2 + 11) + 0 ≤ _ from ⟨Nat.le_of_ble_eq_true rfl, Nat.le_of_ble_eq_true rfl⟩) (show z0 + t3 ≤ iT ∧ z1 + t4 ≤ jT from ⟨ar_1 hci ei, ar_1 hcj ej⟩) hl.1.1 (by simp [rf_cat, ic_cat]) rfl dd_xP_turn_2 (sk := [(.int t1)]) rfl (fun H locs hw => ?_)
  have hci : z0 + t3 + t5 = iT := ar_2 hci ei
  have hcj : z1 + t4 + t6 = jT := ar_2 hcj ej
  clear ei ej
  generalize z0 + t3 = t7 at hci ⊢
  generalize z1 + t4 = t8 at hcj ⊢
  by_cases hc5 : t1 = 0
  · rw [if_pos hc5] at h
    refine lv_if_eq (tgt := 23) X.1 X.2.1 dd_xP_turn_5 (by decide) (fun _ => ?_) (fun z => absurd hc5 z)
    exact (kb_xP_turn_b23 X hKs hlk hret hnm) () _ _ _ _ _ _ _ _ hw (lh_pk hl [] rfl) h hci hcj
  · rw [if_neg hc5] at h
    refine lv_if_eq (tgt := 23) X.1 X.2.1 dd_xP_turn_5 (by decide) (fun z => absurd z hc5) (fun _ => ?_)
    refine rr_aldn X dd_xP_turn_8 rfl (lv_at hl.1 0 rfl) ?_
    obtain ⟨t9, ht9, h⟩ := st_g_some h
    refine rr_getq X hw ff_0_0 ht9 tw_66 (Or.inl rfl) dd_xP_turn_9 ?_
    refine lv_iload_n X.1 X.2.1 dd_xP_turn_12 rfl (lv_at hl.1 1 rfl) ?_
    obtain ⟨t10, ht10, h⟩ := st_g_some h
    refine rr_aald X hw (tq_4 ac) ht10 dd_xP_turn_13 ?_
    obtain ⟨t11, ht11, h⟩ := st_g_some h
    refine rr_getq X hw ff_5_1 ht11 tw_204 (Or.inl rfl) dd_xP_turn_14 ?_
    obtain ⟨t49, ht49, h⟩ := st_g_some h
    obtain ⟨t12, t13, t14, t15, t16, t17, ht12, h, ei, ej⟩ := st_b_some h
    refine rr_callV (n := 0) (As := []) (rest := []) X hw (kn_ok D ac a0 gl) hKs (kc_al_isEmpty l D ac a0 gl t11 _ _ _ _ _ ht12) tb_good tw_316 tw_33 tw_317 tw_318 se_22 ht49 (by decide +kernel) rfl (show 0 + 1 ≤ _ ∧ 8 + (1 + 11) + 0 ≤ _ from ⟨Nat.le_of_ble_eq_true rfl, Nat.le_of_ble_eq_true rfl⟩) (show t7 + t14 ≤ iT ∧ t8 + t15 ≤ jT from ⟨ar_1 hci ei, ar_1 hcj ej⟩) hl.1.1 (by simp [rf_cat, ic_cat]) rfl dd_xP_turn_17 (sk := [(.int t12)]) rfl (fun H locs hw => ?_)
    have hci : t7 + t14 + t16 = iT := ar_2 hci ei
    have hcj : t8 + t15 + t17 = jT := ar_2 hcj ej
    clear ei ej
    generalize t7 + t14 = t18 at hci ⊢
    generalize t8 + t15 = t19 at hcj ⊢
    by_cases hc20 : t12 = 0
    · rw [if_pos hc20] at h
      refine lv_if_eq (tgt := 25) X.1 X.2.1 dd_xP_turn_20 (by decide) (fun _ => ?_) (fun z => absurd hc20 z)
      refine rr_aldn X dd_xP_turn_25 rfl (lv_at hl.1 0 rfl) ?_
      obtain ⟨t20, ht20, h⟩ := st_g_some h
      refine rr_getq X hw ff_0_0 ht20 tw_66 (Or.inl rfl) dd_xP_turn_26 ?_
      refine lv_iload_n X.1 X.2.1 dd_xP_turn_29 rfl (lv_at hl.1 1 rfl) ?_
      obtain ⟨t21, ht21, h⟩ := st_g_some h
      refine rr_aald X hw (tq_4 ac) ht21 dd_xP_turn_30 ?_
      obtain ⟨t22, ht22, h⟩ := st_g_some h
      refine rr_getq X hw ff_5_1 ht22 tw_204 (Or.inl rfl) dd_xP_turn_31 ?_
      refine lv_iconst (v := (0 : Int32)) X.1 X.2.1 dd_xP_turn_34 (by decide) ?_
      obtain ⟨t48, ht48, h⟩ := st_g_some h
      obtain ⟨t23, t24, t25, t26, t27, t28, ht23, h, ei, ej⟩ := st_b_some h
      refine rr_callV (n := 1) (As := [(.int (0 : Int32))]) (rest := []) X hw (kn_ok D ac a0 gl) hKs (kc_al_remove l D ac a0 gl t22 (0 : Int32) _ _ _ _ _ ht23) tb_good tw_312 tw_33 tw_313 tw_314 se_21 ht48 (by decide +kernel) rfl (show 2 + 1 ≤ _ ∧ 8 + (4 + 11) + 83 ≤ _ from ⟨Nat.le_of_ble_eq_true rfl, Nat.le_of_ble_eq_true rfl⟩) (show t18 + t25 ≤ iT ∧ t19 + t26 ≤ jT from ⟨ar_1 hci ei, ar_1 hcj ej⟩) hl.1.1 (by simp [rf_cat, ic_cat]) rfl dd_xP_turn_35 (sk := [(va_rf t23)]) rfl (fun H locs hw => ?_)
      have hci : t18 + t25 + t27 = iT := ar_2 hci ei
      have hcj : t19 + t26 + t28 = jT := ar_2 hcj ej
      clear ei ej
      generalize t18 + t25 = t29 at hci ⊢
      generalize t19 + t26 = t30 at hcj ⊢
      obtain ⟨t31, ht31, h⟩ := st_g_some h
      refine rr_cast X hw (ti_C_y hKs) ht31 tw_223 dd_xP_turn_38 ?_
      refine rr_astn (lv' := [(2, (va_rf t23)), (0, (va_rf v0)), (1, (.int v1))]) X dd_xP_turn_41 rfl hl (by decide) rfl (fun ls hl => ?_)
      refine rr_aldn X dd_xP_turn_42 rfl (lv_at hl.1 0 rfl) ?_
      obtain ⟨t32, ht32, h⟩ := st_g_some h
      refine rr_getq X hw ff_8_0 ht32 tw_199 (Or.inl rfl) dd_xP_turn_43 ?_
      refine rr_ast (lv' := [(4, (va_rf t32)), (2, (va_rf t23)), (0, (va_rf v0)), (1, (.int v1))]) X dd_xP_turn_46 hl (by decide) rfl (fun ls hl => ?_)
      refine rr_ald X dd_xP_turn_48 (lv_at hl.1 0 rfl) ?_
      obtain ⟨t33, ht33, h⟩ := st_g_some h
      refine rr_inst X hw (ti_O_y hKs) (ti_O_n hKs) ht33 tw_89 dd_xP_turn_50 ?_
      by_cases hc53 : t33 = 0
      · rw [if_pos hc53] at h
        refine lv_if_eq (tgt := 189) X.1 X.2.1 dd_xP_turn_53 (by decide) (fun _ => ?_) (fun z => absurd hc53 z)
        refine lv_iconst (v := (-1 : Int32)) X.1 X.2.1 dd_xP_turn_189 (by decide) ?_
        obtain ⟨rfl, rfl, rfl, rfl⟩ := st_r_some h
        exact rr_iret X hw hlk hret rfl hci hcj dd_xP_turn_190
      · rw [if_neg hc53] at h
        refine lv_if_eq (tgt := 189) X.1 X.2.1 dd_xP_turn_53 (by decide) (fun z => absurd z hc53) (fun _ => ?_)
        refine rr_ald X dd_xP_turn_56 (lv_at hl.1 0 rfl) ?_
        obtain ⟨t34, ht34, h⟩ := st_g_some h
        refine rr_cast X hw (ti_O_y hKs) ht34 tw_89 dd_xP_turn_58 ?_
        refine rr_astn (lv' := [(3, (va_rf t32)), (4, (va_rf t32)), (2, (va_rf t23)), (0, (va_rf v0)), (1, (.int v1))]) X dd_xP_turn_61 rfl hl (by decide) rfl (fun ls hl => ?_)
        refine rr_aldn X dd_xP_turn_62 rfl (lv_at hl.1 3 rfl) ?_
        obtain ⟨t35, ht35, h⟩ := st_g_some h
        refine rr_getq X hw ff_0_5 ht35 tw_58 (Or.inl rfl) dd_xP_turn_63 ?_
        refine rr_aldn X dd_xP_turn_66 rfl (lv_at hl.1 0 rfl) ?_
        refine rr_aldn X dd_xP_turn_67 rfl (lv_at hl.1 2 rfl) ?_
        obtain ⟨t47, ht47, h⟩ := st_g_some h
        obtain ⟨t36, t37, t38, t39, t40, t41, ht36, h, ei, ej⟩ := st_b_some h
        refine rr_callV (n := 2) (As := [(va_rf t32), (va_rf t23)]) (rest := []) X hw (kn_ok D ac a0 gl) hKs (kc_xT_begin l D ac a0 gl t35 t32 t23 _ _ _ _ _ ht36) tb_good tw_308 tw_59 tw_309 tw_310 se_20 ht47 (by decide +kernel) rfl (show 0 + 1 ≤ _ ∧ 8 + (3 + 11) + 0 ≤ _ from ⟨Nat.le_of_ble_eq_true rfl, Nat.le_of_ble_eq_true rfl⟩) (show t29 + t38 ≤ iT ∧ t30 + t39 ≤ jT from ⟨ar_1 hci ei, ar_1 hcj ej⟩) hl.1.1 (by simp [rf_cat, ic_cat]) rfl dd_xP_turn_68 (sk := []) rfl (fun H locs hw => ?_)
        have hci : t29 + t38 + t40 = iT := ar_2 hci ei
        have hcj : t30 + t39 + t41 = jT := ar_2 hcj ej
        clear ei ej
        generalize t29 + t38 = t42 at hci ⊢
        generalize t30 + t39 = t43 at hcj ⊢
        refine rr_aldn X dd_xP_turn_71 rfl (lv_at hl.1 3 rfl) ?_
        obtain ⟨t44, ht44, h⟩ := st_g_some h
        refine rr_getq X hw ff_0_1 ht44 tw_65 (Or.inl rfl) dd_xP_turn_72 ?_
        refine rr_aldn X dd_xP_turn_75 rfl (lv_at hl.1 0 rfl) ?_
        obtain ⟨t45, ht45, h⟩ := st_g_some h
        refine rr_geti X hw ff_3_0 ht45 tw_307 (Or.inl rfl) dd_xP_turn_76 ?_
        obtain ⟨t46, ht46, h⟩ := st_g_some h
        refine rr_aald X hw (tq_5 ac) ht46 dd_xP_turn_79 ?_
        refine rr_ast (lv' := [(4, (va_rf t46)), (3, (va_rf t32)), (2, (va_rf t23)), (0, (va_rf v0)), (1, (.int v1))]) X dd_xP_turn_80 hl (by decide) rfl (fun ls hl => ?_)
        refine lv_iconst (v := (0 : Int32)) X.1 X.2.1 dd_xP_turn_82 (by decide) ?_
        refine rr_ist (lv' := [(5, (.int (0 : Int32))), (4, (va_rf t46)), (3, (va_rf t32)), (2, (va_rf t23)), (0, (va_rf v0)), (1, (.int v1))]) X dd_xP_turn_83 hl (by decide) rfl (fun ls hl => ?_)
        exact (kb_xP_turn_b85 X hKs hlk hret hnm) (v0, v1, t23, t32, t46, (0 : Int32)) _ _ _ _ _ _ _ _ hw (lh_pk hl [4, 5, 3, 2, 1, 0] rfl) h hci hcj
    · rw [if_neg hc20] at h
      refine lv_if_eq (tgt := 25) X.1 X.2.1 dd_xP_turn_20 (by decide) (fun z => absurd z hc20) (fun _ => ?_)
      exact (kb_xP_turn_b23 X hKs hlk hret hnm) () _ _ _ _ _ _ _ _ hw (lh_pk hl [] rfl) h hci hcj
