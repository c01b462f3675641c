/-! PromiseVatsModel.pair(IIII)V -/
theorem dd_mm_pair_0 : decode prog_12_method_10_code 0 = .ok (.bipush 16, 2) := by decide +kernel
theorem dd_mm_pair_2 : decode prog_12_method_10_code 2 = .ok (.iload_n 3, 1) := by decide +kernel
theorem dd_mm_pair_3 : decode prog_12_method_10_code 3 = .ok (.imul, 1) := by decide +kernel
theorem dd_mm_pair_4 : decode prog_12_method_10_code 4 = .ok (.iconst 4, 1) := by decide +kernel
theorem dd_mm_pair_5 : decode prog_12_method_10_code 5 = .ok (.iload_n 1, 1) := by decide +kernel
theorem dd_mm_pair_6 : decode prog_12_method_10_code 6 = .ok (.imul, 1) := by decide +kernel
theorem dd_mm_pair_7 : decode prog_12_method_10_code 7 = .ok (.iadd, 1) := by decide +kernel
theorem dd_mm_pair_8 : decode prog_12_method_10_code 8 = .ok (.iload_n 2, 1) := by decide +kernel
theorem dd_mm_pair_9 : decode prog_12_method_10_code 9 = .ok (.iadd, 1) := by decide +kernel
theorem dd_mm_pair_10 : decode prog_12_method_10_code 10 = .ok (.istore 5, 2) := by decide +kernel
theorem dd_mm_pair_12 : decode prog_12_method_10_code 12 = .ok (.iload 4, 2) := by decide +kernel
theorem dd_mm_pair_14 : decode prog_12_method_10_code 14 = .ok (.ifCond .le 21, 3) := by decide +kernel
theorem dd_mm_pair_17 : decode prog_12_method_10_code 17 = .ok (.aload_n 0, 1) := by decide +kernel
theorem dd_mm_pair_18 : decode prog_12_method_10_code 18 = .ok (.getfield 51, 3) := by decide +kernel
theorem dd_mm_pair_21 : decode prog_12_method_10_code 21 = .ok (.iload 5, 2) := by decide +kernel
theorem dd_mm_pair_23 : decode prog_12_method_10_code 23 = .ok (.iaload, 1) := by decide +kernel
theorem dd_mm_pair_24 : decode prog_12_method_10_code 24 = .ok (.ifCond .ge 7, 3) := by decide +kernel
theorem dd_mm_pair_27 : decode prog_12_method_10_code 27 = .ok (.iconst 1, 1) := by decide +kernel
theorem dd_mm_pair_28 : decode prog_12_method_10_code 28 = .ok (.goto 22, 3) := by decide +kernel
theorem dd_mm_pair_31 : decode prog_12_method_10_code 31 = .ok (.iconst 0, 1) := by decide +kernel
theorem dd_mm_pair_32 : decode prog_12_method_10_code 32 = .ok (.goto 18, 3) := by decide +kernel
theorem dd_mm_pair_35 : decode prog_12_method_10_code 35 = .ok (.aload_n 0, 1) := by decide +kernel
theorem dd_mm_pair_36 : decode prog_12_method_10_code 36 = .ok (.getfield 51, 3) := by decide +kernel
theorem dd_mm_pair_39 : decode prog_12_method_10_code 39 = .ok (.iload 5, 2) := by decide +kernel
theorem dd_mm_pair_41 : decode prog_12_method_10_code 41 = .ok (.iaload, 1) := by decide +kernel
theorem dd_mm_pair_42 : decode prog_12_method_10_code 42 = .ok (.ifCond .le 7, 3) := by decide +kernel
theorem dd_mm_pair_45 : decode prog_12_method_10_code 45 = .ok (.iconst 1, 1) := by decide +kernel
theorem dd_mm_pair_46 : decode prog_12_method_10_code 46 = .ok (.goto 4, 3) := by decide +kernel
theorem dd_mm_pair_49 : decode prog_12_method_10_code 49 = .ok (.iconst 0, 1) := by decide +kernel
theorem dd_mm_pair_50 : decode prog_12_method_10_code 50 = .ok (.istore 6, 2) := by decide +kernel
theorem dd_mm_pair_52 : decode prog_12_method_10_code 52 = .ok (.aload_n 0, 1) := by decide +kernel
theorem dd_mm_pair_53 : decode prog_12_method_10_code 53 = .ok (.getfield 51, 3) := by decide +kernel
theorem dd_mm_pair_56 : decode prog_12_method_10_code 56 = .ok (.iload 5, 2) := by decide +kernel
theorem dd_mm_pair_58 : decode prog_12_method_10_code 58 = .ok (.aload_n 0, 1) := by decide +kernel
theorem dd_mm_pair_59 : decode prog_12_method_10_code 59 = .ok (.getfield 51, 3) := by decide +kernel
theorem dd_mm_pair_62 : decode prog_12_method_10_code 62 = .ok (.iload 5, 2) := by decide +kernel
theorem dd_mm_pair_64 : decode prog_12_method_10_code 64 = .ok (.iaload, 1) := by decide +kernel
theorem dd_mm_pair_65 : decode prog_12_method_10_code 65 = .ok (.iload 4, 2) := by decide +kernel
theorem dd_mm_pair_67 : decode prog_12_method_10_code 67 = .ok (.iadd, 1) := by decide +kernel
theorem dd_mm_pair_68 : decode prog_12_method_10_code 68 = .ok (.iastore, 1) := by decide +kernel
theorem dd_mm_pair_69 : decode prog_12_method_10_code 69 = .ok (.iload 6, 2) := by decide +kernel
theorem dd_mm_pair_71 : decode prog_12_method_10_code 71 = .ok (.ifCond .eq 17, 3) := by decide +kernel
theorem dd_mm_pair_74 : decode prog_12_method_10_code 74 = .ok (.aload_n 0, 1) := by decide +kernel
theorem dd_mm_pair_75 : decode prog_12_method_10_code 75 = .ok (.getfield 45, 3) := by decide +kernel
theorem dd_mm_pair_78 : decode prog_12_method_10_code 78 = .ok (.iconst 4, 1) := by decide +kernel
theorem dd_mm_pair_79 : decode prog_12_method_10_code 79 = .ok (.iload_n 3, 1) := by decide +kernel
theorem dd_mm_pair_80 : decode prog_12_method_10_code 80 = .ok (.imul, 1) := by decide +kernel
theorem dd_mm_pair_81 : decode prog_12_method_10_code 81 = .ok (.iload_n 2, 1) := by decide +kernel
theorem dd_mm_pair_82 : decode prog_12_method_10_code 82 = .ok (.iadd, 1) := by decide +kernel
theorem dd_mm_pair_83 : decode prog_12_method_10_code 83 = .ok (.dup2, 1) := by decide +kernel
theorem dd_mm_pair_84 : decode prog_12_method_10_code 84 = .ok (.iaload, 1) := by decide +kernel
theorem dd_mm_pair_85 : decode prog_12_method_10_code 85 = .ok (.iconst 1, 1) := by decide +kernel
theorem dd_mm_pair_86 : decode prog_12_method_10_code 86 = .ok (.iadd, 1) := by decide +kernel
theorem dd_mm_pair_87 : decode prog_12_method_10_code 87 = .ok (.iastore, 1) := by decide +kernel
theorem dd_mm_pair_88 : decode prog_12_method_10_code 88 = .ok (.return_, 1) := by decide +kernel
set_option maxHeartbeats 4000000 in
set_option maxRecDepth 100000 in
theorem kb_mm_pair_b50 {p : Program} {l : Launch} {e : Env} {s : State} {m : MethodId} {args : Array Value} {below : List Frame} {meth : Method} {c : Code} {D : va_G} {ac : Nat → ClassId} {a0 : Nat} {gl : gl_T} {rF : Unit} {stF : st_S} {iT jT : Nat}
    (X : cx_ p s m args c prog_12_method_10_code 7 "PromiseVatsModel" tb_ D cl_ (ty_ ac)) (hKs : kn_ D ac a0 gl s) (hlk : meth.locks = false) (hret : meth.sig.returnType = (Option.none : Option FieldType)) (hnm : meth.name = "pai\x72") : wk_ p l e 0 0 s m args below meth c D cl_ ac a0 7 vb_u rF stF iT jT 50 (fun x : Option Nat × Int32 × Int32 × Int32 × Int32 × Int32 => [(0, (va_rf x.1)), (2, (.int x.2.1)), (3, (.int x.2.2.1)), (4, (.int x.2.2.2.1)), (5, (.int x.2.2.2.2.1))]) (fun x : Option Nat × Int32 × Int32 × Int32 × Int32 × Int32 => [(.int x.2.2.2.2.2)]) (fun x : Option Nat × Int32 × Int32 × Int32 × Int32 × Int32 => mm_pair_b50 gl x.1 x.2.1 x.2.2.1 x.2.2.2.1 x.2.2.2.2.1 x.2.2.2.2.2) := by
  intro x st H locs cells slots i j ls hw hl h hci hcj
  obtain ⟨p0, p2, p3, p4, p5, q0⟩ := x
  have h : mm_pair_b50 gl p0 p2 p3 p4 p5 q0 st = some (rF, stF, i, j) := h
  unfold mm_pair_b50 at h
  have hl : lh_ ls 7 [(0, (va_rf p0)), (2, (.int p2)), (3, (.int p3)), (4, (.int p4)), (5, (.int p5))] := hl
  refine W.eq (g2 := F0 m 50 ls [(.int q0)]) rfl ?_
  refine rr_ist (lv' := [(6, (.int q0)), (0, (va_rf p0)), (2, (.int p2)), (3, (.int p3)), (4, (.int p4)), (5, (.int p5))]) X dd_mm_pair_50 hl (by decide) rfl (fun ls hl => ?_)
  refine rr_aldn X dd_mm_pair_52 rfl (lv_at hl.1 1 rfl) ?_
  obtain ⟨t5, ht5, h⟩ := st_g_some h
  refine rr_getq X hw ff_10_17 ht5 tw_451 (Or.inl rfl) dd_mm_pair_53 ?_
  refine lv_iload X.1 X.2.1 dd_mm_pair_56 (lv_at hl.1 5 rfl) ?_
  refine rr_aldn X dd_mm_pair_58 rfl (lv_at hl.1 1 rfl) ?_
  obtain ⟨t6, ht6, h⟩ := st_g_some h
  refine rr_getq X hw ff_10_17 ht6 tw_451 (Or.inl rfl) dd_mm_pair_59 ?_
  refine lv_iload X.1 X.2.1 dd_mm_pair_62 (lv_at hl.1 5 rfl) ?_
  obtain ⟨t7, ht7, h⟩ := st_g_some h
  refine rr_iald (t := 0) X hw rfl ht7 dd_mm_pair_64 ?_
  refine lv_iload X.1 X.2.1 dd_mm_pair_65 (lv_at hl.1 4 rfl) ?_
  refine lv_iadd X.1 X.2.1 dd_mm_pair_67 ?_
  obtain ⟨t8, hp68, h⟩ := st_w_some h
  refine rr_iast (t := 0) X hw rfl hp68 dd_mm_pair_68 (fun H locs hw => ?_)
  refine lv_iload X.1 X.2.1 dd_mm_pair_69 (lv_at hl.1 0 rfl) ?_
  by_cases hc71 : q0 = 0
  · rw [if_pos hc71] at h
    refine lv_if_eq (tgt := 88) X.1 X.2.1 dd_mm_pair_71 (by decide) (fun _ => ?_) (fun z => absurd hc71 z)
    obtain ⟨rfl, rfl, rfl, rfl⟩ := st_r_some h
    exact rr_vret X hw hlk hret hci hcj dd_mm_pair_88
  · rw [if_neg hc71] at h
    refine lv_if_eq (tgt := 88) X.1 X.2.1 dd_mm_pair_71 (by decide) (fun z => absurd z hc71) (fun _ => ?_)
    refine rr_aldn X dd_mm_pair_74 rfl (lv_at hl.1 1 rfl) ?_
    obtain ⟨t9, ht9, h⟩ := st_g_some h
    refine rr_getq X hw ff_10_15 ht9 tw_453 (Or.inl rfl) dd_mm_pair_75 ?_
    refine lv_iconst (v := (4 : Int32)) X.1 X.2.1 dd_mm_pair_78 (by decide) ?_
    refine lv_iload_n X.1 X.2.1 dd_mm_pair_79 rfl (lv_at hl.1 3 rfl) ?_
    refine lv_imul X.1 X.2.1 dd_mm_pair_80 ?_
    refine lv_iload_n X.1 X.2.1 dd_mm_pair_81 rfl (lv_at hl.1 2 rfl) ?_
    refine lv_iadd X.1 X.2.1 dd_mm_pair_82 ?_
    refine lv_dup2_11 X.1 X.2.1 dd_mm_pair_83 rfl (rf_cat _) ?_
    obtain ⟨t10, ht10, h⟩ := st_g_some h
    refine rr_iald (t := 0) X hw rfl ht10 dd_mm_pair_84 ?_
    refine lv_iconst (v := (1 : Int32)) X.1 X.2.1 dd_mm_pair_85 (by decide) ?_
    refine lv_iadd X.1 X.2.1 dd_mm_pair_86 ?_
    obtain ⟨t11, hp87, h⟩ := st_w_some h
    refine rr_iast (t := 0) X hw rfl hp87 dd_mm_pair_87 (fun H locs hw => ?_)
    obtain ⟨rfl, rfl, rfl, rfl⟩ := st_r_some h
    exact rr_vret X hw hlk hret hci hcj dd_mm_pair_88
set_option maxHeartbeats 4000000 in
set_option maxRecDepth 100000 in
theorem kc_mm_pair (l : Launch) (D : va_G) (ac : Nat → ClassId) (a0 : Nat) (gl : gl_T) (v0 : Option Nat) (v1 : Int32) (v2 : Int32) (v3 : Int32) (v4 : Int32) (st : st_S) (rF : Unit) (stF : st_S) (iT jT : Nat) (h : mm_pair gl v0 v1 v2 v3 v4 st = some (rF, stF, iT, jT)) :
    ct_ l ⟨"PromiseVatsModel", "pai\x72", "(IIII)V"⟩ (Cond.code ⟨"PromiseVatsModel", "pai\x72", "(IIII)V"⟩ prog_12_method_10_code 7 (Option.none : Option FieldType) :: tb_) 0 0 D cl_ ac a0 (kn_ D ac a0 gl) [(va_rf v0), (.int v1), (.int v2), (.int v3), (.int v4)] st (vb_u rF) stF iT jT := by
  refine ct_of (kn_ok D ac a0 gl) (plainFor_of_name (by decide +kernel)) (by simp [rf_cat, ic_cat]) (by simp) ?_
  intro p e s m args below meth c ls X hw hKs hlk hret hnm hl
  unfold mm_pair at h
  have hl : lh_ ls 7 [(0, (va_rf v0)), (1, (.int v1)), (2, (.int v2)), (3, (.int v3)), (4, (.int v4))] := hl
  obtain ⟨z0, hz0⟩ : ∃ z : Nat, 0 = z := ⟨0, rfl⟩
  obtain ⟨z1, hz1⟩ : ∃ z : Nat, 0 = z := ⟨0, rfl⟩
  refine W.cs hz0 hz1 ?_
  have hci : z0 + iT = iT := by omega
  have hcj : z1 + jT = jT := by omega
  refine lv_bipush (v := (16 : Int32)) X.1 X.2.1 dd_mm_pair_0 (by decide) ?_
  refine lv_iload_n X.1 X.2.1 dd_mm_pair_2 rfl (lv_at hl.1 3 rfl) ?_
  refine lv_imul X.1 X.2.1 dd_mm_pair_3 ?_
  refine lv_iconst (v := (4 : Int32)) X.1 X.2.1 dd_mm_pair_4 (by decide) ?_
  refine lv_iload_n X.1 X.2.1 dd_mm_pair_5 rfl (lv_at hl.1 1 rfl) ?_
  refine lv_imul X.1 X.2.1 dd_mm_pair_6 ?_
  refine lv_iadd X.1 X.2.1 dd_mm_pair_7 ?_
  refine lv_iload_n X.1 X.2.1 dd_mm_pair_8 rfl (lv_at hl.1 2 rfl) ?_
  refine lv_iadd X.1 X.2.1 dd_mm_pair_9 ?_
  refine rr_ist (lv' := [(5, (.int ((((16 : Int32) * v3) + ((4 : Int32) * v1)) + v2))), (0, (va_rf v0)), (1, (.int v1)), (2, (.int v2)), (3, (.int v3)), (4, (.int v4))]) X dd_mm_pair_10 hl (by decide) rfl (fun ls hl => ?_)
  refine lv_iload X.1 X.2.1 dd_mm_pair_12 (lv_at hl.1 5 rfl) ?_
  by_cases hc14 : v4 ≤ 0
  · rw [if_pos hc14] at h
    refine lv_if_le (tgt := 35) X.1 X.2.1 dd_mm_pair_14 (by decide) (fun _ => ?_) (fun z => absurd hc14 z)
    refine rr_aldn X dd_mm_pair_35 rfl (lv_at hl.1 1 rfl) ?_
    obtain ⟨t1, ht1, h⟩ := st_g_some h
    refine rr_getq X hw ff_10_17 ht1 tw_451 (Or.inl rfl) dd_mm_pair_36 ?_
    refine lv_iload X.1 X.2.1 dd_mm_pair_39 (lv_at hl.1 0 rfl) ?_
    obtain ⟨t2, ht2, h⟩ := st_g_some h
    refine rr_iald (t := 0) X hw rfl ht2 dd_mm_pair_41 ?_
    by_cases hc42 : t2 ≤ 0
    · rw [if_pos hc42] at h
      refine lv_if_le (tgt := 49) X.1 X.2.1 dd_mm_pair_42 (by decide) (fun _ => ?_) (fun z => absurd hc42 z)
      refine lv_iconst (v := (0 : Int32)) X.1 X.2.1 dd_mm_pair_49 (by decide) ?_
      exact (kb_mm_pair_b50 X hKs hlk hret hnm) (v0, v2, v3, v4, ((((16 : Int32) * v3) + ((4 : Int32) * v1)) + v2), (0 : Int32)) _ _ _ _ _ _ _ _ hw (lh_pk hl [1, 3, 4, 5, 0] rfl) h hci hcj
    · rw [if_neg hc42] at h
      refine lv_if_le (tgt := 49) X.1 X.2.1 dd_mm_pair_42 (by decide) (fun z => absurd z hc42) (fun _ => ?_)
      refine lv_iconst (v := (1 : Int32)) X.1 X.2.1 dd_mm_pair_45 (by decide) ?_
      refine lv_goto (tgt := 50) X.1 X.2.1 dd_mm_pair_46 (by decide) ?_
      exact (kb_mm_pair_b50 X hKs hlk hret hnm) (v0, v2, v3, v4, ((((16 : Int32) * v3) + ((4 : Int32) * v1)) + v2), (1 : Int32)) _ _ _ _ _ _ _ _ hw (lh_pk hl [1, 3, 4, 5, 0] rfl) h hci hcj
  · rw [if_neg hc14] at h
    refine lv_if_le (tgt := 35) X.1 X.2.1 dd_mm_pair_14 (by decide) (fun z => absurd z hc14) (fun _ => ?_)
    refine rr_aldn X dd_mm_pair_17 rfl (lv_at hl.1 1 rfl) ?_
    obtain ⟨t3, ht3, h⟩ := st_g_some h
    refine rr_getq X hw ff_10_17 ht3 tw_451 (Or.inl rfl) dd_mm_pair_18 ?_
    refine lv_iload X.1 X.2.1 dd_mm_pair_21 (lv_at hl.1 0 rfl) ?_
    obtain ⟨t4, ht4, h⟩ := st_g_some h
    refine rr_iald (t := 0) X hw rfl ht4 dd_mm_pair_23 ?_
    by_cases hc24 : 0 ≤ t4
    · rw [if_pos hc24] at h
      refine lv_if_ge (tgt := 31) X.1 X.2.1 dd_mm_pair_24 (by decide) (fun _ => ?_) (fun z => absurd hc24 z)
      refine lv_iconst (v := (0 : Int32)) X.1 X.2.1 dd_mm_pair_31 (by decide) ?_
      refine lv_goto (tgt := 50) X.1 X.2.1 dd_mm_pair_32 (by decide) ?_
      exact (kb_mm_pair_b50 X hKs hlk hret hnm) (v0, v2, v3, v4, ((((16 : Int32) * v3) + ((4 : Int32) * v1)) + v2), (0 : Int32)) _ _ _ _ _ _ _ _ hw (lh_pk hl [1, 3, 4, 5, 0] rfl) h hci hcj
    · rw [if_neg hc24] at h
      refine lv_if_ge (tgt := 31) X.1 X.2.1 dd_mm_pair_24 (by decide) (fun z => absurd z hc24) (fun _ => ?_)
      refine lv_iconst (v := (1 : Int32)) X.1 X.2.1 dd_mm_pair_27 (by decide) ?_
      refine lv_goto (tgt := 50) X.1 X.2.1 dd_mm_pair_28 (by decide) ?_
      exact (kb_mm_pair_b50 X hKs hlk hret hnm) (v0, v2, v3, v4, ((((16 : Int32) * v3) + ((4 : Int32) * v1)) + v2), (1 : Int32)) _ _ _ _ _ _ _ _ hw (lh_pk hl [1, 3, 4, 5, 0] rfl) h hci hcj
/-! PromiseVatsModel.mourn(I)V -/
theorem dd_mm_mourn_0 : decode prog_12_method_20_code 0 = .ok (.iconst 0, 1) := by decide +kernel
theorem dd_mm_mourn_1 : decode prog_12_method_20_code 1 = .ok (.istore_n 2, 1) := by decide +kernel
theorem dd_mm_mourn_2 : decode prog_12_method_20_code 2 = .ok (.iload_n 2, 1) := by decide +kernel
theorem dd_mm_mourn_3 : decode prog_12_method_20_code 3 = .ok (.aload_n 0, 1) := by decide +kernel
theorem dd_mm_mourn_4 : decode prog_12_method_20_code 4 = .ok (.getfield 154, 3) := by decide +kernel
theorem dd_mm_mourn_7 : decode prog_12_method_20_code 7 = .ok (.if_icmp .ge 21, 3) := by decide +kernel
theorem dd_mm_mourn_10 : decode prog_12_method_20_code 10 = .ok (.aload_n 0, 1) := by decide +kernel
theorem dd_mm_mourn_11 : decode prog_12_method_20_code 11 = .ok (.iload_n 1, 1) := by decide +kernel
theorem dd_mm_mourn_12 : decode prog_12_method_20_code 12 = .ok (.aload_n 0, 1) := by decide +kernel
theorem dd_mm_mourn_13 : decode prog_12_method_20_code 13 = .ok (.getfield 85, 3) := by decide +kernel
theorem dd_mm_mourn_16 : decode prog_12_method_20_code 16 = .ok (.iload_n 2, 1) := by decide +kernel
theorem dd_mm_mourn_17 : decode prog_12_method_20_code 17 = .ok (.iaload, 1) := by decide +kernel
theorem dd_mm_mourn_18 : decode prog_12_method_20_code 18 = .ok (.iconst 0, 1) := by decide +kernel
theorem dd_mm_mourn_19 : decode prog_12_method_20_code 19 = .ok (.invokevirtual 134, 3) := by decide +kernel
theorem dd_mm_mourn_22 : decode prog_12_method_20_code 22 = .ok (.iinc 2 1, 3) := by decide +kernel
theorem dd_mm_mourn_25 : decode prog_12_method_20_code 25 = .ok (.goto (-23), 3) := by decide +kernel
theorem dd_mm_mourn_28 : decode prog_12_method_20_code 28 = .ok (.aload_n 0, 1) := by decide +kernel
theorem dd_mm_mourn_29 : decode prog_12_method_20_code 29 = .ok (.iconst 0, 1) := by decide +kernel
theorem dd_mm_mourn_30 : decode prog_12_method_20_code 30 = .ok (.putfield 154, 3) := by decide +kernel
theorem dd_mm_mourn_33 : decode prog_12_method_20_code 33 = .ok (.return_, 1) := by decide +kernel
set_option maxHeartbeats 4000000 in
set_option maxRecDepth 100000 in
theorem kb_mm_mourn_b2 {p : Program} {l : Launch} {e : Env} {s : State} {m : MethodId} {args : Array Value} {below : List Frame} {meth : Method} {c : Code} {D : va_G} {ac : Nat → ClassId} {a0 : Nat} {gl : gl_T} {rF : Unit} {stF : st_S} {iT jT : Nat}
    (X : cx_ p s m args c prog_12_method_20_code 3 "PromiseVatsModel" tb_ D cl_ (ty_ ac)) (hKs : kn_ D ac a0 gl s) (hlk : meth.locks = false) (hret : meth.sig.returnType = (Option.none : Option FieldType)) (hnm : meth.name = "mourn") : wk_ p l e 4 105 s m args below meth c D cl_ ac a0 3 vb_u rF stF iT jT 2 (fun x : Option Nat × Int32 × Int32 => [(0, (va_rf x.1)), (1, (.int x.2.1)), (2, (.int x.2.2))]) (fun x : Option Nat × Int32 × Int32 => []) (st_it (fun rec2 => (fun x : Option Nat × Int32 × Int32 => mm_mourn_b2 gl rec2 x.1 x.2.1 x.2.2)) fu_) := by
  refine wk_it ?_ _
  intro rec2 hr2 x st H locs cells slots i j ls hw hl h hci hcj
  obtain ⟨p0, p1, p2⟩ := x
  have h : mm_mourn_b2 gl rec2 p0 p1 p2 st = some (rF, stF, i, j) := h
  unfold mm_mourn_b2 at h
  have hl : lh_ ls 3 [(0, (va_rf p0)), (1, (.int p1)), (2, (.int p2))] := hl
  refine W.eq (g2 := F0 m 2 ls []) rfl ?_
  refine lv_iload_n X.1 X.2.1 dd_mm_mourn_2 rfl (lv_at hl.1 2 rfl) ?_
  refine rr_aldn X dd_mm_mourn_3 rfl (lv_at hl.1 0 rfl) ?_
  obtain ⟨t1, ht1, h⟩ := st_g_some h
  refine rr_geti X hw ff_10_30 ht1 tw_491 (Or.inl rfl) dd_mm_mourn_4 ?_
  by_cases hc7 : t1 ≤ p2
  · rw [if_pos hc7] at h
    refine lv_icmp_ge (tgt := 28) X.1 X.2.1 dd_mm_mourn_7 (by decide) (fun _ => ?_) (fun z => absurd hc7 z)
    refine rr_aldn X dd_mm_mourn_28 rfl (lv_at hl.1 0 rfl) ?_
    refine lv_iconst (v := (0 : Int32)) X.1 X.2.1 dd_mm_mourn_29 (by decide) ?_
    obtain ⟨t2, hp30, h⟩ := st_w_some h
    refine rr_put (ty := .int) X hw ff_10_30 hp30 tw_491 (Or.inl rfl) (by decide +kernel) rfl rfl dd_mm_mourn_30 (fun H locs hw => ?_)
    obtain ⟨rfl, rfl, rfl, rfl⟩ := st_r_some h
    exact rr_vret X hw hlk hret hci hcj dd_mm_mourn_33
  · rw [if_neg hc7] at h
    refine lv_icmp_ge (tgt := 28) X.1 X.2.1 dd_mm_mourn_7 (by decide) (fun z => absurd z hc7) (fun _ => ?_)
    refine rr_aldn X dd_mm_mourn_10 rfl (lv_at hl.1 0 rfl) ?_
    refine lv_iload_n X.1 X.2.1 dd_mm_mourn_11 rfl (lv_at hl.1 1 rfl) ?_
    refine rr_aldn X dd_mm_mourn_12 rfl (lv_at hl.1 0 rfl) ?_
    obtain ⟨t3, ht3, h⟩ := st_g_some h
    refine rr_getq X hw ff_10_31 ht3 tw_440 (Or.inl rfl) dd_mm_mourn_13 ?_
    refine lv_iload_n X.1 X.2.1 dd_mm_mourn_16 rfl (lv_at hl.1 2 rfl) ?_
    obtain ⟨t4, ht4, h⟩ := st_g_some h
    refine rr_iald (t := 0) X hw rfl ht4 dd_mm_mourn_17 ?_
    refine lv_iconst (v := (0 : Int32)) X.1 X.2.1 dd_mm_mourn_18 (by decide) ?_
    obtain ⟨t13, ht13, h⟩ := st_g_some h
    obtain ⟨t5, t6, t7, t8, t9, t10, ht5, h, ei, ej⟩ := st_b_some h
    refine rr_callV (n := 3) (As := [(.int p1), (.int t4), (.int (0 : Int32))]) (rest := []) X hw (kn_ok D ac a0 gl) hKs (kc_mm_settle l D ac a0 gl p0 p1 t4 (0 : Int32) _ _ _ _ _ ht5) tb_good tw_500 tw_469 tw_501 tw_502 se_50 ht13 (by decide +kernel) rfl (show 3 + 1 ≤ _ ∧ 8 + (9 + 11) + 77 ≤ _ from ⟨Nat.le_of_ble_eq_true rfl, Nat.le_of_ble_eq_true rfl⟩) (show cells + t7 ≤ iT ∧ slots + t8 ≤ jT from ⟨ar_1 hci ei, ar_1 hcj ej⟩) hl.1.1 (by simp [rf_cat, ic_cat]) rfl dd_mm_mourn_19 (sk := []) rfl (fun H locs hw => ?_)
    have hci : cells + t7 + t9 = iT := ar_2 hci ei
    have hcj : slots + t8 + t10 = jT := ar_2 hcj ej
    clear ei ej
    generalize cells + t7 = t11 at hci ⊢
    generalize slots + t8 = t12 at hcj ⊢
    refine rr_iinc (k := 2) (v := (p2 + (1 : Int32))) (lv' := [(2, (.int (p2 + (1 : Int32)))), (0, (va_rf p0)), (1, (.int p1))]) X dd_mm_mourn_22 hl rfl (by rw [show Int32.ofInt (1) = (1 : Int32) from by decide]) (by decide) rfl (fun ls hl => ?_)
    refine lv_goto (tgt := 2) X.1 X.2.1 dd_mm_mourn_25 (by decide) ?_
    exact hr2 (p0, p1, (p2 + (1 : Int32))) _ _ _ _ _ _ _ _ hw (lh_pk hl [1, 2, 0] rfl) h hci hcj
set_option maxHeartbeats 4000000 in
set_option maxRecDepth 100000 in
theorem kc_mm_mourn (l : Launch) (D : va_G) (ac : Nat → ClassId) (a0 : Nat) (gl : gl_T) (v0 : Option Nat) (v1 : Int32) (st : st_S) (rF : Unit) (stF : st_S) (iT jT : Nat) (h : mm_mourn gl v0 v1 st = some (rF, stF, iT, jT)) :
    ct_ l ⟨"PromiseVatsModel", "mourn", "(I)V"⟩ (Cond.code ⟨"PromiseVatsModel", "mourn", "(I)V"⟩ prog_12_method_20_code 3 (Option.none : Option FieldType) :: tb_) 4 105 D cl_ ac a0 (kn_ D ac a0 gl) [(va_rf v0), (.int v1)] st (vb_u rF) stF iT jT := by
  refine ct_of (kn_ok D ac a0 gl) (plainFor_of_name (by decide +kernel)) (by simp [rf_cat, ic_cat]) (by simp) ?_
  intro p e s m args below meth c ls X hw hKs hlk hret hnm hl
  unfold mm_mourn at h
  have hl : lh_ ls 3 [(0, (va_rf v0)), (1, (.int v1))] := hl
  obtain ⟨z0, hz0⟩ : ∃ z : Nat, 0 = z := ⟨0, rfl⟩
  obtain ⟨z1, hz1⟩ : ∃ z : Nat, 0 = z := ⟨0, rfl⟩
  refine W.cs hz0 hz1 ?_
  have hci : z0 + iT = iT := by omega
  have hcj : z1 + jT = jT := by omega
  refine lv_iconst (v := (0 : Int32)) X.1 X.2.1 dd_mm_mourn_0 (by decide) ?_
  refine rr_istn (lv' := [(2, (.int (0 : Int32))), (0, (va_rf v0)), (1, (.int v1))]) X dd_mm_mourn_1 rfl hl (by decide) rfl (fun ls hl => ?_)
  exact (kb_mm_mourn_b2 X hKs hlk hret hnm) (v0, v1, (0 : Int32)) _ _ _ _ _ _ _ _ hw (lh_pk hl [1, 2, 0] rfl) h hci hcj
