/-! jdk/internal/util/ArraysSupport.newLength(III)I -/
theorem dd_as_newLength_0 : decode prog_27_method_27_code 0 = .ok (.iload_n 0, 1) := by decide +kernel
theorem dd_as_newLength_1 : decode prog_27_method_27_code 1 = .ok (.iload_n 1, 1) := by decide +kernel
theorem dd_as_newLength_2 : decode prog_27_method_27_code 2 = .ok (.iload_n 2, 1) := by decide +kernel
theorem dd_as_newLength_3 : decode prog_27_method_27_code 3 = .ok (.invokestatic 194, 3) := by decide +kernel
theorem dd_as_newLength_6 : decode prog_27_method_27_code 6 = .ok (.iadd, 1) := by decide +kernel
theorem dd_as_newLength_7 : decode prog_27_method_27_code 7 = .ok (.istore_n 3, 1) := by decide +kernel
theorem dd_as_newLength_8 : decode prog_27_method_27_code 8 = .ok (.iconst 0, 1) := by decide +kernel
theorem dd_as_newLength_9 : decode prog_27_method_27_code 9 = .ok (.iload_n 3, 1) := by decide +kernel
theorem dd_as_newLength_10 : decode prog_27_method_27_code 10 = .ok (.if_icmp .ge 11, 3) := by decide +kernel
theorem dd_as_newLength_13 : decode prog_27_method_27_code 13 = .ok (.iload_n 3, 1) := by decide +kernel
theorem dd_as_newLength_14 : decode prog_27_method_27_code 14 = .ok (.ldc 200, 2) := by decide +kernel
theorem dd_as_newLength_16 : decode prog_27_method_27_code 16 = .ok (.if_icmp .gt 5, 3) := by decide +kernel
theorem dd_as_newLength_19 : decode prog_27_method_27_code 19 = .ok (.iload_n 3, 1) := by decide +kernel
theorem dd_as_newLength_20 : decode prog_27_method_27_code 20 = .ok (.ireturn, 1) := by decide +kernel
theorem dd_as_newLength_21 : decode prog_27_method_27_code 21 = .ok (.iload_n 0, 1) := by decide +kernel
theorem dd_as_newLength_22 : decode prog_27_method_27_code 22 = .ok (.iload_n 1, 1) := by decide +kernel
theorem dd_as_newLength_23 : decode prog_27_method_27_code 23 = .ok (.invokestatic 201, 3) := by decide +kernel
theorem dd_as_newLength_26 : decode prog_27_method_27_code 26 = .ok (.ireturn, 1) := by decide +kernel
set_option maxHeartbeats 4000000 in
set_option maxRecDepth 100000 in
theorem kb_as_newLength_b21 {p : Program} {l : Launch} {e : Env} {s : State} {m : MethodId} {args : Array Value} {below : List Frame} {meth : Method} {c : Code} {D : va_G} {ac : Nat → ClassId} {a0 : Nat} {gl : gl_T} {rF : Int32} {stF : st_S} {iT jT : Nat}
    (X : cx_ p s m args c prog_27_method_27_code 4 "jdk/internal/util/ArraysSupport" tb_ D cl_ (ty_ ac)) (hKs : kn_ D ac a0 gl s) (hlk : meth.locks = false) (hret : meth.sig.returnType = (Option.some FieldType.int)) (hnm : meth.name = "newLength") : wk_ p l e 1 22 s m args below meth c D cl_ ac a0 4 vb_i rF stF iT jT 21 (fun x : Int32 × Int32 => [(0, (.int x.1)), (1, (.int x.2))]) (fun x : Int32 × Int32 => []) (fun x : Int32 × Int32 => as_newLength_b21 gl x.1 x.2) := by
  intro x st H locs cells slots i j ls hw hl h hci hcj
  obtain ⟨p0, p1⟩ := x
  have h : as_newLength_b21 gl p0 p1 st = some (rF, stF, i, j) := h
  unfold as_newLength_b21 at h
  have hl : lh_ ls 4 [(0, (.int p0)), (1, (.int p1))] := hl
  refine W.eq (g2 := F0 m 21 ls []) rfl ?_
  refine lv_iload_n X.1 X.2.1 dd_as_newLength_21 rfl (lv_at hl.1 0 rfl) ?_
  refine lv_iload_n X.1 X.2.1 dd_as_newLength_22 rfl (lv_at hl.1 1 rfl) ?_
  obtain ⟨t9, t10, t11, t12, t13, t14, ht9, h, ei, ej⟩ := st_b_some h
  refine rr_callS (n := 2) (As := [(.int p0), (.int p1)]) (rest := []) X hw (kn_ok D ac a0 gl) hKs (kc_as_hugeLength l D ac a0 gl p0 p1 _ _ _ _ _ ht9) tb_good tw_125 tw_124 tw_126 tw_127 (by decide +kernel) rfl (show 0 + 1 ≤ _ ∧ 8 + (3 + 11) + 0 ≤ _ from ⟨Nat.le_of_ble_eq_true rfl, Nat.le_of_ble_eq_true rfl⟩) (show cells + t11 ≤ iT ∧ slots + t12 ≤ jT from ⟨ar_1 hci ei, ar_1 hcj ej⟩) hl.1.1 (by simp [rf_cat, ic_cat]) rfl dd_as_newLength_23 (sk := [(.int t9)]) rfl (fun H locs hw => ?_)
  have hci : cells + t11 + t13 = iT := ar_2 hci ei
  have hcj : slots + t12 + t14 = jT := ar_2 hcj ej
  clear ei ej
  generalize cells + t11 = t15 at hci ⊢
  generalize slots + t12 = t16 at hcj ⊢
  obtain ⟨rfl, rfl, rfl, rfl⟩ := st_r_some h
  exact rr_iret X hw hlk hret rfl hci hcj dd_as_newLength_26
set_option maxHeartbeats 4000000 in
set_option maxRecDepth 100000 in
theorem kc_as_newLength (l : Launch) (D : va_G) (ac : Nat → ClassId) (a0 : Nat) (gl : gl_T) (v0 : Int32) (v1 : Int32) (v2 : Int32) (st : st_S) (rF : Int32) (stF : st_S) (iT jT : Nat) (h : as_newLength gl v0 v1 v2 st = some (rF, stF, iT, jT)) :
    ct_ l ⟨"jdk/internal/util/ArraysSupport", "newLength", "(III)I"⟩ (Cond.code ⟨"jdk/internal/util/ArraysSupport", "newLength", "(III)I"⟩ prog_27_method_27_code 4 (Option.some FieldType.int) :: tb_) 1 22 D cl_ ac a0 (kn_ D ac a0 gl) [(.int v0), (.int v1), (.int v2)] st (vb_i rF) stF iT jT := by
  refine ct_of (kn_ok D ac a0 gl) (by decide +kernel) (by simp [rf_cat, ic_cat]) (by simp) ?_
  intro p e s m args below meth c ls X hw hKs hlk hret hnm hl
  unfold as_newLength at h
  have hl : lh_ ls 4 [(0, (.int v0)), (1, (.int v1)), (2, (.int v2))] := hl
  obtain ⟨z0, hz0⟩ : ∃ z : Nat, 0 = z := ⟨0, rfl⟩
  obtain ⟨z1, hz1⟩ : ∃ z : Nat, 0 = z := ⟨0, rfl⟩
  refine W.cs hz0 hz1 ?_
  have hci : z0 + iT = iT := by omega
  have hcj : z1 + jT = jT := by omega
  refine lv_iload_n X.1 X.2.1 dd_as_newLength_0 rfl (lv_at hl.1 0 rfl) ?_
  refine lv_iload_n X.1 X.2.1 dd_as_newLength_1 rfl (lv_at hl.1 1 rfl) ?_
  refine lv_iload_n X.1 X.2.1 dd_as_newLength_2 rfl (lv_at hl.1 2 rfl) ?_
  obtain ⟨t1, t2, t3, t4, t5, t6, ht1, h, ei, ej⟩ := st_b_some h
  refine rr_callS (n := 2) (As := [(.int v1), (.int v2)]) (rest := [(.int v0)]) X hw (kn_ok D ac a0 gl) hKs (kc_ma_max l D ac a0 gl v1 v2 _ _ _ _ _ ht1) tb_good tw_68 tw_67 tw_123 tw_70 (by decide +kernel) rfl (show 0 + 1 ≤ _ ∧ 8 + (2 + 11) + 0 ≤ _ from ⟨Nat.le_of_ble_eq_true rfl, Nat.le_of_ble_eq_true rfl⟩) (show z0 + t3 ≤ iT ∧ z1 + t4 ≤ jT from ⟨ar_1 hci ei, ar_1 hcj ej⟩) hl.1.1 (by simp [rf_cat, ic_cat]) rfl dd_as_newLength_3 (sk := [(.int t1), (.int v0)]) rfl (fun H locs hw => ?_)
  have hci : z0 + t3 + t5 = iT := ar_2 hci ei
  have hcj : z1 + t4 + t6 = jT := ar_2 hcj ej
  clear ei ej
  generalize z0 + t3 = t7 at hci ⊢
  generalize z1 + t4 = t8 at hcj ⊢
  refine lv_iadd X.1 X.2.1 dd_as_newLength_6 ?_
  refine rr_istn (lv' := [(3, (.int (v0 + t1))), (0, (.int v0)), (1, (.int v1)), (2, (.int v2))]) X dd_as_newLength_7 rfl hl (by decide) rfl (fun ls hl => ?_)
  refine lv_iconst (v := (0 : Int32)) X.1 X.2.1 dd_as_newLength_8 (by decide) ?_
  refine lv_iload_n X.1 X.2.1 dd_as_newLength_9 rfl (lv_at hl.1 0 rfl) ?_
  by_cases hc10 : (v0 + t1) ≤ (0 : Int32)
  · rw [if_pos hc10] at h
    refine lv_icmp_ge (tgt := 21) X.1 X.2.1 dd_as_newLength_10 (by decide) (fun _ => ?_) (fun z => absurd hc10 z)
    exact (kb_as_newLength_b21 X hKs hlk hret hnm) (v0, v1) _ _ _ _ _ _ _ _ hw (lh_pk hl [1, 2] rfl) h hci hcj
  · rw [if_neg hc10] at h
    refine lv_icmp_ge (tgt := 21) X.1 X.2.1 dd_as_newLength_10 (by decide) (fun z => absurd z hc10) (fun _ => ?_)
    refine lv_iload_n X.1 X.2.1 dd_as_newLength_13 rfl (lv_at hl.1 0 rfl) ?_
    refine lv_ldc X.1 X.2.1 X.2.2.2.1 (X.2.2.2.2.1 _ tw_122) dd_as_newLength_14 ?_
    by_cases hc16 : (2147483639 : Int32) < (v0 + t1)
    · rw [if_pos hc16] at h
      refine lv_icmp_gt (tgt := 21) X.1 X.2.1 dd_as_newLength_16 (by decide) (fun _ => ?_) (fun z => absurd hc16 z)
      exact (kb_as_newLength_b21 X hKs hlk hret hnm) (v0, v1) _ _ _ _ _ _ _ _ hw (lh_pk hl [1, 2] rfl) h hci hcj
    · rw [if_neg hc16] at h
      refine lv_icmp_gt (tgt := 21) X.1 X.2.1 dd_as_newLength_16 (by decide) (fun z => absurd z hc16) (fun _ => ?_)
      refine lv_iload_n X.1 X.2.1 dd_as_newLength_19 rfl (lv_at hl.1 0 rfl) ?_
      obtain ⟨rfl, rfl, rfl, rfl⟩ := st_r_some h
      exact rr_iret X hw hlk hret rfl hci hcj dd_as_newLength_20
/-! java/util/Arrays.copyOf([Ljava/lang/Object;ILjava/lang/Class;)[Ljava/lang/Object; -/
theorem dd_ar_copyOf3_0 : decode prog_21_method_120_code 0 = .ok (.aload_n 2, 1) := by decide +kernel
theorem dd_ar_copyOf3_1 : decode prog_21_method_120_code 1 = .ok (.ldc 110, 2) := by decide +kernel
theorem dd_ar_copyOf3_3 : decode prog_21_method_120_code 3 = .ok (.if_acmp .ne 10, 3) := by decide +kernel
theorem dd_ar_copyOf3_6 : decode prog_21_method_120_code 6 = .ok (.iload_n 1, 1) := by decide +kernel
theorem dd_ar_copyOf3_7 : decode prog_21_method_120_code 7 = .ok (.anewarray 2, 3) := by decide +kernel
theorem dd_ar_copyOf3_10 : decode prog_21_method_120_code 10 = .ok (.goto 14, 3) := by decide +kernel
theorem dd_ar_copyOf3_13 : decode prog_21_method_120_code 13 = .ok (.aload_n 2, 1) := by decide +kernel
theorem dd_ar_copyOf3_24 : decode prog_21_method_120_code 24 = .ok (.astore_n 3, 1) := by decide +kernel
theorem dd_ar_copyOf3_25 : decode prog_21_method_120_code 25 = .ok (.aload_n 0, 1) := by decide +kernel
theorem dd_ar_copyOf3_26 : decode prog_21_method_120_code 26 = .ok (.iconst 0, 1) := by decide +kernel
theorem dd_ar_copyOf3_27 : decode prog_21_method_120_code 27 = .ok (.aload_n 3, 1) := by decide +kernel
theorem dd_ar_copyOf3_28 : decode prog_21_method_120_code 28 = .ok (.iconst 0, 1) := by decide +kernel
theorem dd_ar_copyOf3_29 : decode prog_21_method_120_code 29 = .ok (.aload_n 0, 1) := by decide +kernel
theorem dd_ar_copyOf3_30 : decode prog_21_method_120_code 30 = .ok (.arraylength, 1) := by decide +kernel
theorem dd_ar_copyOf3_31 : decode prog_21_method_120_code 31 = .ok (.iload_n 1, 1) := by decide +kernel
theorem dd_ar_copyOf3_32 : decode prog_21_method_120_code 32 = .ok (.invokestatic 304, 3) := by decide +kernel
theorem dd_ar_copyOf3_35 : decode prog_21_method_120_code 35 = .ok (.invokestatic 150, 3) := by decide +kernel
theorem dd_ar_copyOf3_38 : decode prog_21_method_120_code 38 = .ok (.aload_n 3, 1) := by decide +kernel
theorem dd_ar_copyOf3_39 : decode prog_21_method_120_code 39 = .ok (.areturn, 1) := by decide +kernel
set_option maxHeartbeats 4000000 in
set_option maxRecDepth 100000 in
theorem kb_ar_copyOf3_b24 {p : Program} {l : Launch} {e : Env} {s : State} {m : MethodId} {args : Array Value} {below : List Frame} {meth : Method} {c : Code} {D : va_G} {ac : Nat → ClassId} {a0 : Nat} {gl : gl_T} {rF : Option Nat} {stF : st_S} {iT jT : Nat}
    (X : cx_ p s m args c prog_21_method_120_code 4 "java/util/Arrays" tb_ D cl_ (ty_ ac)) (hKs : kn_ D ac a0 gl s) (hlk : meth.locks = false) (hret : meth.sig.returnType = (Option.some (FieldType.array (FieldType.object "java/lang/Object")))) (hnm : meth.name = "copyOf") : wk_ p l e 1 60 s m args below meth c D cl_ ac a0 4 vb_q rF stF iT jT 24 (fun x : Option Nat × Int32 × Option Nat => [(0, (va_rf x.1)), (1, (.int x.2.1))]) (fun x : Option Nat × Int32 × Option Nat => [(va_rf x.2.2)]) (fun x : Option Nat × Int32 × Option Nat => ar_copyOf3_b24 gl x.1 x.2.1 x.2.2) := by
  intro x st H locs cells slots i j ls hw hl h hci hcj
  obtain ⟨p0, p1, q0⟩ := x
  have h : ar_copyOf3_b24 gl p0 p1 q0 st = some (rF, stF, i, j) := h
  unfold ar_copyOf3_b24 at h
  have hl : lh_ ls 4 [(0, (va_rf p0)), (1, (.int p1))] := hl
  refine W.eq (g2 := F0 m 24 ls [(va_rf q0)]) rfl ?_
  refine rr_astn (lv' := [(3, (va_rf q0)), (0, (va_rf p0)), (1, (.int p1))]) X dd_ar_copyOf3_24 rfl hl (by decide) rfl (fun ls hl => ?_)
  refine rr_aldn X dd_ar_copyOf3_25 rfl (lv_at hl.1 1 rfl) ?_
  refine lv_iconst (v := (0 : Int32)) X.1 X.2.1 dd_ar_copyOf3_26 (by decide) ?_
  refine rr_aldn X dd_ar_copyOf3_27 rfl (lv_at hl.1 0 rfl) ?_
  refine lv_iconst (v := (0 : Int32)) X.1 X.2.1 dd_ar_copyOf3_28 (by decide) ?_
  refine rr_aldn X dd_ar_copyOf3_29 rfl (lv_at hl.1 1 rfl) ?_
  obtain ⟨t7, ht7, h⟩ := st_g_some h
  refine rr_alne X hKs hw (tl_9 ac) ht7 dd_ar_copyOf3_30 ?_
  refine lv_iload_n X.1 X.2.1 dd_ar_copyOf3_31 rfl (lv_at hl.1 2 rfl) ?_
  obtain ⟨t8, t9, t10, t11, t12, t13, ht8, h, ei, ej⟩ := st_b_some h
  refine rr_callS (n := 2) (As := [(.int t7), (.int p1)]) (rest := [(.int (0 : Int32)), (va_rf q0), (.int (0 : Int32)), (va_rf p0)]) X hw (kn_ok D ac a0 gl) hKs (kc_ma_min l D ac a0 gl t7 p1 _ _ _ _ _ ht8) tb_good tw_71 tw_67 tw_134 tw_73 (by decide +kernel) rfl (show 0 + 1 ≤ _ ∧ 8 + (2 + 11) + 0 ≤ _ from ⟨Nat.le_of_ble_eq_true rfl, Nat.le_of_ble_eq_true rfl⟩) (show cells + t10 ≤ iT ∧ slots + t11 ≤ jT from ⟨ar_1 hci ei, ar_1 hcj ej⟩) hl.1.1 (by simp [rf_cat, ic_cat]) rfl dd_ar_copyOf3_32 (sk := [(.int t8), (.int (0 : Int32)), (va_rf q0), (.int (0 : Int32)), (va_rf p0)]) rfl (fun H locs hw => ?_)
  have hci : cells + t10 + t12 = iT := ar_2 hci ei
  have hcj : slots + t11 + t13 = jT := ar_2 hcj ej
  clear ei ej
  generalize cells + t10 = t14 at hci ⊢
  generalize slots + t11 = t15 at hcj ⊢
  obtain ⟨t16, hp35, h⟩ := st_w_some h
  refine rr_cpq X hKs hw (ta_9 hKs) hp35 hl.1.1 tw_130 tw_131 tw_132 tw_133 (Nat.le_of_ble_eq_true rfl) (by simp [rf_cat, ic_cat]; decide) dd_ar_copyOf3_35 (fun H locs hw => ?_)
  refine rr_aldn X dd_ar_copyOf3_38 rfl (lv_at hl.1 0 rfl) ?_
  obtain ⟨rfl, rfl, rfl, rfl⟩ := st_r_some h
  exact rr_aret X hw hlk hret (Or.inr ⟨_, rfl⟩) hci hcj dd_ar_copyOf3_39
set_option maxHeartbeats 4000000 in
set_option maxRecDepth 100000 in
theorem kc_ar_copyOf3 (l : Launch) (D : va_G) (ac : Nat → ClassId) (a0 : Nat) (gl : gl_T) (v0 : Option Nat) (v1 : Int32) (v2 : Option Nat) (st : st_S) (rF : Option Nat) (stF : st_S) (iT jT : Nat) (h : ar_copyOf3 gl v0 v1 v2 st = some (rF, stF, iT, jT)) :
    ct_ l ⟨"java/util/Arrays", "copyOf", "([Ljava/lang/Object;ILjava/lang/Class;)[Ljava/lang/Object;"⟩ (Cond.code ⟨"java/util/Arrays", "copyOf", "([Ljava/lang/Object;ILjava/lang/Class;)[Ljava/lang/Object;"⟩ prog_21_method_120_code 4 (Option.some (FieldType.array (FieldType.object "java/lang/Object"))) :: tb_) 1 60 D cl_ ac a0 (kn_ D ac a0 gl) [(va_rf v0), (.int v1), (va_rf v2)] st (vb_q rF) stF iT jT := by
  refine ct_of (kn_ok D ac a0 gl) (by decide +kernel) (by simp [rf_cat, ic_cat]) (by simp) ?_
  intro p e s m args below meth c ls X hw hKs hlk hret hnm hl
  unfold ar_copyOf3 at h
  have hl : lh_ ls 4 [(0, (va_rf v0)), (1, (.int v1)), (2, (va_rf v2))] := hl
  obtain ⟨z0, hz0⟩ : ∃ z : Nat, 0 = z := ⟨0, rfl⟩
  obtain ⟨z1, hz1⟩ : ∃ z : Nat, 0 = z := ⟨0, rfl⟩
  refine W.cs hz0 hz1 ?_
  have hci : z0 + iT = iT := by omega
  have hcj : z1 + jT = jT := by omega
  refine rr_aldn X dd_ar_copyOf3_0 rfl (lv_at hl.1 2 rfl) ?_
  refine rr_mi X hKs tw_128 dd_ar_copyOf3_1 ?_
  by_cases hc3 : v2 = (some gl.2.1)
  · rw [if_pos hc3] at h
    refine lv_acmp_ne (tgt := 13) X.1 X.2.1 dd_ar_copyOf3_3 (by decide) (fun z => absurd hc3 z) (fun _ => ?_)
    refine lv_iload_n X.1 X.2.1 dd_ar_copyOf3_6 rfl (lv_at hl.1 1 rfl) ?_
    obtain ⟨_, hz7, h⟩ := st_g_some h
    have hn7 := so_l_s hz7
    obtain ⟨t2, t3, h, ei, ej⟩ := st_n_some h
    refine rr_newq (t := 9) X hw rfl hn7.1 rfl hn7.2 tw_129 (to_9 hKs) (show z0 + 1 ≤ iT ∧ z1 + v1.toNatClampNeg ≤ jT from ⟨ar_1 hci ei, ar_1 hcj ej⟩) dd_ar_copyOf3_7 (fun H hw => ?_)
    have hci : z0 + 1 + t2 = iT := ar_2 hci ei
    have hcj : z1 + v1.toNatClampNeg + t3 = jT := ar_2 hcj ej
    clear ei ej
    generalize z0 + 1 = t4 at hci ⊢
    generalize z1 + v1.toNatClampNeg = t5 at hcj ⊢
    generalize st.2 = t1 at h ⊢
    have h := h
    generalize (st_ad st (.inr (.inl (9, v1.toNatClampNeg, fun _ => none)))) = t6 at h hw
    refine lv_goto (tgt := 24) X.1 X.2.1 dd_ar_copyOf3_10 (by decide) ?_
    exact (kb_ar_copyOf3_b24 X hKs hlk hret hnm) (v0, v1, (some t1)) _ _ _ _ _ _ _ _ hw (lh_pk hl [0, 1] rfl) h hci hcj
  · rw [if_neg hc3] at h
    refine lv_acmp_ne (tgt := 13) X.1 X.2.1 dd_ar_copyOf3_3 (by decide) (fun _ => ?_) (fun z => absurd z hc3)
    refine rr_aldn X dd_ar_copyOf3_13 rfl (lv_at hl.1 2 rfl) ?_
    cases h
/-! java/util/Arrays.copyOf([Ljava/lang/Object;I)[Ljava/lang/Object; -/
theorem dd_ar_copyOf2_0 : decode prog_21_method_119_code 0 = .ok (.aload_n 0, 1) := by decide +kernel
theorem dd_ar_copyOf2_1 : decode prog_21_method_119_code 1 = .ok (.iload_n 1, 1) := by decide +kernel
theorem dd_ar_copyOf2_2 : decode prog_21_method_119_code 2 = .ok (.aload_n 0, 1) := by decide +kernel
theorem dd_ar_copyOf2_3 : decode prog_21_method_119_code 3 = .ok (.invokevirtual 86, 3) := by decide +kernel
theorem dd_ar_copyOf2_6 : decode prog_21_method_119_code 6 = .ok (.invokestatic 300, 3) := by decide +kernel
theorem dd_ar_copyOf2_9 : decode prog_21_method_119_code 9 = .ok (.areturn, 1) := by decide +kernel
set_option maxHeartbeats 4000000 in
set_option maxRecDepth 100000 in
theorem kc_ar_copyOf2 (l : Launch) (D : va_G) (ac : Nat → ClassId) (a0 : Nat) (gl : gl_T) (v0 : Option Nat) (v1 : Int32) (st : st_S) (rF : Option Nat) (stF : st_S) (iT jT : Nat) (h : ar_copyOf2 gl v0 v1 st = some (rF, stF, iT, jT)) :
    ct_ l ⟨"java/util/Arrays", "copyOf", "([Ljava/lang/Object;I)[Ljava/lang/Object;"⟩ (Cond.code ⟨"java/util/Arrays", "copyOf", "([Ljava/lang/Object;I)[Ljava/lang/Object;"⟩ prog_21_method_119_code 2 (Option.some (FieldType.array (FieldType.object "java/lang/Object"))) :: tb_) 2 83 D cl_ ac a0 (kn_ D ac a0 gl) [(va_rf v0), (.int v1)] st (vb_q rF) stF iT jT := by
  refine ct_of (kn_ok D ac a0 gl) (by decide +kernel) (by simp [rf_cat, ic_cat]) (by simp) ?_
  intro p e s m args below meth c ls X hw hKs hlk hret hnm hl
  unfold ar_copyOf2 at h
  have hl : lh_ ls 2 [(0, (va_rf v0)), (1, (.int v1))] := hl
  obtain ⟨z0, hz0⟩ : ∃ z : Nat, 0 = z := ⟨0, rfl⟩
  obtain ⟨z1, hz1⟩ : ∃ z : Nat, 0 = z := ⟨0, rfl⟩
  refine W.cs hz0 hz1 ?_
  have hci : z0 + iT = iT := by omega
  have hcj : z1 + jT = jT := by omega
  refine rr_aldn X dd_ar_copyOf2_0 rfl (lv_at hl.1 0 rfl) ?_
  refine lv_iload_n X.1 X.2.1 dd_ar_copyOf2_1 rfl (lv_at hl.1 1 rfl) ?_
  refine rr_aldn X dd_ar_copyOf2_2 rfl (lv_at hl.1 0 rfl) ?_
  obtain ⟨t1, ht1, h⟩ := st_g_some h
  refine rr_gc X hKs hw ht1 hl.1.1 tw_139 tw_140 tw_141 tw_142 (Nat.le_of_ble_eq_true rfl) (by simp [rf_cat, ic_cat]) dd_ar_copyOf2_3 ?_
  obtain ⟨t2, t3, t4, t5, t6, t7, ht2, h, ei, ej⟩ := st_b_some h
  refine rr_callS (n := 3) (As := [(va_rf v0), (.int v1), (va_rf (some gl.2.1))]) (rest := []) X hw (kn_ok D ac a0 gl) hKs (kc_ar_copyOf3 l D ac a0 gl v0 v1 (some gl.2.1) _ _ _ _ _ ht2) tb_good tw_136 tw_135 tw_137 tw_138 (by decide +kernel) rfl (show 1 + 1 ≤ _ ∧ 8 + (4 + 11) + 60 ≤ _ from ⟨Nat.le_of_ble_eq_true rfl, Nat.le_of_ble_eq_true rfl⟩) (show z0 + t4 ≤ iT ∧ z1 + t5 ≤ jT from ⟨ar_1 hci ei, ar_1 hcj ej⟩) hl.1.1 (by simp [rf_cat, ic_cat]) rfl dd_ar_copyOf2_6 (sk := [(va_rf t2)]) rfl (fun H locs hw => ?_)
  have hci : z0 + t4 + t6 = iT := ar_2 hci ei
  have hcj : z1 + t5 + t7 = jT := ar_2 hcj ej
  clear ei ej
  generalize z0 + t4 = t8 at hci ⊢
  generalize z1 + t5 = t9 at hcj ⊢
  obtain ⟨rfl, rfl, rfl, rfl⟩ := st_r_some h
  exact rr_aret X hw hlk hret (Or.inr ⟨_, rfl⟩) hci hcj dd_ar_copyOf2_9
/-! java/util/ArrayList.grow(I)[Ljava/lang/Object; -/
theorem dd_al_grow1_0 : decode prog_20_method_6_code 0 = .ok (.aload_n 0, 1) := by decide +kernel
theorem dd_al_grow1_1 : decode prog_20_method_6_code 1 = .ok (.getfield 9, 3) := by decide +kernel
theorem dd_al_grow1_4 : decode prog_20_method_6_code 4 = .ok (.arraylength, 1) := by decide +kernel
theorem dd_al_grow1_5 : decode prog_20_method_6_code 5 = .ok (.istore_n 2, 1) := by decide +kernel
theorem dd_al_grow1_6 : decode prog_20_method_6_code 6 = .ok (.iload_n 2, 1) := by decide +kernel
theorem dd_al_grow1_7 : decode prog_20_method_6_code 7 = .ok (.ifCond .gt 13, 3) := by decide +kernel
theorem dd_al_grow1_10 : decode prog_20_method_6_code 10 = .ok (.aload_n 0, 1) := by decide +kernel
theorem dd_al_grow1_11 : decode prog_20_method_6_code 11 = .ok (.getfield 9, 3) := by decide +kernel
theorem dd_al_grow1_14 : decode prog_20_method_6_code 14 = .ok (.getstatic 39, 3) := by decide +kernel
theorem dd_al_grow1_17 : decode prog_20_method_6_code 17 = .ok (.if_acmp .eq 28, 3) := by decide +kernel
theorem dd_al_grow1_20 : decode prog_20_method_6_code 20 = .ok (.iload_n 2, 1) := by decide +kernel
theorem dd_al_grow1_21 : decode prog_20_method_6_code 21 = .ok (.iload_n 1, 1) := by decide +kernel
theorem dd_al_grow1_22 : decode prog_20_method_6_code 22 = .ok (.iload_n 2, 1) := by decide +kernel
theorem dd_al_grow1_23 : decode prog_20_method_6_code 23 = .ok (.isub, 1) := by decide +kernel
theorem dd_al_grow1_24 : decode prog_20_method_6_code 24 = .ok (.iload_n 2, 1) := by decide +kernel
theorem dd_al_grow1_25 : decode prog_20_method_6_code 25 = .ok (.iconst 1, 1) := by decide +kernel
theorem dd_al_grow1_26 : decode prog_20_method_6_code 26 = .ok (.ishr, 1) := by decide +kernel
theorem dd_al_grow1_27 : decode prog_20_method_6_code 27 = .ok (.invokestatic 73, 3) := by decide +kernel
theorem dd_al_grow1_30 : decode prog_20_method_6_code 30 = .ok (.istore_n 3, 1) := by decide +kernel
theorem dd_al_grow1_31 : decode prog_20_method_6_code 31 = .ok (.aload_n 0, 1) := by decide +kernel
theorem dd_al_grow1_32 : decode prog_20_method_6_code 32 = .ok (.aload_n 0, 1) := by decide +kernel
theorem dd_al_grow1_33 : decode prog_20_method_6_code 33 = .ok (.getfield 9, 3) := by decide +kernel
theorem dd_al_grow1_36 : decode prog_20_method_6_code 36 = .ok (.iload_n 3, 1) := by decide +kernel
theorem dd_al_grow1_37 : decode prog_20_method_6_code 37 = .ok (.invokestatic 66, 3) := by decide +kernel
theorem dd_al_grow1_40 : decode prog_20_method_6_code 40 = .ok (.dup_x1, 1) := by decide +kernel
theorem dd_al_grow1_41 : decode prog_20_method_6_code 41 = .ok (.putfield 9, 3) := by decide +kernel
theorem dd_al_grow1_44 : decode prog_20_method_6_code 44 = .ok (.areturn, 1) := by decide +kernel
theorem dd_al_grow1_45 : decode prog_20_method_6_code 45 = .ok (.aload_n 0, 1) := by decide +kernel
theorem dd_al_grow1_46 : decode prog_20_method_6_code 46 = .ok (.bipush 10, 2) := by decide +kernel
theorem dd_al_grow1_48 : decode prog_20_method_6_code 48 = .ok (.iload_n 1, 1) := by decide +kernel
theorem dd_al_grow1_49 : decode prog_20_method_6_code 49 = .ok (.invokestatic 79, 3) := by decide +kernel
theorem dd_al_grow1_52 : decode prog_20_method_6_code 52 = .ok (.anewarray 7, 3) := by decide +kernel
theorem dd_al_grow1_55 : decode prog_20_method_6_code 55 = .ok (.dup_x1, 1) := by decide +kernel
theorem dd_al_grow1_56 : decode prog_20_method_6_code 56 = .ok (.putfield 9, 3) := by decide +kernel
theorem dd_al_grow1_59 : decode prog_20_method_6_code 59 = .ok (.areturn, 1) := by decide +kernel
set_option maxHeartbeats 4000000 in
set_option maxRecDepth 100000 in
theorem kb_al_grow1_b20 {p : Program} {l : Launch} {e : Env} {s : State} {m : MethodId} {args : Array Value} {below : List Frame} {meth : Method} {c : Code} {D : va_G} {ac : Nat → ClassId} {a0 : Nat} {gl : gl_T} {rF : Option Nat} {stF : st_S} {iT jT : Nat}
    (X : cx_ p s m args c prog_20_method_6_code 4 "java/util/ArrayList" tb_ D cl_ (ty_ ac)) (hKs : kn_ D ac a0 gl s) (hlk : meth.locks = false) (hret : meth.sig.returnType = (Option.some (FieldType.array (FieldType.object "java/lang/Object")))) (hnm : meth.name = "grow") : wk_ p l e 3 104 s m args below meth c D cl_ ac a0 4 vb_q rF stF iT jT 20 (fun x : Option Nat × Int32 × Int32 => [(0, (va_rf x.1)), (1, (.int x.2.1)), (2, (.int x.2.2))]) (fun x : Option Nat × Int32 × Int32 => []) (fun x : Option Nat × Int32 × Int32 => al_grow1_b20 gl x.1 x.2.1 x.2.2) := by
  intro x st H locs cells slots i j ls hw hl h hci hcj
  obtain ⟨p0, p1, p2⟩ := x
  have h : al_grow1_b20 gl p0 p1 p2 st = some (rF, stF, i, j) := h
  unfold al_grow1_b20 at h
  have hl : lh_ ls 4 [(0, (va_rf p0)), (1, (.int p1)), (2, (.int p2))] := hl
  refine W.eq (g2 := F0 m 20 ls []) rfl ?_
  refine lv_iload_n X.1 X.2.1 dd_al_grow1_20 rfl (lv_at hl.1 2 rfl) ?_
  refine lv_iload_n X.1 X.2.1 dd_al_grow1_21 rfl (lv_at hl.1 1 rfl) ?_
  refine lv_iload_n X.1 X.2.1 dd_al_grow1_22 rfl (lv_at hl.1 2 rfl) ?_
  refine lv_isub X.1 X.2.1 dd_al_grow1_23 ?_
  refine lv_iload_n X.1 X.2.1 dd_al_grow1_24 rfl (lv_at hl.1 2 rfl) ?_
  refine lv_iconst (v := (1 : Int32)) X.1 X.2.1 dd_al_grow1_25 (by decide) ?_
  refine lv_ishr X.1 X.2.1 dd_al_grow1_26 ?_
  obtain ⟨t19, t20, t21, t22, t23, t24, ht19, h, ei, ej⟩ := st_b_some h
  refine rr_callS (n := 3) (As := [(.int p2), (.int (p1 - p2)), (.int (p2 >>> ((1 : Int32) &&& 31)))]) (rest := []) X hw (kn_ok D ac a0 gl) hKs (kc_as_newLength l D ac a0 gl p2 (p1 - p2) (p2 >>> ((1 : Int32) &&& 31)) _ _ _ _ _ ht19) tb_good tw_148 tw_124 tw_149 tw_150 (by decide +kernel) rfl (show 1 + 1 ≤ _ ∧ 8 + (4 + 11) + 22 ≤ _ from ⟨Nat.le_of_ble_eq_true rfl, Nat.le_of_ble_eq_true rfl⟩) (show cells + t21 ≤ iT ∧ slots + t22 ≤ jT from ⟨ar_1 hci ei, ar_1 hcj ej⟩) hl.1.1 (by simp [rf_cat, ic_cat]) rfl dd_al_grow1_27 (sk := [(.int t19)]) rfl (fun H locs hw => ?_)
  have hci : cells + t21 + t23 = iT := ar_2 hci ei
  have hcj : slots + t22 + t24 = jT := ar_2 hcj ej
  clear ei ej
  generalize cells + t21 = t25 at hci ⊢
  generalize slots + t22 = t26 at hcj ⊢
  refine rr_istn (lv' := [(3, (.int t19)), (0, (va_rf p0)), (1, (.int p1)), (2, (.int p2))]) X dd_al_grow1_30 rfl hl (by decide) rfl (fun ls hl => ?_)
  refine rr_aldn X dd_al_grow1_31 rfl (lv_at hl.1 1 rfl) ?_
  refine rr_aldn X dd_al_grow1_32 rfl (lv_at hl.1 1 rfl) ?_
  obtain ⟨t27, ht27, h⟩ := st_g_some h
  refine rr_getq X hw ff_6_0 ht27 tw_26 (Or.inl rfl) dd_al_grow1_33 ?_
  refine lv_iload_n X.1 X.2.1 dd_al_grow1_36 rfl (lv_at hl.1 0 rfl) ?_
  obtain ⟨t28, t29, t30, t31, t32, t33, ht28, h, ei, ej⟩ := st_b_some h
  refine rr_callS (n := 2) (As := [(va_rf t27), (.int t19)]) (rest := [(va_rf p0)]) X hw (kn_ok D ac a0 gl) hKs (kc_ar_copyOf2 l D ac a0 gl t27 t19 _ _ _ _ _ ht28) tb_good tw_145 tw_135 tw_146 tw_147 (by decide +kernel) rfl (show 2 + 1 ≤ _ ∧ 8 + (2 + 11) + 83 ≤ _ from ⟨Nat.le_of_ble_eq_true rfl, Nat.le_of_ble_eq_true rfl⟩) (show t25 + t30 ≤ iT ∧ t26 + t31 ≤ jT from ⟨ar_1 hci ei, ar_1 hcj ej⟩) hl.1.1 (by simp [rf_cat, ic_cat]) rfl dd_al_grow1_37 (sk := [(va_rf t28), (va_rf p0)]) rfl (fun H locs hw => ?_)
  have hci : t25 + t30 + t32 = iT := ar_2 hci ei
  have hcj : t26 + t31 + t33 = jT := ar_2 hcj ej
  clear ei ej
  generalize t25 + t30 = t34 at hci ⊢
  generalize t26 + t31 = t35 at hcj ⊢
  refine lv_dup_x1 X.1 X.2.1 dd_al_grow1_40 (rf_cat _) (rf_cat _) ?_
  obtain ⟨t36, hp41, h⟩ := st_w_some h
  refine rr_put (ty := .array (.object "java/lang/Object")) X hw ff_6_0 hp41 tw_26 (Or.inl rfl) (by decide +kernel) (rf_narA _ _) (rf_fitA _ _) dd_al_grow1_41 (fun H locs hw => ?_)
  obtain ⟨rfl, rfl, rfl, rfl⟩ := st_r_some h
  exact rr_aret X hw hlk hret (Or.inr ⟨_, rfl⟩) hci hcj dd_al_grow1_44
set_option maxHeartbeats 4000000 in
set_option maxRecDepth 100000 in
theorem kc_al_grow1 (l : Launch) (D : va_G) (ac : Nat → ClassId) (a0 : Nat) (gl : gl_T) (v0 : Option Nat) (v1 : Int32) (st : st_S) (rF : Option Nat) (stF : st_S) (iT jT : Nat) (h : al_grow1 gl v0 v1 st = some (rF, stF, iT, jT)) :
    ct_ l ⟨"java/util/ArrayList", "grow", "(I)[Ljava/lang/Object;"⟩ (Cond.code ⟨"java/util/ArrayList", "grow", "(I)[Ljava/lang/Object;"⟩ prog_20_method_6_code 4 (Option.some (FieldType.array (FieldType.object "java/lang/Object"))) :: tb_) 3 104 D cl_ ac a0 (kn_ D ac a0 gl) [(va_rf v0), (.int v1)] st (vb_q rF) stF iT jT := by
  refine ct_of (kn_ok D ac a0 gl) (by decide +kernel) (by simp [rf_cat, ic_cat]) (by simp) ?_
  intro p e s m args below meth c ls X hw hKs hlk hret hnm hl
  unfold al_grow1 at h
  have hl : lh_ ls 4 [(0, (va_rf v0)), (1, (.int v1))] := hl
  obtain ⟨z0, hz0⟩ : ∃ z : Nat, 0 = z := ⟨0, rfl⟩
  obtain ⟨z1, hz1⟩ : ∃ z : Nat, 0 = z := ⟨0, rfl⟩
  refine W.cs hz0 hz1 ?_
  have hci : z0 + iT = iT := by omega
  have hcj : z1 + jT = jT := by omega
  refine rr_aldn X dd_al_grow1_0 rfl (lv_at hl.1 0 rfl) ?_
  obtain ⟨t1, ht1, h⟩ := st_g_some h
  refine rr_getq X hw ff_6_0 ht1 tw_26 (Or.inl rfl) dd_al_grow1_1 ?_
  obtain ⟨t2, ht2, h⟩ := st_g_some h
  refine rr_alne X hKs hw (tl_9 ac) ht2 dd_al_grow1_4 ?_
  refine rr_istn (lv' := [(2, (.int t2)), (0, (va_rf v0)), (1, (.int v1))]) X dd_al_grow1_5 rfl hl (by decide) rfl (fun ls hl => ?_)
  refine lv_iload_n X.1 X.2.1 dd_al_grow1_6 rfl (lv_at hl.1 0 rfl) ?_
  by_cases hc7 : 0 < t2
  · rw [if_pos hc7] at h
    refine lv_if_gt (tgt := 20) X.1 X.2.1 dd_al_grow1_7 (by decide) (fun _ => ?_) (fun z => absurd hc7 z)
    exact (kb_al_grow1_b20 X hKs hlk hret hnm) (v0, v1, t2) _ _ _ _ _ _ _ _ hw (lh_pk hl [1, 2, 0] rfl) h hci hcj
  · rw [if_neg hc7] at h
    refine lv_if_gt (tgt := 20) X.1 X.2.1 dd_al_grow1_7 (by decide) (fun z => absurd z hc7) (fun _ => ?_)
    refine rr_aldn X dd_al_grow1_10 rfl (lv_at hl.1 1 rfl) ?_
    obtain ⟨t3, ht3, h⟩ := st_g_some h
    refine rr_getq X hw ff_6_0 ht3 tw_26 (Or.inl rfl) dd_al_grow1_11 ?_
    refine rr_ed X hKs hw tw_27 dd_al_grow1_14 ?_
    by_cases hc17 : t3 = (some gl.1)
    · rw [if_pos hc17] at h
      refine lv_acmp_eq (tgt := 45) X.1 X.2.1 dd_al_grow1_17 (by decide) (fun _ => ?_) (fun z => absurd hc17 z)
      refine rr_aldn X dd_al_grow1_45 rfl (lv_at hl.1 1 rfl) ?_
      refine lv_bipush (v := (10 : Int32)) X.1 X.2.1 dd_al_grow1_46 (by decide) ?_
      refine lv_iload_n X.1 X.2.1 dd_al_grow1_48 rfl (lv_at hl.1 2 rfl) ?_
      obtain ⟨t4, t5, t6, t7, t8, t9, ht4, h, ei, ej⟩ := st_b_some h
      refine rr_callS (n := 2) (As := [(.int (10 : Int32)), (.int v1)]) (rest := [(va_rf v0)]) X hw (kn_ok D ac a0 gl) hKs (kc_ma_max l D ac a0 gl (10 : Int32) v1 _ _ _ _ _ ht4) tb_good tw_68 tw_67 tw_144 tw_70 (by decide +kernel) rfl (show 0 + 1 ≤ _ ∧ 8 + (2 + 11) + 0 ≤ _ from ⟨Nat.le_of_ble_eq_true rfl, Nat.le_of_ble_eq_true rfl⟩) (show z0 + t6 ≤ iT ∧ z1 + t7 ≤ jT from ⟨ar_1 hci ei, ar_1 hcj ej⟩) hl.1.1 (by simp [rf_cat, ic_cat]) rfl dd_al_grow1_49 (sk := [(.int t4), (va_rf v0)]) rfl (fun H locs hw => ?_)
      have hci : z0 + t6 + t8 = iT := ar_2 hci ei
      have hcj : z1 + t7 + t9 = jT := ar_2 hcj ej
      clear ei ej
      generalize z0 + t6 = t10 at hci ⊢
      generalize z1 + t7 = t11 at hcj ⊢
      obtain ⟨_, hz52, h⟩ := st_g_some h
      have hn52 := so_l_s hz52
      obtain ⟨t13, t14, h, ei, ej⟩ := st_n_some h
      refine rr_newq (t := 9) X hw rfl hn52.1 rfl hn52.2 tw_143 (to_9 hKs) (show t10 + 1 ≤ iT ∧ t11 + t4.toNatClampNeg ≤ jT from ⟨ar_1 hci ei, ar_1 hcj ej⟩) dd_al_grow1_52 (fun H hw => ?_)
      have hci : t10 + 1 + t13 = iT := ar_2 hci ei
      have hcj : t11 + t4.toNatClampNeg + t14 = jT := ar_2 hcj ej
      clear ei ej
      generalize t10 + 1 = t15 at hci ⊢
      generalize t11 + t4.toNatClampNeg = t16 at hcj ⊢
      generalize t5.2 = t12 at h ⊢
      have h := h
      generalize (st_ad t5 (.inr (.inl (9, t4.toNatClampNeg, fun _ => none)))) = t17 at h hw
      refine lv_dup_x1 X.1 X.2.1 dd_al_grow1_55 (rf_cat _) (rf_cat _) ?_
      obtain ⟨t18, hp56, h⟩ := st_w_some h
      refine rr_put (ty := .array (.object "java/lang/Object")) X hw ff_6_0 hp56 tw_26 (Or.inl rfl) (by decide +kernel) (rf_narA _ _) (rf_fitA _ _) dd_al_grow1_56 (fun H locs hw => ?_)
      obtain ⟨rfl, rfl, rfl, rfl⟩ := st_r_some h
      exact rr_aret X hw hlk hret (Or.inr ⟨_, rfl⟩) hci hcj dd_al_grow1_59
    · rw [if_neg hc17] at h
      refine lv_acmp_eq (tgt := 45) X.1 X.2.1 dd_al_grow1_17 (by decide) (fun z => absurd z hc17) (fun _ => ?_)
      exact (kb_al_grow1_b20 X hKs hlk hret hnm) (v0, v1, t2) _ _ _ _ _ _ _ _ hw (lh_pk hl [1, 2, 0] rfl) h hci hcj
/-! java/util/ArrayList.grow()[Ljava/lang/Object; -/
theorem dd_al_grow0_0 : decode prog_20_method_7_code 0 = .ok (.aload_n 0, 1) := by decide +kernel
theorem dd_al_grow0_1 : decode prog_20_method_7_code 1 = .ok (.aload_n 0, 1) := by decide +kernel
theorem dd_al_grow0_2 : decode prog_20_method_7_code 2 = .ok (.getfield 48, 3) := by decide +kernel
theorem dd_al_grow0_5 : decode prog_20_method_7_code 5 = .ok (.iconst 1, 1) := by decide +kernel
theorem dd_al_grow0_6 : decode prog_20_method_7_code 6 = .ok (.iadd, 1) := by decide +kernel
theorem dd_al_grow0_7 : decode prog_20_method_7_code 7 = .ok (.invokevirtual 69, 3) := by decide +kernel
theorem dd_al_grow0_10 : decode prog_20_method_7_code 10 = .ok (.areturn, 1) := by decide +kernel
set_option maxHeartbeats 4000000 in
set_option maxRecDepth 100000 in
theorem kc_al_grow0 (l : Launch) (D : va_G) (ac : Nat → ClassId) (a0 : Nat) (gl : gl_T) (v0 : Option Nat) (st : st_S) (rF : Option Nat) (stF : st_S) (iT jT : Nat) (h : al_grow0 gl v0 st = some (rF, stF, iT, jT)) :
    ct_ l ⟨"java/util/ArrayList", "grow", "()[Ljava/lang/Object;"⟩ (Cond.code ⟨"java/util/ArrayList", "grow", "()[Ljava/lang/Object;"⟩ prog_20_method_7_code 1 (Option.some (FieldType.array (FieldType.object "java/lang/Object"))) :: tb_) 4 127 D cl_ ac a0 (kn_ D ac a0 gl) [(va_rf v0)] st (vb_q rF) stF iT jT := by
  refine ct_of (kn_ok D ac a0 gl) (by decide +kernel) (by simp [rf_cat, ic_cat]) (by simp) ?_
  intro p e s m args below meth c ls X hw hKs hlk hret hnm hl
  unfold al_grow0 at h
  have hl : lh_ ls 1 [(0, (va_rf v0))] := hl
  obtain ⟨z0, hz0⟩ : ∃ z : Nat, 0 = z := ⟨0, rfl⟩
  obtain ⟨z1, hz1⟩ : ∃ z : Nat, 0 = z := ⟨0, rfl⟩
  refine W.cs hz0 hz1 ?_
  have hci : z0 + iT = iT := by omega
  have hcj : z1 + jT = jT := by omega
  refine rr_aldn X dd_al_grow0_0 rfl (lv_at hl.1 0 rfl) ?_
  refine rr_aldn X dd_al_grow0_1 rfl (lv_at hl.1 0 rfl) ?_
  obtain ⟨t1, ht1, h⟩ := st_g_some h
  refine rr_geti X hw ff_6_1 ht1 tw_114 (Or.inl rfl) dd_al_grow0_2 ?_
  refine lv_iconst (v := (1 : Int32)) X.1 X.2.1 dd_al_grow0_5 (by decide) ?_
  refine lv_iadd X.1 X.2.1 dd_al_grow0_6 ?_
  obtain ⟨t10, ht10, h⟩ := st_g_some h
  obtain ⟨t2, t3, t4, t5, t6, t7, ht2, h, ei, ej⟩ := st_b_some h
  refine rr_callV (n := 1) (As := [(.int (t1 + (1 : Int32)))]) (rest := []) X hw (kn_ok D ac a0 gl) hKs (kc_al_grow1 l D ac a0 gl v0 (t1 + (1 : Int32)) _ _ _ _ _ ht2) tb_good tw_151 tw_33 tw_152 tw_153 se_1 ht10 (by decide +kernel) rfl (show 3 + 1 ≤ _ ∧ 8 + (4 + 11) + 104 ≤ _ from ⟨Nat.le_of_ble_eq_true rfl, Nat.le_of_ble_eq_true rfl⟩) (show z0 + t4 ≤ iT ∧ z1 + t5 ≤ jT from ⟨ar_1 hci ei, ar_1 hcj ej⟩) hl.1.1 (by simp [rf_cat, ic_cat]) rfl dd_al_grow0_7 (sk := [(va_rf t2)]) rfl (fun H locs hw => ?_)
  have hci : z0 + t4 + t6 = iT := ar_2 hci ei
  have hcj : z1 + t5 + t7 = jT := ar_2 hcj ej
  clear ei ej
  generalize z0 + t4 = t8 at hci ⊢
  generalize z1 + t5 = t9 at hcj ⊢
  obtain ⟨rfl, rfl, rfl, rfl⟩ := st_r_some h
  exact rr_aret X hw hlk hret (Or.inr ⟨_, rfl⟩) hci hcj dd_al_grow0_10
/-! java/util/ArrayList.add(Ljava/lang/Object;[Ljava/lang/Object;I)V -/
theorem dd_al_add3_0 : decode prog_20_method_24_code 0 = .ok (.iload_n 3, 1) := by decide +kernel
theorem dd_al_add3_1 : decode prog_20_method_24_code 1 = .ok (.aload_n 2, 1) := by decide +kernel
theorem dd_al_add3_2 : decode prog_20_method_24_code 2 = .ok (.arraylength, 1) := by decide +kernel
theorem dd_al_add3_3 : decode prog_20_method_24_code 3 = .ok (.if_icmp .ne 8, 3) := by decide +kernel
theorem dd_al_add3_6 : decode prog_20_method_24_code 6 = .ok (.aload_n 0, 1) := by decide +kernel
theorem dd_al_add3_7 : decode prog_20_method_24_code 7 = .ok (.invokevirtual 129, 3) := by decide +kernel
theorem dd_al_add3_10 : decode prog_20_method_24_code 10 = .ok (.astore_n 2, 1) := by decide +kernel
theorem dd_al_add3_11 : decode prog_20_method_24_code 11 = .ok (.aload_n 2, 1) := by decide +kernel
theorem dd_al_add3_12 : decode prog_20_method_24_code 12 = .ok (.iload_n 3, 1) := by decide +kernel
theorem dd_al_add3_13 : decode prog_20_method_24_code 13 = .ok (.aload_n 1, 1) := by decide +kernel
theorem dd_al_add3_14 : decode prog_20_method_24_code 14 = .ok (.aastore, 1) := by decide +kernel
theorem dd_al_add3_15 : decode prog_20_method_24_code 15 = .ok (.aload_n 0, 1) := by decide +kernel
theorem dd_al_add3_16 : decode prog_20_method_24_code 16 = .ok (.iload_n 3, 1) := by decide +kernel
theorem dd_al_add3_17 : decode prog_20_method_24_code 17 = .ok (.iconst 1, 1) := by decide +kernel
theorem dd_al_add3_18 : decode prog_20_method_24_code 18 = .ok (.iadd, 1) := by decide +kernel
theorem dd_al_add3_19 : decode prog_20_method_24_code 19 = .ok (.putfield 48, 3) := by decide +kernel
theorem dd_al_add3_22 : decode prog_20_method_24_code 22 = .ok (.return_, 1) := by decide +kernel
set_option maxHeartbeats 4000000 in
set_option maxRecDepth 100000 in
theorem kb_al_add3_b11 {p : Program} {l : Launch} {e : Env} {s : State} {m : MethodId} {args : Array Value} {below : List Frame} {meth : Method} {c : Code} {D : va_G} {ac : Nat → ClassId} {a0 : Nat} {gl : gl_T} {rF : Unit} {stF : st_S} {iT jT : Nat}
    (X : cx_ p s m args c prog_20_method_24_code 4 "java/util/ArrayList" tb_ D cl_ (ty_ ac)) (hKs : kn_ D ac a0 gl s) (hlk : meth.locks = false) (hret : meth.sig.returnType = (Option.none : Option FieldType)) (hnm : meth.name = "add") : wk_ p l e 5 147 s m args below meth c D cl_ ac a0 4 vb_u rF stF iT jT 11 (fun x : Option Nat × Option Nat × Option Nat × Int32 => [(0, (va_rf x.1)), (1, (va_rf x.2.1)), (2, (va_rf x.2.2.1)), (3, (.int x.2.2.2))]) (fun x : Option Nat × Option Nat × Option Nat × Int32 => []) (fun x : Option Nat × Option Nat × Option Nat × Int32 => al_add3_b11 gl x.1 x.2.1 x.2.2.1 x.2.2.2) := by
  intro x st H locs cells slots i j ls hw hl h hci hcj
  obtain ⟨p0, p1, p2, p3⟩ := x
  have h : al_add3_b11 gl p0 p1 p2 p3 st = some (rF, stF, i, j) := h
  unfold al_add3_b11 at h
  have hl : lh_ ls 4 [(0, (va_rf p0)), (1, (va_rf p1)), (2, (va_rf p2)), (3, (.int p3))] := hl
  refine W.eq (g2 := F0 m 11 ls []) rfl ?_
  refine rr_aldn X dd_al_add3_11 rfl (lv_at hl.1 2 rfl) ?_
  refine lv_iload_n X.1 X.2.1 dd_al_add3_12 rfl (lv_at hl.1 3 rfl) ?_
  refine rr_aldn X dd_al_add3_13 rfl (lv_at hl.1 1 rfl) ?_
  obtain ⟨t11, hp14, h⟩ := st_w_some h
  refine rr_aast X hw (ta_9 hKs) hp14 dd_al_add3_14 (fun H locs hw => ?_)
  refine rr_aldn X dd_al_add3_15 rfl (lv_at hl.1 0 rfl) ?_
  refine lv_iload_n X.1 X.2.1 dd_al_add3_16 rfl (lv_at hl.1 3 rfl) ?_
  refine lv_iconst (v := (1 : Int32)) X.1 X.2.1 dd_al_add3_17 (by decide) ?_
  refine lv_iadd X.1 X.2.1 dd_al_add3_18 ?_
  obtain ⟨t12, hp19, h⟩ := st_w_some h
  refine rr_put (ty := .int) X hw ff_6_1 hp19 tw_114 (Or.inl rfl) (by decide +kernel) rfl rfl dd_al_add3_19 (fun H locs hw => ?_)
  obtain ⟨rfl, rfl, rfl, rfl⟩ := st_r_some h
  exact rr_vret X hw hlk hret hci hcj dd_al_add3_22
set_option maxHeartbeats 4000000 in
set_option maxRecDepth 100000 in
theorem kc_al_add3 (l : Launch) (D : va_G) (ac : Nat → ClassId) (a0 : Nat) (gl : gl_T) (v0 : Option Nat) (v1 : Option Nat) (v2 : Option Nat) (v3 : Int32) (st : st_S) (rF : Unit) (stF : st_S) (iT jT : Nat) (h : al_add3 gl v0 v1 v2 v3 st = some (rF, stF, iT, jT)) :
    ct_ l ⟨"java/util/ArrayList", "add", "(Ljava/lang/Object;[Ljava/lang/Object;I)V"⟩ (Cond.code ⟨"java/util/ArrayList", "add", "(Ljava/lang/Object;[Ljava/lang/Object;I)V"⟩ prog_20_method_24_code 4 (Option.none : Option FieldType) :: tb_) 5 147 D cl_ ac a0 (kn_ D ac a0 gl) [(va_rf v0), (va_rf v1), (va_rf v2), (.int v3)] st (vb_u rF) stF iT jT := by
  refine ct_of (kn_ok D ac a0 gl) (by decide +kernel) (by simp [rf_cat, ic_cat]) (by simp) ?_
  intro p e s m args below meth c ls X hw hKs hlk hret hnm hl
  unfold al_add3 at h
  have hl : lh_ ls 4 [(0, (va_rf v0)), (1, (va_rf v1)), (2, (va_rf v2)), (3, (.int v3))] := hl
  obtain ⟨z0, hz0⟩ : ∃ z : Nat, 0 = z := ⟨0, rfl⟩
  obtain ⟨z1, hz1⟩ : ∃ z : Nat, 0 = z := ⟨0, rfl⟩
  refine W.cs hz0 hz1 ?_
  have hci : z0 + iT = iT := by omega
  have hcj : z1 + jT = jT := by omega
  refine lv_iload_n X.1 X.2.1 dd_al_add3_0 rfl (lv_at hl.1 3 rfl) ?_
  refine rr_aldn X dd_al_add3_1 rfl (lv_at hl.1 2 rfl) ?_
  obtain ⟨t1, ht1, h⟩ := st_g_some h
  refine rr_alne X hKs hw (tl_9 ac) ht1 dd_al_add3_2 ?_
  by_cases hc3 : v3 = t1
  · rw [if_pos hc3] at h
    refine lv_icmp_ne (tgt := 11) X.1 X.2.1 dd_al_add3_3 (by decide) (fun z => absurd hc3 z) (fun _ => ?_)
    refine rr_aldn X dd_al_add3_6 rfl (lv_at hl.1 0 rfl) ?_
    obtain ⟨t10, ht10, h⟩ := st_g_some h
    obtain ⟨t2, t3, t4, t5, t6, t7, ht2, h, ei, ej⟩ := st_b_some h
    refine rr_callV (n := 0) (As := []) (rest := []) X hw (kn_ok D ac a0 gl) hKs (kc_al_grow0 l D ac a0 gl v0 _ _ _ _ _ ht2) tb_good tw_155 tw_33 tw_156 tw_157 se_2 ht10 (by decide +kernel) rfl (show 4 + 1 ≤ _ ∧ 8 + (1 + 11) + 127 ≤ _ from ⟨Nat.le_of_ble_eq_true rfl, Nat.le_of_ble_eq_true rfl⟩) (show z0 + t4 ≤ iT ∧ z1 + t5 ≤ jT from ⟨ar_1 hci ei, ar_1 hcj ej⟩) hl.1.1 (by simp [rf_cat, ic_cat]) rfl dd_al_add3_7 (sk := [(va_rf t2)]) rfl (fun H locs hw => ?_)
    have hci : z0 + t4 + t6 = iT := ar_2 hci ei
    have hcj : z1 + t5 + t7 = jT := ar_2 hcj ej
    clear ei ej
    generalize z0 + t4 = t8 at hci ⊢
    generalize z1 + t5 = t9 at hcj ⊢
    refine rr_astn (lv' := [(2, (va_rf t2)), (0, (va_rf v0)), (1, (va_rf v1)), (3, (.int v3))]) X dd_al_add3_10 rfl hl (by decide) rfl (fun ls hl => ?_)
    exact (kb_al_add3_b11 X hKs hlk hret hnm) (v0, v1, t2, v3) _ _ _ _ _ _ _ _ hw (lh_pk hl [1, 2, 0, 3] rfl) h hci hcj
  · rw [if_neg hc3] at h
    refine lv_icmp_ne (tgt := 11) X.1 X.2.1 dd_al_add3_3 (by decide) (fun _ => ?_) (fun z => absurd z hc3)
    exact (kb_al_add3_b11 X hKs hlk hret hnm) (v0, v1, v2, v3) _ _ _ _ _ _ _ _ hw (lh_pk hl [0, 1, 2, 3] rfl) h hci hcj
