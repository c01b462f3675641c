/-! PromiseVatsModel.flying(II)I -/
theorem dd_mm_flying_0 : decode prog_12_method_33_code 0 = .ok (.iconst 0, 1) := by decide +kernel
theorem dd_mm_flying_1 : decode prog_12_method_33_code 1 = .ok (.istore_n 3, 1) := by decide +kernel
theorem dd_mm_flying_2 : decode prog_12_method_33_code 2 = .ok (.iconst 0, 1) := by decide +kernel
theorem dd_mm_flying_3 : decode prog_12_method_33_code 3 = .ok (.istore 4, 2) := by decide +kernel
theorem dd_mm_flying_5 : decode prog_12_method_33_code 5 = .ok (.iload 4, 2) := by decide +kernel
theorem dd_mm_flying_7 : decode prog_12_method_33_code 7 = .ok (.aload_n 0, 1) := by decide +kernel
theorem dd_mm_flying_8 : decode prog_12_method_33_code 8 = .ok (.getfield 108, 3) := by decide +kernel
theorem dd_mm_flying_11 : decode prog_12_method_33_code 11 = .ok (.if_icmp .ge 51, 3) := by decide +kernel
theorem dd_mm_flying_14 : decode prog_12_method_33_code 14 = .ok (.aload_n 0, 1) := by decide +kernel
theorem dd_mm_flying_15 : decode prog_12_method_33_code 15 = .ok (.iload_n 1, 1) := by decide +kernel
theorem dd_mm_flying_16 : decode prog_12_method_33_code 16 = .ok (.invokevirtual 115, 3) := by decide +kernel
theorem dd_mm_flying_19 : decode prog_12_method_33_code 19 = .ok (.ifCond .eq 43, 3) := by decide +kernel
theorem dd_mm_flying_22 : decode prog_12_method_33_code 22 = .ok (.aload_n 0, 1) := by decide +kernel
theorem dd_mm_flying_23 : decode prog_12_method_33_code 23 = .ok (.iload_n 2, 1) := by decide +kernel
theorem dd_mm_flying_24 : decode prog_12_method_33_code 24 = .ok (.invokevirtual 115, 3) := by decide +kernel
theorem dd_mm_flying_27 : decode prog_12_method_33_code 27 = .ok (.ifCond .eq 35, 3) := by decide +kernel
theorem dd_mm_flying_30 : decode prog_12_method_33_code 30 = .ok (.aload_n 0, 1) := by decide +kernel
theorem dd_mm_flying_31 : decode prog_12_method_33_code 31 = .ok (.getfield 69, 3) := by decide +kernel
theorem dd_mm_flying_34 : decode prog_12_method_33_code 34 = .ok (.iload 4, 2) := by decide +kernel
theorem dd_mm_flying_36 : decode prog_12_method_33_code 36 = .ok (.baload, 1) := by decide +kernel
theorem dd_mm_flying_37 : decode prog_12_method_33_code 37 = .ok (.bipush 16, 2) := by decide +kernel
theorem dd_mm_flying_39 : decode prog_12_method_33_code 39 = .ok (.irem, 1) := by decide +kernel
theorem dd_mm_flying_40 : decode prog_12_method_33_code 40 = .ok (.iconst 4, 1) := by decide +kernel
theorem dd_mm_flying_41 : decode prog_12_method_33_code 41 = .ok (.iload_n 1, 1) := by decide +kernel
theorem dd_mm_flying_42 : decode prog_12_method_33_code 42 = .ok (.imul, 1) := by decide +kernel
theorem dd_mm_flying_43 : decode prog_12_method_33_code 43 = .ok (.iload_n 2, 1) := by decide +kernel
theorem dd_mm_flying_44 : decode prog_12_method_33_code 44 = .ok (.iadd, 1) := by decide +kernel
theorem dd_mm_flying_45 : decode prog_12_method_33_code 45 = .ok (.if_icmp .ne 9, 3) := by decide +kernel
theorem dd_mm_flying_48 : decode prog_12_method_33_code 48 = .ok (.iload_n 3, 1) := by decide +kernel
theorem dd_mm_flying_49 : decode prog_12_method_33_code 49 = .ok (.iconst 1, 1) := by decide +kernel
theorem dd_mm_flying_50 : decode prog_12_method_33_code 50 = .ok (.iadd, 1) := by decide +kernel
theorem dd_mm_flying_51 : decode prog_12_method_33_code 51 = .ok (.goto 4, 3) := by decide +kernel
theorem dd_mm_flying_54 : decode prog_12_method_33_code 54 = .ok (.iload_n 3, 1) := by decide +kernel
theorem dd_mm_flying_55 : decode prog_12_method_33_code 55 = .ok (.istore_n 3, 1) := by decide +kernel
theorem dd_mm_flying_56 : decode prog_12_method_33_code 56 = .ok (.iinc 4 1, 3) := by decide +kernel
theorem dd_mm_flying_59 : decode prog_12_method_33_code 59 = .ok (.goto (-54), 3) := by decide +kernel
theorem dd_mm_flying_62 : decode prog_12_method_33_code 62 = .ok (.iload_n 3, 1) := by decide +kernel
theorem dd_mm_flying_63 : decode prog_12_method_33_code 63 = .ok (.ireturn, 1) := by decide +kernel
set_option maxHeartbeats 4000000 in
set_option maxRecDepth 100000 in
theorem kb_mm_flying_b55 {p : Program} {l : Launch} {e : Env} {s : State} {m : MethodId} {args : Array Value} {below : List Frame} {meth : Method} {c : Code} {D : va_G} {ac : Nat → ClassId} {a0 : Nat} {gl : gl_T} {rF : Int32} {stF : st_S} {iT jT : Nat} {rec5 : Option Nat × Int32 × Int32 × Int32 × Int32 → st_M (Int32)}
    (X : cx_ p s m args c prog_12_method_33_code 5 "PromiseVatsModel" tb_ D cl_ (ty_ ac)) (hKs : kn_ D ac a0 gl s) (hlk : meth.locks = false) (hret : meth.sig.returnType = (Option.some FieldType.int)) (hnm : meth.name = "flying") (hr5 : wk_ p l e 1 21 s m args below meth c D cl_ ac a0 5 vb_i rF stF iT jT 5 (fun x : Option Nat × Int32 × Int32 × Int32 × Int32 => [(0, (va_rf x.1)), (1, (.int x.2.1)), (2, (.int x.2.2.1)), (3, (.int x.2.2.2.1)), (4, (.int x.2.2.2.2))]) (fun x : Option Nat × Int32 × Int32 × Int32 × Int32 => []) rec5) : wk_ p l e 1 21 s m args below meth c D cl_ ac a0 5 vb_i rF stF iT jT 55 (fun x : Option Nat × Int32 × Int32 × Int32 × Int32 => [(0, (va_rf x.1)), (1, (.int x.2.1)), (2, (.int x.2.2.1)), (4, (.int x.2.2.2.1))]) (fun x : Option Nat × Int32 × Int32 × Int32 × Int32 => [(.int x.2.2.2.2)]) (fun x : Option Nat × Int32 × Int32 × Int32 × Int32 => mm_flying_b55 gl rec5 x.1 x.2.1 x.2.2.1 x.2.2.2.1 x.2.2.2.2) := by
  intro x st H locs cells slots i j ls hw hl h hci hcj
  obtain ⟨p0, p1, p2, p4, q0⟩ := x
  have h : mm_flying_b55 gl rec5 p0 p1 p2 p4 q0 st = some (rF, stF, i, j) := h
  unfold mm_flying_b55 at h
  have hl : lh_ ls 5 [(0, (va_rf p0)), (1, (.int p1)), (2, (.int p2)), (4, (.int p4))] := hl
  refine W.eq (g2 := F0 m 55 ls [(.int q0)]) rfl ?_
  refine rr_istn (lv' := [(3, (.int q0)), (0, (va_rf p0)), (1, (.int p1)), (2, (.int p2)), (4, (.int p4))]) X dd_mm_flying_55 rfl hl (by decide) rfl (fun ls hl => ?_)
  refine rr_iinc (k := 4) (v := (p4 + (1 : Int32))) (lv' := [(4, (.int (p4 + (1 : Int32)))), (3, (.int q0)), (0, (va_rf p0)), (1, (.int p1)), (2, (.int p2))]) X dd_mm_flying_56 hl rfl (by rw [show Int32.ofInt (1) = (1 : Int32) from by decide]) (by decide) rfl (fun ls hl => ?_)
  refine lv_goto (tgt := 5) X.1 X.2.1 dd_mm_flying_59 (by decide) ?_
  exact hr5 (p0, p1, p2, q0, (p4 + (1 : Int32))) _ _ _ _ _ _ _ _ hw (lh_pk hl [2, 3, 4, 1, 0] rfl) h hci hcj
set_option maxHeartbeats 4000000 in
set_option maxRecDepth 100000 in
theorem kb_mm_flying_b62 {p : Program} {l : Launch} {e : Env} {s : State} {m : MethodId} {args : Array Value} {below : List Frame} {meth : Method} {c : Code} {D : va_G} {ac : Nat → ClassId} {a0 : Nat} {gl : gl_T} {rF : Int32} {stF : st_S} {iT jT : Nat}
    (X : cx_ p s m args c prog_12_method_33_code 5 "PromiseVatsModel" tb_ D cl_ (ty_ ac)) (hKs : kn_ D ac a0 gl s) (hlk : meth.locks = false) (hret : meth.sig.returnType = (Option.some FieldType.int)) (hnm : meth.name = "flying") : wk_ p l e 1 21 s m args below meth c D cl_ ac a0 5 vb_i rF stF iT jT 62 (fun x : Int32 => [(3, (.int x))]) (fun x : Int32 => []) (fun x : Int32 => mm_flying_b62 gl x) := by
  intro x st H locs cells slots i j ls hw hl h hci hcj
  have hx : ∃ z, z = x := ⟨_, rfl⟩; obtain ⟨p3, rfl⟩ := hx
  have h : mm_flying_b62 gl p3 st = some (rF, stF, i, j) := h
  unfold mm_flying_b62 at h
  have hl : lh_ ls 5 [(3, (.int p3))] := hl
  refine W.eq (g2 := F0 m 62 ls []) rfl ?_
  refine lv_iload_n X.1 X.2.1 dd_mm_flying_62 rfl (lv_at hl.1 0 rfl) ?_
  obtain ⟨rfl, rfl, rfl, rfl⟩ := st_r_some h
  exact rr_iret X hw hlk hret rfl hci hcj dd_mm_flying_63
set_option maxHeartbeats 4000000 in
set_option maxRecDepth 100000 in
theorem kb_mm_flying_b5 {p : Program} {l : Launch} {e : Env} {s : State} {m : MethodId} {args : Array Value} {below : List Frame} {meth : Method} {c : Code} {D : va_G} {ac : Nat → ClassId} {a0 : Nat} {gl : gl_T} {rF : Int32} {stF : st_S} {iT jT : Nat}
    (X : cx_ p s m args c prog_12_method_33_code 5 "PromiseVatsModel" tb_ D cl_ (ty_ ac)) (hKs : kn_ D ac a0 gl s) (hlk : meth.locks = false) (hret : meth.sig.returnType = (Option.some FieldType.int)) (hnm : meth.name = "flying") : wk_ p l e 1 21 s m args below meth c D cl_ ac a0 5 vb_i rF stF iT jT 5 (fun x : Option Nat × Int32 × Int32 × Int32 × Int32 => [(0, (va_rf x.1)), (1, (.int x.2.1)), (2, (.int x.2.2.1)), (3, (.int x.2.2.2.1)), (4, (.int x.2.2.2.2))]) (fun x : Option Nat × Int32 × Int32 × Int32 × Int32 => []) (st_it (fun rec5 => (fun x : Option Nat × Int32 × Int32 × Int32 × Int32 => mm_flying_b5 gl rec5 x.1 x.2.1 x.2.2.1 x.2.2.2.1 x.2.2.2.2)) fu_) := by
  refine wk_it ?_ _
  intro rec5 hr5 x st H locs cells slots i j ls hw hl h hci hcj
  obtain ⟨p0, p1, p2, p3, p4⟩ := x
  have h : mm_flying_b5 gl rec5 p0 p1 p2 p3 p4 st = some (rF, stF, i, j) := h
  unfold mm_flying_b5 at h
  have hl : lh_ ls 5 [(0, (va_rf p0)), (1, (.int p1)), (2, (.int p2)), (3, (.int p3)), (4, (.int p4))] := hl
  refine W.eq (g2 := F0 m 5 ls []) rfl ?_
  refine lv_iload X.1 X.2.1 dd_mm_flying_5 (lv_at hl.1 4 rfl) ?_
  refine rr_aldn X dd_mm_flying_7 rfl (lv_at hl.1 0 rfl) ?_
  obtain ⟨t1, ht1, h⟩ := st_g_some h
  refine rr_geti X hw ff_10_24 ht1 tw_468 (Or.inl rfl) dd_mm_flying_8 ?_
  by_cases hc11 : t1 ≤ p4
  · rw [if_pos hc11] at h
    refine lv_icmp_ge (tgt := 62) X.1 X.2.1 dd_mm_flying_11 (by decide) (fun _ => ?_) (fun z => absurd hc11 z)
    exact (kb_mm_flying_b62 X hKs hlk hret hnm) p3 _ _ _ _ _ _ _ _ hw (lh_pk hl [3] rfl) h hci hcj
  · rw [if_neg hc11] at h
    refine lv_icmp_ge (tgt := 62) X.1 X.2.1 dd_mm_flying_11 (by decide) (fun z => absurd z hc11) (fun _ => ?_)
    refine rr_aldn X dd_mm_flying_14 rfl (lv_at hl.1 0 rfl) ?_
    refine lv_iload_n X.1 X.2.1 dd_mm_flying_15 rfl (lv_at hl.1 1 rfl) ?_
    obtain ⟨t21, ht21, h⟩ := st_g_some h
    obtain ⟨t2, t3, t4, t5, t6, t7, ht2, h, ei, ej⟩ := st_b_some h
    refine rr_callV (n := 1) (As := [(.int p1)]) (rest := []) X hw (kn_ok D ac a0 gl) hKs (kc_mm_vat l D ac a0 gl p0 p1 _ _ _ _ _ ht2) tb_good tw_516 tw_469 tw_517 tw_518 se_54 ht21 (by decide +kernel) rfl (show 0 + 1 ≤ _ ∧ 8 + (2 + 11) + 0 ≤ _ from ⟨Nat.le_of_ble_eq_true rfl, Nat.le_of_ble_eq_true rfl⟩) (show cells + t4 ≤ iT ∧ slots + t5 ≤ jT from ⟨ar_1 hci ei, ar_1 hcj ej⟩) hl.1.1 (by simp [rf_cat, ic_cat]) rfl dd_mm_flying_16 (sk := [(.int t2)]) rfl (fun H locs hw => ?_)
    have hci : cells + t4 + t6 = iT := ar_2 hci ei
    have hcj : slots + t5 + t7 = jT := ar_2 hcj ej
    clear ei ej
    generalize cells + t4 = t8 at hci ⊢
    generalize slots + t5 = t9 at hcj ⊢
    by_cases hc19 : t2 = 0
    · rw [if_pos hc19] at h
      refine lv_if_eq (tgt := 62) X.1 X.2.1 dd_mm_flying_19 (by decide) (fun _ => ?_) (fun z => absurd hc19 z)
      exact (kb_mm_flying_b62 X hKs hlk hret hnm) p3 _ _ _ _ _ _ _ _ hw (lh_pk hl [3] rfl) h hci hcj
    · rw [if_neg hc19] at h
      refine lv_if_eq (tgt := 62) X.1 X.2.1 dd_mm_flying_19 (by decide) (fun z => absurd z hc19) (fun _ => ?_)
      refine rr_aldn X dd_mm_flying_22 rfl (lv_at hl.1 0 rfl) ?_
      refine lv_iload_n X.1 X.2.1 dd_mm_flying_23 rfl (lv_at hl.1 2 rfl) ?_
      obtain ⟨t20, ht20, h⟩ := st_g_some h
      obtain ⟨t10, t11, t12, t13, t14, t15, ht10, h, ei, ej⟩ := st_b_some h
      refine rr_callV (n := 1) (As := [(.int p2)]) (rest := []) X hw (kn_ok D ac a0 gl) hKs (kc_mm_vat l D ac a0 gl p0 p2 _ _ _ _ _ ht10) tb_good tw_516 tw_469 tw_517 tw_518 se_54 ht20 (by decide +kernel) rfl (show 0 + 1 ≤ _ ∧ 8 + (2 + 11) + 0 ≤ _ from ⟨Nat.le_of_ble_eq_true rfl, Nat.le_of_ble_eq_true rfl⟩) (show t8 + t12 ≤ iT ∧ t9 + t13 ≤ jT from ⟨ar_1 hci ei, ar_1 hcj ej⟩) hl.1.1 (by simp [rf_cat, ic_cat]) rfl dd_mm_flying_24 (sk := [(.int t10)]) rfl (fun H locs hw => ?_)
      have hci : t8 + t12 + t14 = iT := ar_2 hci ei
      have hcj : t9 + t13 + t15 = jT := ar_2 hcj ej
      clear ei ej
      generalize t8 + t12 = t16 at hci ⊢
      generalize t9 + t13 = t17 at hcj ⊢
      by_cases hc27 : t10 = 0
      · rw [if_pos hc27] at h
        refine lv_if_eq (tgt := 62) X.1 X.2.1 dd_mm_flying_27 (by decide) (fun _ => ?_) (fun z => absurd hc27 z)
        exact (kb_mm_flying_b62 X hKs hlk hret hnm) p3 _ _ _ _ _ _ _ _ hw (lh_pk hl [3] rfl) h hci hcj
      · rw [if_neg hc27] at h
        refine lv_if_eq (tgt := 62) X.1 X.2.1 dd_mm_flying_27 (by decide) (fun z => absurd z hc27) (fun _ => ?_)
        refine rr_aldn X dd_mm_flying_30 rfl (lv_at hl.1 0 rfl) ?_
        obtain ⟨t18, ht18, h⟩ := st_g_some h
        refine rr_getq X hw ff_10_25 ht18 tw_445 (Or.inl rfl) dd_mm_flying_31 ?_
        refine lv_iload X.1 X.2.1 dd_mm_flying_34 (lv_at hl.1 4 rfl) ?_
        obtain ⟨t19, ht19, h⟩ := st_g_some h
        refine rr_bald (t := 1) X hw rfl ht19 dd_mm_flying_36 ?_
        refine lv_bipush (v := (16 : Int32)) X.1 X.2.1 dd_mm_flying_37 (by decide) ?_
        refine lv_irem X.1 X.2.1 dd_mm_flying_39 (by decide) ?_
        refine lv_iconst (v := (4 : Int32)) X.1 X.2.1 dd_mm_flying_40 (by decide) ?_
        refine lv_iload_n X.1 X.2.1 dd_mm_flying_41 rfl (lv_at hl.1 1 rfl) ?_
        refine lv_imul X.1 X.2.1 dd_mm_flying_42 ?_
        refine lv_iload_n X.1 X.2.1 dd_mm_flying_43 rfl (lv_at hl.1 2 rfl) ?_
        refine lv_iadd X.1 X.2.1 dd_mm_flying_44 ?_
        by_cases hc45 : (t19 - t19 / (16 : Int32) * (16 : Int32)) = (((4 : Int32) * p1) + p2)
        · rw [if_pos hc45] at h
          refine lv_icmp_ne (tgt := 54) X.1 X.2.1 dd_mm_flying_45 (by decide) (fun z => absurd hc45 z) (fun _ => ?_)
          refine lv_iload_n X.1 X.2.1 dd_mm_flying_48 rfl (lv_at hl.1 3 rfl) ?_
          refine lv_iconst (v := (1 : Int32)) X.1 X.2.1 dd_mm_flying_49 (by decide) ?_
          refine lv_iadd X.1 X.2.1 dd_mm_flying_50 ?_
          refine lv_goto (tgt := 55) X.1 X.2.1 dd_mm_flying_51 (by decide) ?_
          exact (kb_mm_flying_b55 X hKs hlk hret hnm hr5) (p0, p1, p2, p4, (p3 + (1 : Int32))) _ _ _ _ _ _ _ _ hw (lh_pk hl [0, 1, 2, 4] rfl) h hci hcj
        · rw [if_neg hc45] at h
          refine lv_icmp_ne (tgt := 54) X.1 X.2.1 dd_mm_flying_45 (by decide) (fun _ => ?_) (fun z => absurd z hc45)
          refine lv_iload_n X.1 X.2.1 dd_mm_flying_54 rfl (lv_at hl.1 3 rfl) ?_
          exact (kb_mm_flying_b55 X hKs hlk hret hnm hr5) (p0, p1, p2, p4, p3) _ _ _ _ _ _ _ _ hw (lh_pk hl [0, 1, 2, 4] rfl) h hci hcj
set_option maxHeartbeats 4000000 in
set_option maxRecDepth 100000 in
theorem kc_mm_flying (l : Launch) (D : va_G) (ac : Nat → ClassId) (a0 : Nat) (gl : gl_T) (v0 : Option Nat) (v1 : Int32) (v2 : Int32) (st : st_S) (rF : Int32) (stF : st_S) (iT jT : Nat) (h : mm_flying gl v0 v1 v2 st = some (rF, stF, iT, jT)) :
    ct_ l ⟨"PromiseVatsModel", "flying", "(II)I"⟩ (Cond.code ⟨"PromiseVatsModel", "flying", "(II)I"⟩ prog_12_method_33_code 5 (Option.some FieldType.int) :: tb_) 1 21 D cl_ ac a0 (kn_ D ac a0 gl) [(va_rf v0), (.int v1), (.int v2)] st (vb_i rF) stF iT jT := by
  refine ct_of (kn_ok D ac a0 gl) (plainFor_of_name (by decide +kernel)) (by simp [rf_cat, ic_cat]) (by simp) ?_
  intro p e s m args below meth c ls X hw hKs hlk hret hnm hl
  unfold mm_flying at h
  have hl : lh_ ls 5 [(0, (va_rf v0)), (1, (.int v1)), (2, (.int v2))] := hl
  obtain ⟨z0, hz0⟩ : ∃ z : Nat, 0 = z := ⟨0, rfl⟩
  obtain ⟨z1, hz1⟩ : ∃ z : Nat, 0 = z := ⟨0, rfl⟩
  refine W.cs hz0 hz1 ?_
  have hci : z0 + iT = iT := by omega
  have hcj : z1 + jT = jT := by omega
  refine lv_iconst (v := (0 : Int32)) X.1 X.2.1 dd_mm_flying_0 (by decide) ?_
  refine rr_istn (lv' := [(3, (.int (0 : Int32))), (0, (va_rf v0)), (1, (.int v1)), (2, (.int v2))]) X dd_mm_flying_1 rfl hl (by decide) rfl (fun ls hl => ?_)
  refine lv_iconst (v := (0 : Int32)) X.1 X.2.1 dd_mm_flying_2 (by decide) ?_
  refine rr_ist (lv' := [(4, (.int (0 : Int32))), (3, (.int (0 : Int32))), (0, (va_rf v0)), (1, (.int v1)), (2, (.int v2))]) X dd_mm_flying_3 hl (by decide) rfl (fun ls hl => ?_)
  exact (kb_mm_flying_b5 X hKs hlk hret hnm) (v0, v1, v2, (0 : Int32), (0 : Int32)) _ _ _ _ _ _ _ _ hw (lh_pk hl [2, 3, 4, 1, 0] rfl) h hci hcj
/-! PromiseVatsModel.counts(III)Z -/
theorem dd_mm_counts_0 : decode prog_12_method_34_code 0 = .ok (.iload_n 2, 1) := by decide +kernel
theorem dd_mm_counts_1 : decode prog_12_method_34_code 1 = .ok (.iconst 3, 1) := by decide +kernel
theorem dd_mm_counts_2 : decode prog_12_method_34_code 2 = .ok (.if_icmp .ne 22, 3) := by decide +kernel
theorem dd_mm_counts_5 : decode prog_12_method_34_code 5 = .ok (.aload_n 0, 1) := by decide +kernel
theorem dd_mm_counts_6 : decode prog_12_method_34_code 6 = .ok (.getfield 48, 3) := by decide +kernel
theorem dd_mm_counts_9 : decode prog_12_method_34_code 9 = .ok (.iconst 4, 1) := by decide +kernel
theorem dd_mm_counts_10 : decode prog_12_method_34_code 10 = .ok (.iload_n 3, 1) := by decide +kernel
theorem dd_mm_counts_11 : decode prog_12_method_34_code 11 = .ok (.imul, 1) := by decide +kernel
theorem dd_mm_counts_12 : decode prog_12_method_34_code 12 = .ok (.iload_n 1, 1) := by decide +kernel
theorem dd_mm_counts_13 : decode prog_12_method_34_code 13 = .ok (.iadd, 1) := by decide +kernel
theorem dd_mm_counts_14 : decode prog_12_method_34_code 14 = .ok (.iaload, 1) := by decide +kernel
theorem dd_mm_counts_15 : decode prog_12_method_34_code 15 = .ok (.ifCond .le 7, 3) := by decide +kernel
theorem dd_mm_counts_18 : decode prog_12_method_34_code 18 = .ok (.iconst 1, 1) := by decide +kernel
theorem dd_mm_counts_19 : decode prog_12_method_34_code 19 = .ok (.goto 4, 3) := by decide +kernel
theorem dd_mm_counts_22 : decode prog_12_method_34_code 22 = .ok (.iconst 0, 1) := by decide +kernel
theorem dd_mm_counts_23 : decode prog_12_method_34_code 23 = .ok (.ireturn, 1) := by decide +kernel
theorem dd_mm_counts_24 : decode prog_12_method_34_code 24 = .ok (.aload_n 0, 1) := by decide +kernel
theorem dd_mm_counts_25 : decode prog_12_method_34_code 25 = .ok (.iload_n 3, 1) := by decide +kernel
theorem dd_mm_counts_26 : decode prog_12_method_34_code 26 = .ok (.invokevirtual 193, 3) := by decide +kernel
theorem dd_mm_counts_29 : decode prog_12_method_34_code 29 = .ok (.ifCond .eq 13, 3) := by decide +kernel
theorem dd_mm_counts_32 : decode prog_12_method_34_code 32 = .ok (.aload_n 0, 1) := by decide +kernel
theorem dd_mm_counts_33 : decode prog_12_method_34_code 33 = .ok (.getfield 19, 3) := by decide +kernel
theorem dd_mm_counts_36 : decode prog_12_method_34_code 36 = .ok (.iload_n 3, 1) := by decide +kernel
theorem dd_mm_counts_37 : decode prog_12_method_34_code 37 = .ok (.baload, 1) := by decide +kernel
theorem dd_mm_counts_38 : decode prog_12_method_34_code 38 = .ok (.iload_n 1, 1) := by decide +kernel
theorem dd_mm_counts_39 : decode prog_12_method_34_code 39 = .ok (.if_icmp .eq 5, 3) := by decide +kernel
theorem dd_mm_counts_42 : decode prog_12_method_34_code 42 = .ok (.iconst 0, 1) := by decide +kernel
theorem dd_mm_counts_43 : decode prog_12_method_34_code 43 = .ok (.ireturn, 1) := by decide +kernel
theorem dd_mm_counts_44 : decode prog_12_method_34_code 44 = .ok (.iload_n 2, 1) := by decide +kernel
theorem dd_mm_counts_45 : decode prog_12_method_34_code 45 = .ok (.ifCond .ne 9, 3) := by decide +kernel
theorem dd_mm_counts_48 : decode prog_12_method_34_code 48 = .ok (.iload_n 3, 1) := by decide +kernel
theorem dd_mm_counts_49 : decode prog_12_method_34_code 49 = .ok (.bipush 60, 2) := by decide +kernel
theorem dd_mm_counts_51 : decode prog_12_method_34_code 51 = .ok (.if_icmp .le 43, 3) := by decide +kernel
theorem dd_mm_counts_54 : decode prog_12_method_34_code 54 = .ok (.iload_n 2, 1) := by decide +kernel
theorem dd_mm_counts_55 : decode prog_12_method_34_code 55 = .ok (.iconst 1, 1) := by decide +kernel
theorem dd_mm_counts_56 : decode prog_12_method_34_code 56 = .ok (.if_icmp .ne 18, 3) := by decide +kernel
theorem dd_mm_counts_59 : decode prog_12_method_34_code 59 = .ok (.iload_n 3, 1) := by decide +kernel
theorem dd_mm_counts_60 : decode prog_12_method_34_code 60 = .ok (.bipush 100, 2) := by decide +kernel
theorem dd_mm_counts_62 : decode prog_12_method_34_code 62 = .ok (.if_icmp .le 12, 3) := by decide +kernel
theorem dd_mm_counts_65 : decode prog_12_method_34_code 65 = .ok (.aload_n 0, 1) := by decide +kernel
theorem dd_mm_counts_66 : decode prog_12_method_34_code 66 = .ok (.getfield 27, 3) := by decide +kernel
theorem dd_mm_counts_69 : decode prog_12_method_34_code 69 = .ok (.iload_n 3, 1) := by decide +kernel
theorem dd_mm_counts_70 : decode prog_12_method_34_code 70 = .ok (.baload, 1) := by decide +kernel
theorem dd_mm_counts_71 : decode prog_12_method_34_code 71 = .ok (.ifCond .eq 23, 3) := by decide +kernel
theorem dd_mm_counts_74 : decode prog_12_method_34_code 74 = .ok (.iload_n 2, 1) := by decide +kernel
theorem dd_mm_counts_75 : decode prog_12_method_34_code 75 = .ok (.iconst 2, 1) := by decide +kernel
theorem dd_mm_counts_76 : decode prog_12_method_34_code 76 = .ok (.if_icmp .ne 22, 3) := by decide +kernel
theorem dd_mm_counts_79 : decode prog_12_method_34_code 79 = .ok (.iload_n 3, 1) := by decide +kernel
theorem dd_mm_counts_80 : decode prog_12_method_34_code 80 = .ok (.bipush 100, 2) := by decide +kernel
theorem dd_mm_counts_82 : decode prog_12_method_34_code 82 = .ok (.if_icmp .le 16, 3) := by decide +kernel
theorem dd_mm_counts_85 : decode prog_12_method_34_code 85 = .ok (.aload_n 0, 1) := by decide +kernel
theorem dd_mm_counts_86 : decode prog_12_method_34_code 86 = .ok (.getfield 27, 3) := by decide +kernel
theorem dd_mm_counts_89 : decode prog_12_method_34_code 89 = .ok (.iload_n 3, 1) := by decide +kernel
theorem dd_mm_counts_90 : decode prog_12_method_34_code 90 = .ok (.baload, 1) := by decide +kernel
theorem dd_mm_counts_91 : decode prog_12_method_34_code 91 = .ok (.ifCond .eq 7, 3) := by decide +kernel
theorem dd_mm_counts_94 : decode prog_12_method_34_code 94 = .ok (.iconst 1, 1) := by decide +kernel
theorem dd_mm_counts_95 : decode prog_12_method_34_code 95 = .ok (.goto 4, 3) := by decide +kernel
theorem dd_mm_counts_98 : decode prog_12_method_34_code 98 = .ok (.iconst 0, 1) := by decide +kernel
theorem dd_mm_counts_99 : decode prog_12_method_34_code 99 = .ok (.ireturn, 1) := by decide +kernel
set_option maxHeartbeats 4000000 in
set_option maxRecDepth 100000 in
theorem kb_mm_counts_b42 {p : Program} {l : Launch} {e : Env} {s : State} {m : MethodId} {args : Array Value} {below : List Frame} {meth : Method} {c : Code} {D : va_G} {ac : Nat → ClassId} {a0 : Nat} {gl : gl_T} {rF : Int32} {stF : st_S} {iT jT : Nat}
    (X : cx_ p s m args c prog_12_method_34_code 4 "PromiseVatsModel" tb_ D cl_ (ty_ ac)) (hKs : kn_ D ac a0 gl s) (hlk : meth.locks = false) (hret : meth.sig.returnType = (Option.some FieldType.boolean)) (hnm : meth.name = "counts") : wk_ p l e 2 42 s m args below meth c D cl_ ac a0 4 vb_i rF stF iT jT 42 (fun x : Unit => []) (fun x : Unit => []) (fun _ : Unit => mm_counts_b42 gl) := by
  intro x st H locs cells slots i j ls hw hl h hci hcj
  have h : mm_counts_b42 gl  st = some (rF, stF, i, j) := h
  unfold mm_counts_b42 at h
  have hl : lh_ ls 4 [] := hl
  refine W.eq (g2 := F0 m 42 ls []) rfl ?_
  refine lv_iconst (v := (0 : Int32)) X.1 X.2.1 dd_mm_counts_42 (by decide) ?_
  obtain ⟨rfl, rfl, rfl, rfl⟩ := st_r_some h
  exact rr_iret X hw hlk hret (by decide) hci hcj dd_mm_counts_43
set_option maxHeartbeats 4000000 in
set_option maxRecDepth 100000 in
theorem kb_mm_counts_b94 {p : Program} {l : Launch} {e : Env} {s : State} {m : MethodId} {args : Array Value} {below : List Frame} {meth : Method} {c : Code} {D : va_G} {ac : Nat → ClassId} {a0 : Nat} {gl : gl_T} {rF : Int32} {stF : st_S} {iT jT : Nat}
    (X : cx_ p s m args c prog_12_method_34_code 4 "PromiseVatsModel" tb_ D cl_ (ty_ ac)) (hKs : kn_ D ac a0 gl s) (hlk : meth.locks = false) (hret : meth.sig.returnType = (Option.some FieldType.boolean)) (hnm : meth.name = "counts") : wk_ p l e 2 42 s m args below meth c D cl_ ac a0 4 vb_i rF stF iT jT 94 (fun x : Unit => []) (fun x : Unit => []) (fun _ : Unit => mm_counts_b94 gl) := by
  intro x st H locs cells slots i j ls hw hl h hci hcj
  have h : mm_counts_b94 gl  st = some (rF, stF, i, j) := h
  unfold mm_counts_b94 at h
  have hl : lh_ ls 4 [] := hl
  refine W.eq (g2 := F0 m 94 ls []) rfl ?_
  refine lv_iconst (v := (1 : Int32)) X.1 X.2.1 dd_mm_counts_94 (by decide) ?_
  refine lv_goto (tgt := 99) X.1 X.2.1 dd_mm_counts_95 (by decide) ?_
  obtain ⟨rfl, rfl, rfl, rfl⟩ := st_r_some h
  exact rr_iret X hw hlk hret (by decide) hci hcj dd_mm_counts_99
set_option maxHeartbeats 4000000 in
set_option maxRecDepth 100000 in
theorem kb_mm_counts_b98 {p : Program} {l : Launch} {e : Env} {s : State} {m : MethodId} {args : Array Value} {below : List Frame} {meth : Method} {c : Code} {D : va_G} {ac : Nat → ClassId} {a0 : Nat} {gl : gl_T} {rF : Int32} {stF : st_S} {iT jT : Nat}
    (X : cx_ p s m args c prog_12_method_34_code 4 "PromiseVatsModel" tb_ D cl_ (ty_ ac)) (hKs : kn_ D ac a0 gl s) (hlk : meth.locks = false) (hret : meth.sig.returnType = (Option.some FieldType.boolean)) (hnm : meth.name = "counts") : wk_ p l e 2 42 s m args below meth c D cl_ ac a0 4 vb_i rF stF iT jT 98 (fun x : Unit => []) (fun x : Unit => []) (fun _ : Unit => mm_counts_b98 gl) := by
  intro x st H locs cells slots i j ls hw hl h hci hcj
  have h : mm_counts_b98 gl  st = some (rF, stF, i, j) := h
  unfold mm_counts_b98 at h
  have hl : lh_ ls 4 [] := hl
  refine W.eq (g2 := F0 m 98 ls []) rfl ?_
  refine lv_iconst (v := (0 : Int32)) X.1 X.2.1 dd_mm_counts_98 (by decide) ?_
  obtain ⟨rfl, rfl, rfl, rfl⟩ := st_r_some h
  exact rr_iret X hw hlk hret (by decide) hci hcj dd_mm_counts_99
set_option maxHeartbeats 4000000 in
set_option maxRecDepth 100000 in
theorem kb_mm_counts_b74 {p : Program} {l : Launch} {e : Env} {s : State} {m : MethodId} {args : Array Value} {below : List Frame} {meth : Method} {c : Code} {D : va_G} {ac : Nat → ClassId} {a0 : Nat} {gl : gl_T} {rF : Int32} {stF : st_S} {iT jT : Nat}
    (X : cx_ p s m args c prog_12_method_34_code 4 "PromiseVatsModel" tb_ D cl_ (ty_ ac)) (hKs : kn_ D ac a0 gl s) (hlk : meth.locks = false) (hret : meth.sig.returnType = (Option.some FieldType.boolean)) (hnm : meth.name = "counts") : wk_ p l e 2 42 s m args below meth c D cl_ ac a0 4 vb_i rF stF iT jT 74 (fun x : Option Nat × Int32 × Int32 => [(0, (va_rf x.1)), (2, (.int x.2.1)), (3, (.int x.2.2))]) (fun x : Option Nat × Int32 × Int32 => []) (fun x : Option Nat × Int32 × Int32 => mm_counts_b74 gl x.1 x.2.1 x.2.2) := by
  intro x st H locs cells slots i j ls hw hl h hci hcj
  obtain ⟨p0, p2, p3⟩ := x
  have h : mm_counts_b74 gl p0 p2 p3 st = some (rF, stF, i, j) := h
  unfold mm_counts_b74 at h
  have hl : lh_ ls 4 [(0, (va_rf p0)), (2, (.int p2)), (3, (.int p3))] := hl
  refine W.eq (g2 := F0 m 74 ls []) rfl ?_
  refine lv_iload_n X.1 X.2.1 dd_mm_counts_74 rfl (lv_at hl.1 1 rfl) ?_
  refine lv_iconst (v := (2 : Int32)) X.1 X.2.1 dd_mm_counts_75 (by decide) ?_
  by_cases hc76 : p2 = (2 : Int32)
  · rw [if_pos hc76] at h
    refine lv_icmp_ne (tgt := 98) X.1 X.2.1 dd_mm_counts_76 (by decide) (fun z => absurd hc76 z) (fun _ => ?_)
    refine lv_iload_n X.1 X.2.1 dd_mm_counts_79 rfl (lv_at hl.1 2 rfl) ?_
    refine lv_bipush (v := (100 : Int32)) X.1 X.2.1 dd_mm_counts_80 (by decide) ?_
    by_cases hc82 : p3 ≤ (100 : Int32)
    · rw [if_pos hc82] at h
      refine lv_icmp_le (tgt := 98) X.1 X.2.1 dd_mm_counts_82 (by decide) (fun _ => ?_) (fun z => absurd hc82 z)
      exact (kb_mm_counts_b98 X hKs hlk hret hnm) () _ _ _ _ _ _ _ _ hw (lh_pk hl [] rfl) h hci hcj
    · rw [if_neg hc82] at h
      refine lv_icmp_le (tgt := 98) X.1 X.2.1 dd_mm_counts_82 (by decide) (fun z => absurd z hc82) (fun _ => ?_)
      refine rr_aldn X dd_mm_counts_85 rfl (lv_at hl.1 0 rfl) ?_
      obtain ⟨t16, ht16, h⟩ := st_g_some h
      refine rr_getq X hw ff_10_8 ht16 tw_459 (Or.inl rfl) dd_mm_counts_86 ?_
      refine lv_iload_n X.1 X.2.1 dd_mm_counts_89 rfl (lv_at hl.1 2 rfl) ?_
      obtain ⟨t17, ht17, h⟩ := st_g_some h
      refine rr_zald (t := 2) X hw rfl ht17 dd_mm_counts_90 ?_
      by_cases hc91 : t17 = 0
      · rw [if_pos hc91] at h
        refine lv_if_eq (tgt := 98) X.1 X.2.1 dd_mm_counts_91 (by decide) (fun _ => ?_) (fun z => absurd hc91 z)
        exact (kb_mm_counts_b98 X hKs hlk hret hnm) () _ _ _ _ _ _ _ _ hw (lh_pk hl [] rfl) h hci hcj
      · rw [if_neg hc91] at h
        refine lv_if_eq (tgt := 98) X.1 X.2.1 dd_mm_counts_91 (by decide) (fun z => absurd z hc91) (fun _ => ?_)
        exact (kb_mm_counts_b94 X hKs hlk hret hnm) () _ _ _ _ _ _ _ _ hw (lh_pk hl [] rfl) h hci hcj
  · rw [if_neg hc76] at h
    refine lv_icmp_ne (tgt := 98) X.1 X.2.1 dd_mm_counts_76 (by decide) (fun _ => ?_) (fun z => absurd z hc76)
    exact (kb_mm_counts_b98 X hKs hlk hret hnm) () _ _ _ _ _ _ _ _ hw (lh_pk hl [] rfl) h hci hcj
set_option maxHeartbeats 4000000 in
set_option maxRecDepth 100000 in
theorem kb_mm_counts_b54 {p : Program} {l : Launch} {e : Env} {s : State} {m : MethodId} {args : Array Value} {below : List Frame} {meth : Method} {c : Code} {D : va_G} {ac : Nat → ClassId} {a0 : Nat} {gl : gl_T} {rF : Int32} {stF : st_S} {iT jT : Nat}
    (X : cx_ p s m args c prog_12_method_34_code 4 "PromiseVatsModel" tb_ D cl_ (ty_ ac)) (hKs : kn_ D ac a0 gl s) (hlk : meth.locks = false) (hret : meth.sig.returnType = (Option.some FieldType.boolean)) (hnm : meth.name = "counts") : wk_ p l e 2 42 s m args below meth c D cl_ ac a0 4 vb_i rF stF iT jT 54 (fun x : Option Nat × Int32 × Int32 => [(0, (va_rf x.1)), (2, (.int x.2.1)), (3, (.int x.2.2))]) (fun x : Option Nat × Int32 × Int32 => []) (fun x : Option Nat × Int32 × Int32 => mm_counts_b54 gl x.1 x.2.1 x.2.2) := by
  intro x st H locs cells slots i j ls hw hl h hci hcj
  obtain ⟨p0, p2, p3⟩ := x
  have h : mm_counts_b54 gl p0 p2 p3 st = some (rF, stF, i, j) := h
  unfold mm_counts_b54 at h
  have hl : lh_ ls 4 [(0, (va_rf p0)), (2, (.int p2)), (3, (.int p3))] := hl
  refine W.eq (g2 := F0 m 54 ls []) rfl ?_
  refine lv_iload_n X.1 X.2.1 dd_mm_counts_54 rfl (lv_at hl.1 1 rfl) ?_
  refine lv_iconst (v := (1 : Int32)) X.1 X.2.1 dd_mm_counts_55 (by decide) ?_
  by_cases hc56 : p2 = (1 : Int32)
  · rw [if_pos hc56] at h
    refine lv_icmp_ne (tgt := 74) X.1 X.2.1 dd_mm_counts_56 (by decide) (fun z => absurd hc56 z) (fun _ => ?_)
    refine lv_iload_n X.1 X.2.1 dd_mm_counts_59 rfl (lv_at hl.1 2 rfl) ?_
    refine lv_bipush (v := (100 : Int32)) X.1 X.2.1 dd_mm_counts_60 (by decide) ?_
    by_cases hc62 : p3 ≤ (100 : Int32)
    · rw [if_pos hc62] at h
      refine lv_icmp_le (tgt := 74) X.1 X.2.1 dd_mm_counts_62 (by decide) (fun _ => ?_) (fun z => absurd hc62 z)
      exact (kb_mm_counts_b74 X hKs hlk hret hnm) (p0, p2, p3) _ _ _ _ _ _ _ _ hw (lh_pk hl [0, 1, 2] rfl) h hci hcj
    · rw [if_neg hc62] at h
      refine lv_icmp_le (tgt := 74) X.1 X.2.1 dd_mm_counts_62 (by decide) (fun z => absurd z hc62) (fun _ => ?_)
      refine rr_aldn X dd_mm_counts_65 rfl (lv_at hl.1 0 rfl) ?_
      obtain ⟨t14, ht14, h⟩ := st_g_some h
      refine rr_getq X hw ff_10_8 ht14 tw_459 (Or.inl rfl) dd_mm_counts_66 ?_
      refine lv_iload_n X.1 X.2.1 dd_mm_counts_69 rfl (lv_at hl.1 2 rfl) ?_
      obtain ⟨t15, ht15, h⟩ := st_g_some h
      refine rr_zald (t := 2) X hw rfl ht15 dd_mm_counts_70 ?_
      by_cases hc71 : t15 = 0
      · rw [if_pos hc71] at h
        refine lv_if_eq (tgt := 94) X.1 X.2.1 dd_mm_counts_71 (by decide) (fun _ => ?_) (fun z => absurd hc71 z)
        exact (kb_mm_counts_b94 X hKs hlk hret hnm) () _ _ _ _ _ _ _ _ hw (lh_pk hl [] rfl) h hci hcj
      · rw [if_neg hc71] at h
        refine lv_if_eq (tgt := 94) X.1 X.2.1 dd_mm_counts_71 (by decide) (fun z => absurd z hc71) (fun _ => ?_)
        exact (kb_mm_counts_b74 X hKs hlk hret hnm) (p0, p2, p3) _ _ _ _ _ _ _ _ hw (lh_pk hl [0, 1, 2] rfl) h hci hcj
  · rw [if_neg hc56] at h
    refine lv_icmp_ne (tgt := 74) X.1 X.2.1 dd_mm_counts_56 (by decide) (fun _ => ?_) (fun z => absurd z hc56)
    exact (kb_mm_counts_b74 X hKs hlk hret hnm) (p0, p2, p3) _ _ _ _ _ _ _ _ hw (lh_pk hl [0, 1, 2] rfl) h hci hcj
set_option maxHeartbeats 4000000 in
set_option maxRecDepth 100000 in
theorem kc_mm_counts (l : Launch) (D : va_G) (ac : Nat → ClassId) (a0 : Nat) (gl : gl_T) (v0 : Option Nat) (v1 : Int32) (v2 : Int32) (v3 : Int32) (st : st_S) (rF : Int32) (stF : st_S) (iT jT : Nat) (h : mm_counts gl v0 v1 v2 v3 st = some (rF, stF, iT, jT)) :
    ct_ l ⟨"PromiseVatsModel", "counts", "(III)Z"⟩ (Cond.code ⟨"PromiseVatsModel", "counts", "(III)Z"⟩ prog_12_method_34_code 4 (Option.some FieldType.boolean) :: tb_) 2 42 D cl_ ac a0 (kn_ D ac a0 gl) [(va_rf v0), (.int v1), (.int v2), (.int v3)] st (vb_i rF) stF iT jT := by
  refine ct_of (kn_ok D ac a0 gl) (plainFor_of_name (by decide +kernel)) (by simp [rf_cat, ic_cat]) (by simp) ?_
  intro p e s m args below meth c ls X hw hKs hlk hret hnm hl
  unfold mm_counts at h
  have hl : lh_ ls 4 [(0, (va_rf v0)), (1, (.int v1)), (2, (.int v2)), (3, (.int v3))] := hl
  obtain ⟨z0, hz0⟩ : ∃ z : Nat, 0 = z := ⟨0, rfl⟩
  obtain ⟨z1, hz1⟩ : ∃ z : Nat, 0 = z := ⟨0, rfl⟩
  refine W.cs hz0 hz1 ?_
  have hci : z0 + iT = iT := by omega
  have hcj : z1 + jT = jT := by omega
  refine lv_iload_n X.1 X.2.1 dd_mm_counts_0 rfl (lv_at hl.1 2 rfl) ?_
  refine lv_iconst (v := (3 : Int32)) X.1 X.2.1 dd_mm_counts_1 (by decide) ?_
  by_cases hc2 : v2 = (3 : Int32)
  · rw [if_pos hc2] at h
    refine lv_icmp_ne (tgt := 24) X.1 X.2.1 dd_mm_counts_2 (by decide) (fun z => absurd hc2 z) (fun _ => ?_)
    refine rr_aldn X dd_mm_counts_5 rfl (lv_at hl.1 0 rfl) ?_
    obtain ⟨t1, ht1, h⟩ := st_g_some h
    refine rr_getq X hw ff_10_16 ht1 tw_452 (Or.inl rfl) dd_mm_counts_6 ?_
    refine lv_iconst (v := (4 : Int32)) X.1 X.2.1 dd_mm_counts_9 (by decide) ?_
    refine lv_iload_n X.1 X.2.1 dd_mm_counts_10 rfl (lv_at hl.1 3 rfl) ?_
    refine lv_imul X.1 X.2.1 dd_mm_counts_11 ?_
    refine lv_iload_n X.1 X.2.1 dd_mm_counts_12 rfl (lv_at hl.1 1 rfl) ?_
    refine lv_iadd X.1 X.2.1 dd_mm_counts_13 ?_
    obtain ⟨t2, ht2, h⟩ := st_g_some h
    refine rr_iald (t := 0) X hw rfl ht2 dd_mm_counts_14 ?_
    by_cases hc15 : t2 ≤ 0
    · rw [if_pos hc15] at h
      refine lv_if_le (tgt := 22) X.1 X.2.1 dd_mm_counts_15 (by decide) (fun _ => ?_) (fun z => absurd hc15 z)
      refine lv_iconst (v := (0 : Int32)) X.1 X.2.1 dd_mm_counts_22 (by decide) ?_
      obtain ⟨rfl, rfl, rfl, rfl⟩ := st_r_some h
      exact rr_iret X hw hlk hret (by decide) hci hcj dd_mm_counts_23
    · rw [if_neg hc15] at h
      refine lv_if_le (tgt := 22) X.1 X.2.1 dd_mm_counts_15 (by decide) (fun z => absurd z hc15) (fun _ => ?_)
      refine lv_iconst (v := (1 : Int32)) X.1 X.2.1 dd_mm_counts_18 (by decide) ?_
      refine lv_goto (tgt := 23) X.1 X.2.1 dd_mm_counts_19 (by decide) ?_
      obtain ⟨rfl, rfl, rfl, rfl⟩ := st_r_some h
      exact rr_iret X hw hlk hret (by decide) hci hcj dd_mm_counts_23
  · rw [if_neg hc2] at h
    refine lv_icmp_ne (tgt := 24) X.1 X.2.1 dd_mm_counts_2 (by decide) (fun _ => ?_) (fun z => absurd z hc2)
    refine rr_aldn X dd_mm_counts_24 rfl (lv_at hl.1 0 rfl) ?_
    refine lv_iload_n X.1 X.2.1 dd_mm_counts_25 rfl (lv_at hl.1 3 rfl) ?_
    obtain ⟨t13, ht13, h⟩ := st_g_some h
    obtain ⟨t3, t4, t5, t6, t7, t8, ht3, h, ei, ej⟩ := st_b_some h
    refine rr_callV (n := 1) (As := [(.int v3)]) (rest := []) X hw (kn_ok D ac a0 gl) hKs (kc_mm_lives l D ac a0 gl v0 v3 _ _ _ _ _ ht3) tb_good tw_556 tw_469 tw_557 tw_558 se_63 ht13 (by decide +kernel) rfl (show 1 + 1 ≤ _ ∧ 8 + (2 + 11) + 21 ≤ _ from ⟨Nat.le_of_ble_eq_true rfl, Nat.le_of_ble_eq_true rfl⟩) (show z0 + t5 ≤ iT ∧ z1 + t6 ≤ jT from ⟨ar_1 hci ei, ar_1 hcj ej⟩) hl.1.1 (by simp [rf_cat, ic_cat]) rfl dd_mm_counts_26 (sk := [(.int t3)]) rfl (fun H locs hw => ?_)
    have hci : z0 + t5 + t7 = iT := ar_2 hci ei
    have hcj : z1 + t6 + t8 = jT := ar_2 hcj ej
    clear ei ej
    generalize z0 + t5 = t9 at hci ⊢
    generalize z1 + t6 = t10 at hcj ⊢
    by_cases hc29 : t3 = 0
    · rw [if_pos hc29] at h
      refine lv_if_eq (tgt := 42) X.1 X.2.1 dd_mm_counts_29 (by decide) (fun _ => ?_) (fun z => absurd hc29 z)
      exact (kb_mm_counts_b42 X hKs hlk hret hnm) () _ _ _ _ _ _ _ _ hw (lh_pk hl [] rfl) h hci hcj
    · rw [if_neg hc29] at h
      refine lv_if_eq (tgt := 42) X.1 X.2.1 dd_mm_counts_29 (by decide) (fun z => absurd z hc29) (fun _ => ?_)
      refine rr_aldn X dd_mm_counts_32 rfl (lv_at hl.1 0 rfl) ?_
      obtain ⟨t11, ht11, h⟩ := st_g_some h
      refine rr_getq X hw ff_10_6 ht11 tw_461 (Or.inl rfl) dd_mm_counts_33 ?_
      refine lv_iload_n X.1 X.2.1 dd_mm_counts_36 rfl (lv_at hl.1 3 rfl) ?_
      obtain ⟨t12, ht12, h⟩ := st_g_some h
      refine rr_bald (t := 1) X hw rfl ht12 dd_mm_counts_37 ?_
      refine lv_iload_n X.1 X.2.1 dd_mm_counts_38 rfl (lv_at hl.1 1 rfl) ?_
      by_cases hc39 : t12 = v1
      · rw [if_pos hc39] at h
        refine lv_icmp_eq (tgt := 44) X.1 X.2.1 dd_mm_counts_39 (by decide) (fun _ => ?_) (fun z => absurd hc39 z)
        refine lv_iload_n X.1 X.2.1 dd_mm_counts_44 rfl (lv_at hl.1 2 rfl) ?_
        by_cases hc45 : v2 = 0
        · rw [if_pos hc45] at h
          refine lv_if_ne (tgt := 54) X.1 X.2.1 dd_mm_counts_45 (by decide) (fun z => absurd hc45 z) (fun _ => ?_)
          refine lv_iload_n X.1 X.2.1 dd_mm_counts_48 rfl (lv_at hl.1 3 rfl) ?_
          refine lv_bipush (v := (60 : Int32)) X.1 X.2.1 dd_mm_counts_49 (by decide) ?_
          by_cases hc51 : v3 ≤ (60 : Int32)
          · rw [if_pos hc51] at h
            refine lv_icmp_le (tgt := 94) X.1 X.2.1 dd_mm_counts_51 (by decide) (fun _ => ?_) (fun z => absurd hc51 z)
            exact (kb_mm_counts_b94 X hKs hlk hret hnm) () _ _ _ _ _ _ _ _ hw (lh_pk hl [] rfl) h hci hcj
          · rw [if_neg hc51] at h
            refine lv_icmp_le (tgt := 94) X.1 X.2.1 dd_mm_counts_51 (by decide) (fun z => absurd z hc51) (fun _ => ?_)
            exact (kb_mm_counts_b54 X hKs hlk hret hnm) (v0, v2, v3) _ _ _ _ _ _ _ _ hw (lh_pk hl [0, 2, 3] rfl) h hci hcj
        · rw [if_neg hc45] at h
          refine lv_if_ne (tgt := 54) X.1 X.2.1 dd_mm_counts_45 (by decide) (fun _ => ?_) (fun z => absurd z hc45)
          exact (kb_mm_counts_b54 X hKs hlk hret hnm) (v0, v2, v3) _ _ _ _ _ _ _ _ hw (lh_pk hl [0, 2, 3] rfl) h hci hcj
      · rw [if_neg hc39] at h
        refine lv_icmp_eq (tgt := 44) X.1 X.2.1 dd_mm_counts_39 (by decide) (fun z => absurd z hc39) (fun _ => ?_)
        exact (kb_mm_counts_b42 X hKs hlk hret hnm) () _ _ _ _ _ _ _ _ hw (lh_pk hl [] rfl) h hci hcj
