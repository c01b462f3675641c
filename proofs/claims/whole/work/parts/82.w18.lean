/-! PromiseVats.releaseUnreached(I)V -/
theorem dd_xP_releaseUnreached_0 : decode prog_1_method_48_code 0 = .ok (.iconst 1, 1) := by decide +kernel
theorem dd_xP_releaseUnreached_1 : decode prog_1_method_48_code 1 = .ok (.istore_n 2, 1) := by decide +kernel
theorem dd_xP_releaseUnreached_2 : decode prog_1_method_48_code 2 = .ok (.iload_n 2, 1) := by decide +kernel
theorem dd_xP_releaseUnreached_3 : decode prog_1_method_48_code 3 = .ok (.aload_n 0, 1) := by decide +kernel
theorem dd_xP_releaseUnreached_4 : decode prog_1_method_48_code 4 = .ok (.getfield 32, 3) := by decide +kernel
theorem dd_xP_releaseUnreached_7 : decode prog_1_method_48_code 7 = .ok (.arraylength, 1) := by decide +kernel
theorem dd_xP_releaseUnreached_8 : decode prog_1_method_48_code 8 = .ok (.if_icmp .ge 68, 3) := by decide +kernel
theorem dd_xP_releaseUnreached_11 : decode prog_1_method_48_code 11 = .ok (.aload_n 0, 1) := by decide +kernel
theorem dd_xP_releaseUnreached_12 : decode prog_1_method_48_code 12 = .ok (.getfield 32, 3) := by decide +kernel
theorem dd_xP_releaseUnreached_15 : decode prog_1_method_48_code 15 = .ok (.iload_n 2, 1) := by decide +kernel
theorem dd_xP_releaseUnreached_16 : decode prog_1_method_48_code 16 = .ok (.aaload, 1) := by decide +kernel
theorem dd_xP_releaseUnreached_17 : decode prog_1_method_48_code 17 = .ok (.astore_n 3, 1) := by decide +kernel
theorem dd_xP_releaseUnreached_18 : decode prog_1_method_48_code 18 = .ok (.aload_n 3, 1) := by decide +kernel
theorem dd_xP_releaseUnreached_19 : decode prog_1_method_48_code 19 = .ok (.ifnull 51, 3) := by decide +kernel
theorem dd_xP_releaseUnreached_22 : decode prog_1_method_48_code 22 = .ok (.aload_n 3, 1) := by decide +kernel
theorem dd_xP_releaseUnreached_23 : decode prog_1_method_48_code 23 = .ok (.getfield 214, 3) := by decide +kernel
theorem dd_xP_releaseUnreached_26 : decode prog_1_method_48_code 26 = .ok (.iload_n 1, 1) := by decide +kernel
theorem dd_xP_releaseUnreached_27 : decode prog_1_method_48_code 27 = .ok (.iaload, 1) := by decide +kernel
theorem dd_xP_releaseUnreached_28 : decode prog_1_method_48_code 28 = .ok (.ifCond .le 42, 3) := by decide +kernel
theorem dd_xP_releaseUnreached_31 : decode prog_1_method_48_code 31 = .ok (.aload_n 3, 1) := by decide +kernel
theorem dd_xP_releaseUnreached_32 : decode prog_1_method_48_code 32 = .ok (.getfield 331, 3) := by decide +kernel
theorem dd_xP_releaseUnreached_35 : decode prog_1_method_48_code 35 = .ok (.ifCond .ne 35, 3) := by decide +kernel
theorem dd_xP_releaseUnreached_38 : decode prog_1_method_48_code 38 = .ok (.aload_n 0, 1) := by decide +kernel
theorem dd_xP_releaseUnreached_39 : decode prog_1_method_48_code 39 = .ok (.iload_n 1, 1) := by decide +kernel
theorem dd_xP_releaseUnreached_40 : decode prog_1_method_48_code 40 = .ok (.aload_n 3, 1) := by decide +kernel
theorem dd_xP_releaseUnreached_41 : decode prog_1_method_48_code 41 = .ok (.getfield 219, 3) := by decide +kernel
theorem dd_xP_releaseUnreached_44 : decode prog_1_method_48_code 44 = .ok (.new 177, 3) := by decide +kernel
theorem dd_xP_releaseUnreached_47 : decode prog_1_method_48_code 47 = .ok (.dup, 1) := by decide +kernel
theorem dd_xP_releaseUnreached_48 : decode prog_1_method_48_code 48 = .ok (.iconst 3, 1) := by decide +kernel
theorem dd_xP_releaseUnreached_49 : decode prog_1_method_48_code 49 = .ok (.aload_n 3, 1) := by decide +kernel
theorem dd_xP_releaseUnreached_50 : decode prog_1_method_48_code 50 = .ok (.aconst_null, 1) := by decide +kernel
theorem dd_xP_releaseUnreached_51 : decode prog_1_method_48_code 51 = .ok (.aload_n 3, 1) := by decide +kernel
theorem dd_xP_releaseUnreached_52 : decode prog_1_method_48_code 52 = .ok (.getfield 214, 3) := by decide +kernel
theorem dd_xP_releaseUnreached_55 : decode prog_1_method_48_code 55 = .ok (.iload_n 1, 1) := by decide +kernel
theorem dd_xP_releaseUnreached_56 : decode prog_1_method_48_code 56 = .ok (.iaload, 1) := by decide +kernel
theorem dd_xP_releaseUnreached_57 : decode prog_1_method_48_code 57 = .ok (.invokespecial 295, 3) := by decide +kernel
theorem dd_xP_releaseUnreached_60 : decode prog_1_method_48_code 60 = .ok (.invokevirtual 298, 3) := by decide +kernel
theorem dd_xP_releaseUnreached_63 : decode prog_1_method_48_code 63 = .ok (.aload_n 3, 1) := by decide +kernel
theorem dd_xP_releaseUnreached_64 : decode prog_1_method_48_code 64 = .ok (.getfield 214, 3) := by decide +kernel
theorem dd_xP_releaseUnreached_67 : decode prog_1_method_48_code 67 = .ok (.iload_n 1, 1) := by decide +kernel
theorem dd_xP_releaseUnreached_68 : decode prog_1_method_48_code 68 = .ok (.iconst 0, 1) := by decide +kernel
theorem dd_xP_releaseUnreached_69 : decode prog_1_method_48_code 69 = .ok (.iastore, 1) := by decide +kernel
theorem dd_xP_releaseUnreached_70 : decode prog_1_method_48_code 70 = .ok (.iinc 2 1, 3) := by decide +kernel
theorem dd_xP_releaseUnreached_73 : decode prog_1_method_48_code 73 = .ok (.goto (-71), 3) := by decide +kernel
theorem dd_xP_releaseUnreached_76 : decode prog_1_method_48_code 76 = .ok (.return_, 1) := by decide +kernel
set_option maxHeartbeats 4000000 in
set_option maxRecDepth 100000 in
theorem kb_xP_releaseUnreached_b70 {p : Program} {l : Launch} {e : Env} {s : State} {m : MethodId} {args : Array Value} {below : List Frame} {meth : Method} {c : Code} {D : va_G} {ac : Nat → ClassId} {a0 : Nat} {gl : gl_T} {rF : Unit} {stF : st_S} {iT jT : Nat} {rec2 : Option Nat × Int32 × Int32 → st_M (Unit)}
    (X : cx_ p s m args c prog_1_method_48_code 4 "PromiseVats" tb_ D cl_ (ty_ ac)) (hKs : kn_ D ac a0 gl s) (hlk : meth.locks = false) (hret : meth.sig.returnType = (Option.none : Option FieldType)) (hnm : meth.name = "releaseUnreached") (hr2 : wk_ p l e 8 214 s m args below meth c D cl_ ac a0 4 vb_u rF stF iT jT 2 (fun x : Option Nat × Int32 × Int32 => [(0, (va_rf x.1)), (1, (.int x.2.1)), (2, (.int x.2.2))]) (fun x : Option Nat × Int32 × Int32 => []) rec2) : wk_ p l e 8 214 s m args below meth c D cl_ ac a0 4 vb_u rF stF iT jT 70 (fun x : Option Nat × Int32 × Int32 => [(0, (va_rf x.1)), (1, (.int x.2.1)), (2, (.int x.2.2))]) (fun x : Option Nat × Int32 × Int32 => []) (fun x : Option Nat × Int32 × Int32 => xP_releaseUnreached_b70 gl rec2 x.1 x.2.1 x.2.2) := by
  intro x st H locs cells slots i j ls hw hl h hci hcj
  obtain ⟨p0, p1, p2⟩ := x
  have h : xP_releaseUnreached_b70 gl rec2 p0 p1 p2 st = some (rF, stF, i, j) := h
  unfold xP_releaseUnreached_b70 at h
  have hl : lh_ ls 4 [(0, (va_rf p0)), (1, (.int p1)), (2, (.int p2))] := hl
  refine W.eq (g2 := F0 m 70 ls []) rfl ?_
  refine rr_iinc (k := 2) (v := (p2 + (1 : Int32))) (lv' := [(2, (.int (p2 + (1 : Int32)))), (0, (va_rf p0)), (1, (.int p1))]) X dd_xP_releaseUnreached_70 hl rfl (by rw [show Int32.ofInt (1) = (1 : Int32) from by decide]) (by decide) rfl (fun ls hl => ?_)
  refine lv_goto (tgt := 2) X.1 X.2.1 dd_xP_releaseUnreached_73 (by decide) ?_
  exact hr2 (p0, p1, (p2 + (1 : Int32))) _ _ _ _ _ _ _ _ hw (lh_pk hl [1, 2, 0] rfl) h hci hcj
set_option maxHeartbeats 4000000 in
set_option maxRecDepth 100000 in
theorem kb_xP_releaseUnreached_b2 {p : Program} {l : Launch} {e : Env} {s : State} {m : MethodId} {args : Array Value} {below : List Frame} {meth : Method} {c : Code} {D : va_G} {ac : Nat → ClassId} {a0 : Nat} {gl : gl_T} {rF : Unit} {stF : st_S} {iT jT : Nat}
    (X : cx_ p s m args c prog_1_method_48_code 4 "PromiseVats" tb_ D cl_ (ty_ ac)) (hKs : kn_ D ac a0 gl s) (hlk : meth.locks = false) (hret : meth.sig.returnType = (Option.none : Option FieldType)) (hnm : meth.name = "releaseUnreached") : wk_ p l e 8 214 s m args below meth c D cl_ ac a0 4 vb_u rF stF iT jT 2 (fun x : Option Nat × Int32 × Int32 => [(0, (va_rf x.1)), (1, (.int x.2.1)), (2, (.int x.2.2))]) (fun x : Option Nat × Int32 × Int32 => []) (st_it (fun rec2 => (fun x : Option Nat × Int32 × Int32 => xP_releaseUnreached_b2 gl rec2 x.1 x.2.1 x.2.2)) fu_) := by
  refine wk_it ?_ _
  intro rec2 hr2 x st H locs cells slots i j ls hw hl h hci hcj
  obtain ⟨p0, p1, p2⟩ := x
  have h : xP_releaseUnreached_b2 gl rec2 p0 p1 p2 st = some (rF, stF, i, j) := h
  unfold xP_releaseUnreached_b2 at h
  have hl : lh_ ls 4 [(0, (va_rf p0)), (1, (.int p1)), (2, (.int p2))] := hl
  refine W.eq (g2 := F0 m 2 ls []) rfl ?_
  refine lv_iload_n X.1 X.2.1 dd_xP_releaseUnreached_2 rfl (lv_at hl.1 2 rfl) ?_
  refine rr_aldn X dd_xP_releaseUnreached_3 rfl (lv_at hl.1 0 rfl) ?_
  obtain ⟨t1, ht1, h⟩ := st_g_some h
  refine rr_getq X hw ff_0_2 ht1 tw_64 (Or.inl rfl) dd_xP_releaseUnreached_4 ?_
  obtain ⟨t2, ht2, h⟩ := st_g_some h
  refine rr_alen X hw (tl_6 ac) ht2 dd_xP_releaseUnreached_7 ?_
  by_cases hc8 : t2 ≤ p2
  · rw [if_pos hc8] at h
    refine lv_icmp_ge (tgt := 76) X.1 X.2.1 dd_xP_releaseUnreached_8 (by decide) (fun _ => ?_) (fun z => absurd hc8 z)
    obtain ⟨rfl, rfl, rfl, rfl⟩ := st_r_some h
    exact rr_vret X hw hlk hret hci hcj dd_xP_releaseUnreached_76
  · rw [if_neg hc8] at h
    refine lv_icmp_ge (tgt := 76) X.1 X.2.1 dd_xP_releaseUnreached_8 (by decide) (fun z => absurd z hc8) (fun _ => ?_)
    refine rr_aldn X dd_xP_releaseUnreached_11 rfl (lv_at hl.1 0 rfl) ?_
    obtain ⟨t3, ht3, h⟩ := st_g_some h
    refine rr_getq X hw ff_0_2 ht3 tw_64 (Or.inl rfl) dd_xP_releaseUnreached_12 ?_
    refine lv_iload_n X.1 X.2.1 dd_xP_releaseUnreached_15 rfl (lv_at hl.1 2 rfl) ?_
    obtain ⟨t4, ht4, h⟩ := st_g_some h
    refine rr_aald X hw (tq_6 ac) ht4 dd_xP_releaseUnreached_16 ?_
    refine rr_astn (lv' := [(3, (va_rf t4)), (0, (va_rf p0)), (1, (.int p1)), (2, (.int p2))]) X dd_xP_releaseUnreached_17 rfl hl (by decide) rfl (fun ls hl => ?_)
    refine rr_aldn X dd_xP_releaseUnreached_18 rfl (lv_at hl.1 0 rfl) ?_
    by_cases hc19 : t4 = none
    · rw [if_pos hc19] at h
      refine rr_ifnull (tgt := 70) X dd_xP_releaseUnreached_19 (by decide) (fun _ => ?_) (fun z => absurd hc19 z)
      exact (kb_xP_releaseUnreached_b70 X hKs hlk hret hnm hr2) (p0, p1, p2) _ _ _ _ _ _ _ _ hw (lh_pk hl [1, 2, 3] rfl) h hci hcj
    · rw [if_neg hc19] at h
      refine rr_ifnull (tgt := 70) X dd_xP_releaseUnreached_19 (by decide) (fun z => absurd z hc19) (fun _ => ?_)
      refine rr_aldn X dd_xP_releaseUnreached_22 rfl (lv_at hl.1 0 rfl) ?_
      obtain ⟨t5, ht5, h⟩ := st_g_some h
      refine rr_getq X hw ff_3_4_8 ht5 tw_328 (Or.inl rfl) dd_xP_releaseUnreached_23 ?_
      refine lv_iload_n X.1 X.2.1 dd_xP_releaseUnreached_26 rfl (lv_at hl.1 2 rfl) ?_
      obtain ⟨t6, ht6, h⟩ := st_g_some h
      refine rr_iald (t := 0) X hw rfl ht6 dd_xP_releaseUnreached_27 ?_
      by_cases hc28 : t6 ≤ 0
      · rw [if_pos hc28] at h
        refine lv_if_le (tgt := 70) X.1 X.2.1 dd_xP_releaseUnreached_28 (by decide) (fun _ => ?_) (fun z => absurd hc28 z)
        exact (kb_xP_releaseUnreached_b70 X hKs hlk hret hnm hr2) (p0, p1, p2) _ _ _ _ _ _ _ _ hw (lh_pk hl [1, 2, 3] rfl) h hci hcj
      · rw [if_neg hc28] at h
        refine lv_if_le (tgt := 70) X.1 X.2.1 dd_xP_releaseUnreached_28 (by decide) (fun z => absurd z hc28) (fun _ => ?_)
        refine rr_aldn X dd_xP_releaseUnreached_31 rfl (lv_at hl.1 0 rfl) ?_
        obtain ⟨t7, ht7, h⟩ := st_g_some h
        refine rr_geti X hw ff_3_4_6 ht7 tw_353 (Or.inl rfl) dd_xP_releaseUnreached_32 ?_
        by_cases hc35 : t7 = 0
        · rw [if_pos hc35] at h
          refine lv_if_ne (tgt := 70) X.1 X.2.1 dd_xP_releaseUnreached_35 (by decide) (fun z => absurd hc35 z) (fun _ => ?_)
          refine rr_aldn X dd_xP_releaseUnreached_38 rfl (lv_at hl.1 1 rfl) ?_
          refine lv_iload_n X.1 X.2.1 dd_xP_releaseUnreached_39 rfl (lv_at hl.1 2 rfl) ?_
          refine rr_aldn X dd_xP_releaseUnreached_40 rfl (lv_at hl.1 0 rfl) ?_
          obtain ⟨t8, ht8, h⟩ := st_g_some h
          refine rr_geti X hw ff_3_4_4 ht8 tw_196 (Or.inl rfl) dd_xP_releaseUnreached_41 ?_
          obtain ⟨t34, t35, h, ei, ej⟩ := st_n_some h
          refine rr_new (fs := cd_9) X hw cf_9 cb_9 tw_194 tw_195 tw_190 (show cells + 1 ≤ iT ∧ slots + 5 ≤ jT from ⟨ar_1 hci ei, ar_1 hcj ej⟩) dd_xP_releaseUnreached_44 (fun H hw => ?_)
          have hci : cells + 1 + t34 = iT := ar_2 hci ei
          have hcj : slots + 5 + t35 = jT := ar_2 hcj ej
          clear ei ej
          generalize cells + 1 = t10 at hci ⊢
          generalize slots + 5 = t11 at hcj ⊢
          generalize st.2 = t9 at h ⊢
          have h := h
          generalize (st_ad st (.inr (.inr (9, cd_9)))) = t12 at h hw
          refine lv_dup X.1 X.2.1 dd_xP_releaseUnreached_47 (rf_cat _) ?_
          refine lv_iconst (v := (3 : Int32)) X.1 X.2.1 dd_xP_releaseUnreached_48 (by decide) ?_
          refine rr_aldn X dd_xP_releaseUnreached_49 rfl (lv_at hl.1 0 rfl) ?_
          refine rr_null X dd_xP_releaseUnreached_50 ?_
          refine rr_aldn X dd_xP_releaseUnreached_51 rfl (lv_at hl.1 0 rfl) ?_
          obtain ⟨t13, ht13, h⟩ := st_g_some h
          refine rr_getq X hw ff_3_4_8 ht13 tw_328 (Or.inl rfl) dd_xP_releaseUnreached_52 ?_
          refine lv_iload_n X.1 X.2.1 dd_xP_releaseUnreached_55 rfl (lv_at hl.1 2 rfl) ?_
          obtain ⟨t14, ht14, h⟩ := st_g_some h
          refine rr_iald (t := 0) X hw rfl ht14 dd_xP_releaseUnreached_56 ?_
          obtain ⟨t15, t16, t17, t18, t19, t20, ht15, h, ei, ej⟩ := st_b_some h
          refine rr_callI (n := 4) (b := t9) (As := [(.int (3 : Int32)), (va_rf t4), (va_rf none), (.int t14)]) (rest := [(va_rf (some t9)), (.int t8), (.int p1), (va_rf p0)]) X hw (kn_ok D ac a0 gl) hKs (kc_xM_init l D ac a0 gl (some t9) (3 : Int32) t4 none t14 _ _ _ _ _ ht15) tb_good tw_191 tw_190 tw_192 tw_193 rfl (by decide +kernel) rfl (show 1 + 1 ≤ _ ∧ 8 + (5 + 11) + 12 ≤ _ from ⟨Nat.le_of_ble_eq_true rfl, Nat.le_of_ble_eq_true rfl⟩) (show t10 + t17 ≤ iT ∧ t11 + t18 ≤ jT from ⟨ar_1 hci ei, ar_1 hcj ej⟩) hl.1.1 (by simp [rf_cat, ic_cat]) rfl dd_xP_releaseUnreached_57 (sk := [(va_rf (some t9)), (.int t8), (.int p1), (va_rf p0)]) rfl (fun H locs hw => ?_)
          have hci : t10 + t17 + t19 = iT := ar_2 hci ei
          have hcj : t11 + t18 + t20 = jT := ar_2 hcj ej
          clear ei ej
          generalize t10 + t17 = t21 at hci ⊢
          generalize t11 + t18 = t22 at hcj ⊢
          obtain ⟨t33, ht33, h⟩ := st_g_some h
          obtain ⟨t23, t24, t25, t26, t27, t28, ht23, h, ei, ej⟩ := st_b_some h
          refine rr_callV (n := 3) (As := [(.int p1), (.int t8), (va_rf (some t9))]) (rest := []) X hw (kn_ok D ac a0 gl) hKs (kc_xP_post l D ac a0 gl p0 p1 t8 (some t9) _ _ _ _ _ ht23) tb_good tw_186 tw_91 tw_187 tw_188 se_7 ht33 (by decide +kernel) rfl (show 7 + 1 ≤ _ ∧ 8 + (4 + 11) + 191 ≤ _ from ⟨Nat.le_of_ble_eq_true rfl, Nat.le_of_ble_eq_true rfl⟩) (show t21 + t25 ≤ iT ∧ t22 + t26 ≤ jT from ⟨ar_1 hci ei, ar_1 hcj ej⟩) hl.1.1 (by simp [rf_cat, ic_cat]) rfl dd_xP_releaseUnreached_60 (sk := []) rfl (fun H locs hw => ?_)
          have hci : t21 + t25 + t27 = iT := ar_2 hci ei
          have hcj : t22 + t26 + t28 = jT := ar_2 hcj ej
          clear ei ej
          generalize t21 + t25 = t29 at hci ⊢
          generalize t22 + t26 = t30 at hcj ⊢
          refine rr_aldn X dd_xP_releaseUnreached_63 rfl (lv_at hl.1 0 rfl) ?_
          obtain ⟨t31, ht31, h⟩ := st_g_some h
          refine rr_getq X hw ff_3_4_8 ht31 tw_328 (Or.inl rfl) dd_xP_releaseUnreached_64 ?_
          refine lv_iload_n X.1 X.2.1 dd_xP_releaseUnreached_67 rfl (lv_at hl.1 2 rfl) ?_
          refine lv_iconst (v := (0 : Int32)) X.1 X.2.1 dd_xP_releaseUnreached_68 (by decide) ?_
          obtain ⟨t32, hp69, h⟩ := st_w_some h
          refine rr_iast (t := 0) X hw rfl hp69 dd_xP_releaseUnreached_69 (fun H locs hw => ?_)
          exact (kb_xP_releaseUnreached_b70 X hKs hlk hret hnm hr2) (p0, p1, p2) _ _ _ _ _ _ _ _ hw (lh_pk hl [1, 2, 3] rfl) h hci hcj
        · rw [if_neg hc35] at h
          refine lv_if_ne (tgt := 70) X.1 X.2.1 dd_xP_releaseUnreached_35 (by decide) (fun _ => ?_) (fun z => absurd z hc35)
          exact (kb_xP_releaseUnreached_b70 X hKs hlk hret hnm hr2) (p0, p1, p2) _ _ _ _ _ _ _ _ hw (lh_pk hl [1, 2, 3] rfl) h hci hcj
set_option maxHeartbeats 4000000 in
set_option maxRecDepth 100000 in
theorem kc_xP_releaseUnreached (l : Launch) (D : va_G) (ac : Nat → ClassId) (a0 : Nat) (gl : gl_T) (v0 : Option Nat) (v1 : Int32) (st : st_S) (rF : Unit) (stF : st_S) (iT jT : Nat) (h : xP_releaseUnreached gl v0 v1 st = some (rF, stF, iT, jT)) :
    ct_ l ⟨"PromiseVats", "releaseUnreached", "(I)V"⟩ (Cond.code ⟨"PromiseVats", "releaseUnreached", "(I)V"⟩ prog_1_method_48_code 4 (Option.none : Option FieldType) :: tb_) 8 214 D cl_ ac a0 (kn_ D ac a0 gl) [(va_rf v0), (.int v1)] st (vb_u rF) stF iT jT := by
  refine ct_of (kn_ok D ac a0 gl) (plainFor_of_name (by decide +kernel)) (by simp [rf_cat, ic_cat]) (by simp) ?_
  intro p e s m args below meth c ls X hw hKs hlk hret hnm hl
  unfold xP_releaseUnreached at h
  have hl : lh_ ls 4 [(0, (va_rf v0)), (1, (.int v1))] := hl
  obtain ⟨z0, hz0⟩ : ∃ z : Nat, 0 = z := ⟨0, rfl⟩
  obtain ⟨z1, hz1⟩ : ∃ z : Nat, 0 = z := ⟨0, rfl⟩
  refine W.cs hz0 hz1 ?_
  have hci : z0 + iT = iT := by omega
  have hcj : z1 + jT = jT := by omega
  refine lv_iconst (v := (1 : Int32)) X.1 X.2.1 dd_xP_releaseUnreached_0 (by decide) ?_
  refine rr_istn (lv' := [(2, (.int (1 : Int32))), (0, (va_rf v0)), (1, (.int v1))]) X dd_xP_releaseUnreached_1 rfl hl (by decide) rfl (fun ls hl => ?_)
  exact (kb_xP_releaseUnreached_b2 X hKs hlk hret hnm) (v0, v1, (1 : Int32)) _ _ _ _ _ _ _ _ hw (lh_pk hl [1, 2, 0] rfl) h hci hcj
/-! PromiseVats.sweep(I)I -/
theorem dd_xP_sweep_0 : decode prog_1_method_8_code 0 = .ok (.aload_n 0, 1) := by decide +kernel
theorem dd_xP_sweep_1 : decode prog_1_method_8_code 1 = .ok (.iload_n 1, 1) := by decide +kernel
theorem dd_xP_sweep_2 : decode prog_1_method_8_code 2 = .ok (.invokevirtual 83, 3) := by decide +kernel
theorem dd_xP_sweep_5 : decode prog_1_method_8_code 5 = .ok (.ifCond .ne 5, 3) := by decide +kernel
theorem dd_xP_sweep_8 : decode prog_1_method_8_code 8 = .ok (.iconst (-1), 1) := by decide +kernel
theorem dd_xP_sweep_9 : decode prog_1_method_8_code 9 = .ok (.ireturn, 1) := by decide +kernel
theorem dd_xP_sweep_10 : decode prog_1_method_8_code 10 = .ok (.aload_n 0, 1) := by decide +kernel
theorem dd_xP_sweep_11 : decode prog_1_method_8_code 11 = .ok (.iload_n 1, 1) := by decide +kernel
theorem dd_xP_sweep_12 : decode prog_1_method_8_code 12 = .ok (.invokevirtual 193, 3) := by decide +kernel
theorem dd_xP_sweep_15 : decode prog_1_method_8_code 15 = .ok (.aload_n 0, 1) := by decide +kernel
theorem dd_xP_sweep_16 : decode prog_1_method_8_code 16 = .ok (.iload_n 1, 1) := by decide +kernel
theorem dd_xP_sweep_17 : decode prog_1_method_8_code 17 = .ok (.invokevirtual 196, 3) := by decide +kernel
theorem dd_xP_sweep_20 : decode prog_1_method_8_code 20 = .ok (.istore_n 2, 1) := by decide +kernel
theorem dd_xP_sweep_21 : decode prog_1_method_8_code 21 = .ok (.aload_n 0, 1) := by decide +kernel
theorem dd_xP_sweep_22 : decode prog_1_method_8_code 22 = .ok (.iload_n 1, 1) := by decide +kernel
theorem dd_xP_sweep_23 : decode prog_1_method_8_code 23 = .ok (.invokevirtual 200, 3) := by decide +kernel
theorem dd_xP_sweep_26 : decode prog_1_method_8_code 26 = .ok (.iload_n 2, 1) := by decide +kernel
theorem dd_xP_sweep_27 : decode prog_1_method_8_code 27 = .ok (.ireturn, 1) := by decide +kernel
set_option maxHeartbeats 4000000 in
set_option maxRecDepth 100000 in
theorem kc_xP_sweep (l : Launch) (D : va_G) (ac : Nat → ClassId) (a0 : Nat) (gl : gl_T) (v0 : Option Nat) (v1 : Int32) (st : st_S) (rF : Int32) (stF : st_S) (iT jT : Nat) (h : xP_sweep gl v0 v1 st = some (rF, stF, iT, jT)) :
    ct_ l ⟨"PromiseVats", "sweep", "(I)I"⟩ (Cond.code ⟨"PromiseVats", "sweep", "(I)I"⟩ prog_1_method_8_code 3 (Option.some FieldType.int) :: tb_) 9 237 D cl_ ac a0 (kn_ D ac a0 gl) [(va_rf v0), (.int v1)] st (vb_i rF) stF iT jT := by
  refine ct_of (kn_ok D ac a0 gl) (plainFor_of_name (by decide +kernel)) (by simp [rf_cat, ic_cat]) (by simp) ?_
  intro p e s m args below meth c ls X hw hKs hlk hret hnm hl
  unfold xP_sweep at h
  have hl : lh_ ls 3 [(0, (va_rf v0)), (1, (.int v1))] := hl
  obtain ⟨z0, hz0⟩ : ∃ z : Nat, 0 = z := ⟨0, rfl⟩
  obtain ⟨z1, hz1⟩ : ∃ z : Nat, 0 = z := ⟨0, rfl⟩
  refine W.cs hz0 hz1 ?_
  have hci : z0 + iT = iT := by omega
  have hcj : z1 + jT = jT := by omega
  refine rr_aldn X dd_xP_sweep_0 rfl (lv_at hl.1 0 rfl) ?_
  refine lv_iload_n X.1 X.2.1 dd_xP_sweep_1 rfl (lv_at hl.1 1 rfl) ?_
  obtain ⟨t36, ht36, h⟩ := st_g_some h
  obtain ⟨t1, t2, t3, t4, t5, t6, ht1, h, ei, ej⟩ := st_b_some h
  refine rr_callV (n := 1) (As := [(.int v1)]) (rest := []) X hw (kn_ok D ac a0 gl) hKs (kc_xP_isVat l D ac a0 gl v0 v1 _ _ _ _ _ ht1) tb_good tw_110 tw_91 tw_111 tw_112 se_0 ht36 (by decide +kernel) rfl (show 0 + 1 ≤ _ ∧ 8 + (2 + 11) + 0 ≤ _ from ⟨Nat.le_of_ble_eq_true rfl, Nat.le_of_ble_eq_true rfl⟩) (show z0 + t3 ≤ iT ∧ z1 + t4 ≤ jT from ⟨ar_1 hci ei, ar_1 hcj ej⟩) hl.1.1 (by simp [rf_cat, ic_cat]) rfl dd_xP_sweep_2 (sk := [(.int t1)]) rfl (fun H locs hw => ?_)
  have hci : z0 + t3 + t5 = iT := ar_2 hci ei
  have hcj : z1 + t4 + t6 = jT := ar_2 hcj ej
  clear ei ej
  generalize z0 + t3 = t7 at hci ⊢
  generalize z1 + t4 = t8 at hcj ⊢
  by_cases hc5 : t1 = 0
  · rw [if_pos hc5] at h
    refine lv_if_ne (tgt := 10) X.1 X.2.1 dd_xP_sweep_5 (by decide) (fun z => absurd hc5 z) (fun _ => ?_)
    refine lv_iconst (v := (-1 : Int32)) X.1 X.2.1 dd_xP_sweep_8 (by decide) ?_
    obtain ⟨rfl, rfl, rfl, rfl⟩ := st_r_some h
    exact rr_iret X hw hlk hret rfl hci hcj dd_xP_sweep_9
  · rw [if_neg hc5] at h
    refine lv_if_ne (tgt := 10) X.1 X.2.1 dd_xP_sweep_5 (by decide) (fun _ => ?_) (fun z => absurd z hc5)
    refine rr_aldn X dd_xP_sweep_10 rfl (lv_at hl.1 0 rfl) ?_
    refine lv_iload_n X.1 X.2.1 dd_xP_sweep_11 rfl (lv_at hl.1 1 rfl) ?_
    obtain ⟨t35, ht35, h⟩ := st_g_some h
    obtain ⟨t9, t10, t11, t12, t13, t14, ht9, h, ei, ej⟩ := st_b_some h
    refine rr_callV (n := 1) (As := [(.int v1)]) (rest := []) X hw (kn_ok D ac a0 gl) hKs (kc_xP_findReached l D ac a0 gl v0 v1 _ _ _ _ _ ht9) tb_good tw_407 tw_91 tw_408 tw_409 se_40 ht35 (by decide +kernel) rfl (show 5 + 1 ≤ _ ∧ 8 + (3 + 11) + 110 ≤ _ from ⟨Nat.le_of_ble_eq_true rfl, Nat.le_of_ble_eq_true rfl⟩) (show t7 + t11 ≤ iT ∧ t8 + t12 ≤ jT from ⟨ar_1 hci ei, ar_1 hcj ej⟩) hl.1.1 (by simp [rf_cat, ic_cat]) rfl dd_xP_sweep_12 (sk := []) rfl (fun H locs hw => ?_)
    have hci : t7 + t11 + t13 = iT := ar_2 hci ei
    have hcj : t8 + t12 + t14 = jT := ar_2 hcj ej
    clear ei ej
    generalize t7 + t11 = t15 at hci ⊢
    generalize t8 + t12 = t16 at hcj ⊢
    refine rr_aldn X dd_xP_sweep_15 rfl (lv_at hl.1 0 rfl) ?_
    refine lv_iload_n X.1 X.2.1 dd_xP_sweep_16 rfl (lv_at hl.1 1 rfl) ?_
    obtain ⟨t34, ht34, h⟩ := st_g_some h
    obtain ⟨t17, t18, t19, t20, t21, t22, ht17, h, ei, ej⟩ := st_b_some h
    refine rr_callV (n := 1) (As := [(.int v1)]) (rest := []) X hw (kn_ok D ac a0 gl) hKs (kc_xP_freeUnreached l D ac a0 gl v0 v1 _ _ _ _ _ ht17) tb_good tw_403 tw_91 tw_404 tw_405 se_39 ht34 (by decide +kernel) rfl (show 0 + 1 ≤ _ ∧ 8 + (5 + 11) + 0 ≤ _ from ⟨Nat.le_of_ble_eq_true rfl, Nat.le_of_ble_eq_true rfl⟩) (show t15 + t19 ≤ iT ∧ t16 + t20 ≤ jT from ⟨ar_1 hci ei, ar_1 hcj ej⟩) hl.1.1 (by simp [rf_cat, ic_cat]) rfl dd_xP_sweep_17 (sk := [(.int t17)]) rfl (fun H locs hw => ?_)
    have hci : t15 + t19 + t21 = iT := ar_2 hci ei
    have hcj : t16 + t20 + t22 = jT := ar_2 hcj ej
    clear ei ej
    generalize t15 + t19 = t23 at hci ⊢
    generalize t16 + t20 = t24 at hcj ⊢
    refine rr_istn (lv' := [(2, (.int t17)), (0, (va_rf v0)), (1, (.int v1))]) X dd_xP_sweep_20 rfl hl (by decide) rfl (fun ls hl => ?_)
    refine rr_aldn X dd_xP_sweep_21 rfl (lv_at hl.1 1 rfl) ?_
    refine lv_iload_n X.1 X.2.1 dd_xP_sweep_22 rfl (lv_at hl.1 2 rfl) ?_
    obtain ⟨t33, ht33, h⟩ := st_g_some h
    obtain ⟨t25, t26, t27, t28, t29, t30, ht25, h, ei, ej⟩ := st_b_some h
    refine rr_callV (n := 1) (As := [(.int v1)]) (rest := []) X hw (kn_ok D ac a0 gl) hKs (kc_xP_releaseUnreached l D ac a0 gl v0 v1 _ _ _ _ _ ht25) tb_good tw_399 tw_91 tw_400 tw_401 se_38 ht33 (by decide +kernel) rfl (show 8 + 1 ≤ _ ∧ 8 + (4 + 11) + 214 ≤ _ from ⟨Nat.le_of_ble_eq_true rfl, Nat.le_of_ble_eq_true rfl⟩) (show t23 + t27 ≤ iT ∧ t24 + t28 ≤ jT from ⟨ar_1 hci ei, ar_1 hcj ej⟩) hl.1.1 (by simp [rf_cat, ic_cat]) rfl dd_xP_sweep_23 (sk := []) rfl (fun H locs hw => ?_)
    have hci : t23 + t27 + t29 = iT := ar_2 hci ei
    have hcj : t24 + t28 + t30 = jT := ar_2 hcj ej
    clear ei ej
    generalize t23 + t27 = t31 at hci ⊢
    generalize t24 + t28 = t32 at hcj ⊢
    refine lv_iload_n X.1 X.2.1 dd_xP_sweep_26 rfl (lv_at hl.1 0 rfl) ?_
    obtain ⟨rfl, rfl, rfl, rfl⟩ := st_r_some h
    exact rr_iret X hw hlk hret rfl hci hcj dd_xP_sweep_27
/-! PromiseVats.inbox(I)I -/
theorem dd_xP_inbox_0 : decode prog_1_method_10_code 0 = .ok (.aload_n 0, 1) := by decide +kernel
theorem dd_xP_inbox_1 : decode prog_1_method_10_code 1 = .ok (.iload_n 1, 1) := by decide +kernel
theorem dd_xP_inbox_2 : decode prog_1_method_10_code 2 = .ok (.invokevirtual 83, 3) := by decide +kernel
theorem dd_xP_inbox_5 : decode prog_1_method_10_code 5 = .ok (.ifCond .eq 18, 3) := by decide +kernel
theorem dd_xP_inbox_8 : decode prog_1_method_10_code 8 = .ok (.aload_n 0, 1) := by decide +kernel
theorem dd_xP_inbox_9 : decode prog_1_method_10_code 9 = .ok (.getfield 20, 3) := by decide +kernel
theorem dd_xP_inbox_12 : decode prog_1_method_10_code 12 = .ok (.iload_n 1, 1) := by decide +kernel
theorem dd_xP_inbox_13 : decode prog_1_method_10_code 13 = .ok (.aaload, 1) := by decide +kernel
theorem dd_xP_inbox_14 : decode prog_1_method_10_code 14 = .ok (.getfield 102, 3) := by decide +kernel
theorem dd_xP_inbox_17 : decode prog_1_method_10_code 17 = .ok (.invokevirtual 106, 3) := by decide +kernel
theorem dd_xP_inbox_20 : decode prog_1_method_10_code 20 = .ok (.goto 4, 3) := by decide +kernel
theorem dd_xP_inbox_23 : decode prog_1_method_10_code 23 = .ok (.iconst 0, 1) := by decide +kernel
theorem dd_xP_inbox_24 : decode prog_1_method_10_code 24 = .ok (.ireturn, 1) := by decide +kernel
set_option maxHeartbeats 4000000 in
set_option maxRecDepth 100000 in
theorem kc_xP_inbox (l : Launch) (D : va_G) (ac : Nat → ClassId) (a0 : Nat) (gl : gl_T) (v0 : Option Nat) (v1 : Int32) (st : st_S) (rF : Int32) (stF : st_S) (iT jT : Nat) (h : xP_inbox gl v0 v1 st = some (rF, stF, iT, jT)) :
    ct_ l ⟨"PromiseVats", "inbox", "(I)I"⟩ (Cond.code ⟨"PromiseVats", "inbox", "(I)I"⟩ prog_1_method_10_code 2 (Option.some FieldType.int) :: tb_) 1 21 D cl_ ac a0 (kn_ D ac a0 gl) [(va_rf v0), (.int v1)] st (vb_i rF) stF iT jT := by
  refine ct_of (kn_ok D ac a0 gl) (plainFor_of_name (by decide +kernel)) (by simp [rf_cat, ic_cat]) (by simp) ?_
  intro p e s m args below meth c ls X hw hKs hlk hret hnm hl
  unfold xP_inbox at h
  have hl : lh_ ls 2 [(0, (va_rf v0)), (1, (.int v1))] := hl
  obtain ⟨z0, hz0⟩ : ∃ z : Nat, 0 = z := ⟨0, rfl⟩
  obtain ⟨z1, hz1⟩ : ∃ z : Nat, 0 = z := ⟨0, rfl⟩
  refine W.cs hz0 hz1 ?_
  have hci : z0 + iT = iT := by omega
  have hcj : z1 + jT = jT := by omega
  refine rr_aldn X dd_xP_inbox_0 rfl (lv_at hl.1 0 rfl) ?_
  refine lv_iload_n X.1 X.2.1 dd_xP_inbox_1 rfl (lv_at hl.1 1 rfl) ?_
  obtain ⟨t21, ht21, h⟩ := st_g_some h
  obtain ⟨t1, t2, t3, t4, t5, t6, ht1, h, ei, ej⟩ := st_b_some h
  refine rr_callV (n := 1) (As := [(.int v1)]) (rest := []) X hw (kn_ok D ac a0 gl) hKs (kc_xP_isVat l D ac a0 gl v0 v1 _ _ _ _ _ ht1) tb_good tw_110 tw_91 tw_111 tw_112 se_0 ht21 (by decide +kernel) rfl (show 0 + 1 ≤ _ ∧ 8 + (2 + 11) + 0 ≤ _ from ⟨Nat.le_of_ble_eq_true rfl, Nat.le_of_ble_eq_true rfl⟩) (show z0 + t3 ≤ iT ∧ z1 + t4 ≤ jT from ⟨ar_1 hci ei, ar_1 hcj ej⟩) hl.1.1 (by simp [rf_cat, ic_cat]) rfl dd_xP_inbox_2 (sk := [(.int t1)]) rfl (fun H locs hw => ?_)
  have hci : z0 + t3 + t5 = iT := ar_2 hci ei
  have hcj : z1 + t4 + t6 = jT := ar_2 hcj ej
  clear ei ej
  generalize z0 + t3 = t7 at hci ⊢
  generalize z1 + t4 = t8 at hcj ⊢
  by_cases hc5 : t1 = 0
  · rw [if_pos hc5] at h
    refine lv_if_eq (tgt := 23) X.1 X.2.1 dd_xP_inbox_5 (by decide) (fun _ => ?_) (fun z => absurd hc5 z)
    refine lv_iconst (v := (0 : Int32)) X.1 X.2.1 dd_xP_inbox_23 (by decide) ?_
    obtain ⟨rfl, rfl, rfl, rfl⟩ := st_r_some h
    exact rr_iret X hw hlk hret rfl hci hcj dd_xP_inbox_24
  · rw [if_neg hc5] at h
    refine lv_if_eq (tgt := 23) X.1 X.2.1 dd_xP_inbox_5 (by decide) (fun z => absurd z hc5) (fun _ => ?_)
    refine rr_aldn X dd_xP_inbox_8 rfl (lv_at hl.1 0 rfl) ?_
    obtain ⟨t9, ht9, h⟩ := st_g_some h
    refine rr_getq X hw ff_0_0 ht9 tw_66 (Or.inl rfl) dd_xP_inbox_9 ?_
    refine lv_iload_n X.1 X.2.1 dd_xP_inbox_12 rfl (lv_at hl.1 1 rfl) ?_
    obtain ⟨t10, ht10, h⟩ := st_g_some h
    refine rr_aald X hw (tq_4 ac) ht10 dd_xP_inbox_13 ?_
    obtain ⟨t11, ht11, h⟩ := st_g_some h
    refine rr_getq X hw ff_5_1 ht11 tw_204 (Or.inl rfl) dd_xP_inbox_14 ?_
    obtain ⟨t20, ht20, h⟩ := st_g_some h
    obtain ⟨t12, t13, t14, t15, t16, t17, ht12, h, ei, ej⟩ := st_b_some h
    refine rr_callV (n := 0) (As := []) (rest := []) X hw (kn_ok D ac a0 gl) hKs (kc_al_size l D ac a0 gl t11 _ _ _ _ _ ht12) tb_good tw_174 tw_33 tw_175 tw_176 se_6 ht20 (by decide +kernel) rfl (show 0 + 1 ≤ _ ∧ 8 + (1 + 11) + 0 ≤ _ from ⟨Nat.le_of_ble_eq_true rfl, Nat.le_of_ble_eq_true rfl⟩) (show t7 + t14 ≤ iT ∧ t8 + t15 ≤ jT from ⟨ar_1 hci ei, ar_1 hcj ej⟩) hl.1.1 (by simp [rf_cat, ic_cat]) rfl dd_xP_inbox_17 (sk := [(.int t12)]) rfl (fun H locs hw => ?_)
    have hci : t7 + t14 + t16 = iT := ar_2 hci ei
    have hcj : t8 + t15 + t17 = jT := ar_2 hcj ej
    clear ei ej
    generalize t7 + t14 = t18 at hci ⊢
    generalize t8 + t15 = t19 at hcj ⊢
    refine lv_goto (tgt := 24) X.1 X.2.1 dd_xP_inbox_20 (by decide) ?_
    obtain ⟨rfl, rfl, rfl, rfl⟩ := st_r_some h
    exact rr_iret X hw hlk hret rfl hci hcj dd_xP_inbox_24
/-! PromiseVats.waitingAt(LPromiseVats$Entity;)I -/
theorem dd_xP_waitingAt_0 : decode prog_1_method_50_code 0 = .ok (.aload_n 0, 1) := by decide +kernel
theorem dd_xP_waitingAt_1 : decode prog_1_method_50_code 1 = .ok (.instanceof 43, 3) := by decide +kernel
theorem dd_xP_waitingAt_4 : decode prog_1_method_50_code 4 = .ok (.ifCond .eq 16, 3) := by decide +kernel
theorem dd_xP_waitingAt_7 : decode prog_1_method_50_code 7 = .ok (.aload_n 0, 1) := by decide +kernel
theorem dd_xP_waitingAt_8 : decode prog_1_method_50_code 8 = .ok (.checkcast 43, 3) := by decide +kernel
theorem dd_xP_waitingAt_11 : decode prog_1_method_50_code 11 = .ok (.astore_n 1, 1) := by decide +kernel
theorem dd_xP_waitingAt_12 : decode prog_1_method_50_code 12 = .ok (.aload_n 1, 1) := by decide +kernel
theorem dd_xP_waitingAt_13 : decode prog_1_method_50_code 13 = .ok (.getfield 285, 3) := by decide +kernel
theorem dd_xP_waitingAt_16 : decode prog_1_method_50_code 16 = .ok (.invokevirtual 106, 3) := by decide +kernel
theorem dd_xP_waitingAt_19 : decode prog_1_method_50_code 19 = .ok (.ireturn, 1) := by decide +kernel
theorem dd_xP_waitingAt_20 : decode prog_1_method_50_code 20 = .ok (.iconst 0, 1) := by decide +kernel
theorem dd_xP_waitingAt_21 : decode prog_1_method_50_code 21 = .ok (.ireturn, 1) := by decide +kernel
set_option maxHeartbeats 4000000 in
set_option maxRecDepth 100000 in
theorem kc_xP_waitingAt (l : Launch) (D : va_G) (ac : Nat → ClassId) (a0 : Nat) (gl : gl_T) (v0 : Option Nat) (st : st_S) (rF : Int32) (stF : st_S) (iT jT : Nat) (h : xP_waitingAt gl v0 st = some (rF, stF, iT, jT)) :
    ct_ l ⟨"PromiseVats", "waitingAt", "(LPromiseVats$Entity;)I"⟩ (Cond.code ⟨"PromiseVats", "waitingAt", "(LPromiseVats$Entity;)I"⟩ prog_1_method_50_code 2 (Option.some FieldType.int) :: tb_) 1 20 D cl_ ac a0 (kn_ D ac a0 gl) [(va_rf v0)] st (vb_i rF) stF iT jT := by
  refine ct_of (kn_ok D ac a0 gl) (plainFor_of_name (by decide +kernel)) (by simp [rf_cat, ic_cat]) (by simp) ?_
  intro p e s m args below meth c ls X hw hKs hlk hret hnm hl
  unfold xP_waitingAt at h
  have hl : lh_ ls 2 [(0, (va_rf v0))] := hl
  obtain ⟨z0, hz0⟩ : ∃ z : Nat, 0 = z := ⟨0, rfl⟩
  obtain ⟨z1, hz1⟩ : ∃ z : Nat, 0 = z := ⟨0, rfl⟩
  refine W.cs hz0 hz1 ?_
  have hci : z0 + iT = iT := by omega
  have hcj : z1 + jT = jT := by omega
  refine rr_aldn X dd_xP_waitingAt_0 rfl (lv_at hl.1 0 rfl) ?_
  obtain ⟨t1, ht1, h⟩ := st_g_some h
  refine rr_inst X hw (ti_Q_y hKs) (ti_Q_n hKs) ht1 tw_55 dd_xP_waitingAt_1 ?_
  by_cases hc4 : t1 = 0
  · rw [if_pos hc4] at h
    refine lv_if_eq (tgt := 20) X.1 X.2.1 dd_xP_waitingAt_4 (by decide) (fun _ => ?_) (fun z => absurd hc4 z)
    refine lv_iconst (v := (0 : Int32)) X.1 X.2.1 dd_xP_waitingAt_20 (by decide) ?_
    obtain ⟨rfl, rfl, rfl, rfl⟩ := st_r_some h
    exact rr_iret X hw hlk hret rfl hci hcj dd_xP_waitingAt_21
  · rw [if_neg hc4] at h
    refine lv_if_eq (tgt := 20) X.1 X.2.1 dd_xP_waitingAt_4 (by decide) (fun z => absurd z hc4) (fun _ => ?_)
    refine rr_aldn X dd_xP_waitingAt_7 rfl (lv_at hl.1 0 rfl) ?_
    obtain ⟨t2, ht2, h⟩ := st_g_some h
    refine rr_cast X hw (ti_Q_y hKs) ht2 tw_55 dd_xP_waitingAt_8 ?_
    refine rr_astn (lv' := [(1, (va_rf v0)), (0, (va_rf v0))]) X dd_xP_waitingAt_11 rfl hl (by decide) rfl (fun ls hl => ?_)
    refine rr_aldn X dd_xP_waitingAt_12 rfl (lv_at hl.1 0 rfl) ?_
    obtain ⟨t3, ht3, h⟩ := st_g_some h
    refine rr_getq X hw ff_4_2 ht3 tw_169 (Or.inl rfl) dd_xP_waitingAt_13 ?_
    obtain ⟨t12, ht12, h⟩ := st_g_some h
    obtain ⟨t4, t5, t6, t7, t8, t9, ht4, h, ei, ej⟩ := st_b_some h
    refine rr_callV (n := 0) (As := []) (rest := []) X hw (kn_ok D ac a0 gl) hKs (kc_al_size l D ac a0 gl t3 _ _ _ _ _ ht4) tb_good tw_174 tw_33 tw_175 tw_176 se_6 ht12 (by decide +kernel) rfl (show 0 + 1 ≤ _ ∧ 8 + (1 + 11) + 0 ≤ _ from ⟨Nat.le_of_ble_eq_true rfl, Nat.le_of_ble_eq_true rfl⟩) (show z0 + t6 ≤ iT ∧ z1 + t7 ≤ jT from ⟨ar_1 hci ei, ar_1 hcj ej⟩) hl.1.1 (by simp [rf_cat, ic_cat]) rfl dd_xP_waitingAt_16 (sk := [(.int t4)]) rfl (fun H locs hw => ?_)
    have hci : z0 + t6 + t8 = iT := ar_2 hci ei
    have hcj : z1 + t7 + t9 = jT := ar_2 hcj ej
    clear ei ej
    generalize z0 + t6 = t10 at hci ⊢
    generalize z1 + t7 = t11 at hcj ⊢
    obtain ⟨rfl, rfl, rfl, rfl⟩ := st_r_some h
    exact rr_iret X hw hlk hret rfl hci hcj dd_xP_waitingAt_19
/-! PromiseVats.kindOf(LPromiseVats$Entity;)I -/
theorem dd_xP_kindOf_0 : decode prog_1_method_51_code 0 = .ok (.aload_n 0, 1) := by decide +kernel
theorem dd_xP_kindOf_1 : decode prog_1_method_51_code 1 = .ok (.instanceof 43, 3) := by decide +kernel
theorem dd_xP_kindOf_4 : decode prog_1_method_51_code 4 = .ok (.ifCond .eq 21, 3) := by decide +kernel
theorem dd_xP_kindOf_7 : decode prog_1_method_51_code 7 = .ok (.aload_n 0, 1) := by decide +kernel
theorem dd_xP_kindOf_8 : decode prog_1_method_51_code 8 = .ok (.checkcast 43, 3) := by decide +kernel
theorem dd_xP_kindOf_11 : decode prog_1_method_51_code 11 = .ok (.astore_n 1, 1) := by decide +kernel
theorem dd_xP_kindOf_12 : decode prog_1_method_51_code 12 = .ok (.aload_n 1, 1) := by decide +kernel
theorem dd_xP_kindOf_13 : decode prog_1_method_51_code 13 = .ok (.getfield 229, 3) := by decide +kernel
theorem dd_xP_kindOf_16 : decode prog_1_method_51_code 16 = .ok (.ifCond .eq 7, 3) := by decide +kernel
theorem dd_xP_kindOf_19 : decode prog_1_method_51_code 19 = .ok (.iconst 1, 1) := by decide +kernel
theorem dd_xP_kindOf_20 : decode prog_1_method_51_code 20 = .ok (.goto 4, 3) := by decide +kernel
theorem dd_xP_kindOf_23 : decode prog_1_method_51_code 23 = .ok (.iconst 2, 1) := by decide +kernel
theorem dd_xP_kindOf_24 : decode prog_1_method_51_code 24 = .ok (.ireturn, 1) := by decide +kernel
theorem dd_xP_kindOf_25 : decode prog_1_method_51_code 25 = .ok (.iconst 0, 1) := by decide +kernel
theorem dd_xP_kindOf_26 : decode prog_1_method_51_code 26 = .ok (.ireturn, 1) := by decide +kernel
set_option maxHeartbeats 4000000 in
set_option maxRecDepth 100000 in
theorem kc_xP_kindOf (l : Launch) (D : va_G) (ac : Nat → ClassId) (a0 : Nat) (gl : gl_T) (v0 : Option Nat) (st : st_S) (rF : Int32) (stF : st_S) (iT jT : Nat) (h : xP_kindOf gl v0 st = some (rF, stF, iT, jT)) :
    ct_ l ⟨"PromiseVats", "kindOf", "(LPromiseVats$Entity;)I"⟩ (Cond.code ⟨"PromiseVats", "kindOf", "(LPromiseVats$Entity;)I"⟩ prog_1_method_51_code 2 (Option.some FieldType.int) :: tb_) 0 0 D cl_ ac a0 (kn_ D ac a0 gl) [(va_rf v0)] st (vb_i rF) stF iT jT := by
  refine ct_of (kn_ok D ac a0 gl) (plainFor_of_name (by decide +kernel)) (by simp [rf_cat, ic_cat]) (by simp) ?_
  intro p e s m args below meth c ls X hw hKs hlk hret hnm hl
  unfold xP_kindOf at h
  have hl : lh_ ls 2 [(0, (va_rf v0))] := hl
  obtain ⟨z0, hz0⟩ : ∃ z : Nat, 0 = z := ⟨0, rfl⟩
  obtain ⟨z1, hz1⟩ : ∃ z : Nat, 0 = z := ⟨0, rfl⟩
  refine W.cs hz0 hz1 ?_
  have hci : z0 + iT = iT := by omega
  have hcj : z1 + jT = jT := by omega
  refine rr_aldn X dd_xP_kindOf_0 rfl (lv_at hl.1 0 rfl) ?_
  obtain ⟨t1, ht1, h⟩ := st_g_some h
  refine rr_inst X hw (ti_Q_y hKs) (ti_Q_n hKs) ht1 tw_55 dd_xP_kindOf_1 ?_
  by_cases hc4 : t1 = 0
  · rw [if_pos hc4] at h
    refine lv_if_eq (tgt := 25) X.1 X.2.1 dd_xP_kindOf_4 (by decide) (fun _ => ?_) (fun z => absurd hc4 z)
    refine lv_iconst (v := (0 : Int32)) X.1 X.2.1 dd_xP_kindOf_25 (by decide) ?_
    obtain ⟨rfl, rfl, rfl, rfl⟩ := st_r_some h
    exact rr_iret X hw hlk hret rfl hci hcj dd_xP_kindOf_26
  · rw [if_neg hc4] at h
    refine lv_if_eq (tgt := 25) X.1 X.2.1 dd_xP_kindOf_4 (by decide) (fun z => absurd z hc4) (fun _ => ?_)
    refine rr_aldn X dd_xP_kindOf_7 rfl (lv_at hl.1 0 rfl) ?_
    obtain ⟨t2, ht2, h⟩ := st_g_some h
    refine rr_cast X hw (ti_Q_y hKs) ht2 tw_55 dd_xP_kindOf_8 ?_
    refine rr_astn (lv' := [(1, (va_rf v0)), (0, (va_rf v0))]) X dd_xP_kindOf_11 rfl hl (by decide) rfl (fun ls hl => ?_)
    refine rr_aldn X dd_xP_kindOf_12 rfl (lv_at hl.1 0 rfl) ?_
    obtain ⟨t3, ht3, h⟩ := st_g_some h
    refine rr_geti X hw ff_4_0 ht3 tw_214 (Or.inl rfl) dd_xP_kindOf_13 ?_
    by_cases hc16 : t3 = 0
    · rw [if_pos hc16] at h
      refine lv_if_eq (tgt := 23) X.1 X.2.1 dd_xP_kindOf_16 (by decide) (fun _ => ?_) (fun z => absurd hc16 z)
      refine lv_iconst (v := (2 : Int32)) X.1 X.2.1 dd_xP_kindOf_23 (by decide) ?_
      obtain ⟨rfl, rfl, rfl, rfl⟩ := st_r_some h
      exact rr_iret X hw hlk hret rfl hci hcj dd_xP_kindOf_24
    · rw [if_neg hc16] at h
      refine lv_if_eq (tgt := 23) X.1 X.2.1 dd_xP_kindOf_16 (by decide) (fun z => absurd z hc16) (fun _ => ?_)
      refine lv_iconst (v := (1 : Int32)) X.1 X.2.1 dd_xP_kindOf_19 (by decide) ?_
      refine lv_goto (tgt := 24) X.1 X.2.1 dd_xP_kindOf_20 (by decide) ?_
      obtain ⟨rfl, rfl, rfl, rfl⟩ := st_r_some h
      exact rr_iret X hw hlk hret rfl hci hcj dd_xP_kindOf_24
