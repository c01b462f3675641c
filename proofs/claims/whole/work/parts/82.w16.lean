/-! PromiseVats.reachCalls(Ljava/util/ArrayList;)V -/
theorem dd_xP_reachCalls_0 : decode prog_1_method_44_code 0 = .ok (.iconst 0, 1) := by decide +kernel
theorem dd_xP_reachCalls_1 : decode prog_1_method_44_code 1 = .ok (.istore_n 2, 1) := by decide +kernel
theorem dd_xP_reachCalls_2 : decode prog_1_method_44_code 2 = .ok (.iload_n 2, 1) := by decide +kernel
theorem dd_xP_reachCalls_3 : decode prog_1_method_44_code 3 = .ok (.aload_n 1, 1) := by decide +kernel
theorem dd_xP_reachCalls_4 : decode prog_1_method_44_code 4 = .ok (.invokevirtual 106, 3) := by decide +kernel
theorem dd_xP_reachCalls_7 : decode prog_1_method_44_code 7 = .ok (.if_icmp .ge 39, 3) := by decide +kernel
theorem dd_xP_reachCalls_10 : decode prog_1_method_44_code 10 = .ok (.aload_n 0, 1) := by decide +kernel
theorem dd_xP_reachCalls_11 : decode prog_1_method_44_code 11 = .ok (.aload_n 1, 1) := by decide +kernel
theorem dd_xP_reachCalls_12 : decode prog_1_method_44_code 12 = .ok (.iload_n 2, 1) := by decide +kernel
theorem dd_xP_reachCalls_13 : decode prog_1_method_44_code 13 = .ok (.invokevirtual 307, 3) := by decide +kernel
theorem dd_xP_reachCalls_16 : decode prog_1_method_44_code 16 = .ok (.checkcast 112, 3) := by decide +kernel
theorem dd_xP_reachCalls_19 : decode prog_1_method_44_code 19 = .ok (.getfield 129, 3) := by decide +kernel
theorem dd_xP_reachCalls_22 : decode prog_1_method_44_code 22 = .ok (.invokevirtual 337, 3) := by decide +kernel
theorem dd_xP_reachCalls_25 : decode prog_1_method_44_code 25 = .ok (.aload_n 0, 1) := by decide +kernel
theorem dd_xP_reachCalls_26 : decode prog_1_method_44_code 26 = .ok (.aload_n 1, 1) := by decide +kernel
theorem dd_xP_reachCalls_27 : decode prog_1_method_44_code 27 = .ok (.iload_n 2, 1) := by decide +kernel
theorem dd_xP_reachCalls_28 : decode prog_1_method_44_code 28 = .ok (.invokevirtual 307, 3) := by decide +kernel
theorem dd_xP_reachCalls_31 : decode prog_1_method_44_code 31 = .ok (.checkcast 112, 3) := by decide +kernel
theorem dd_xP_reachCalls_34 : decode prog_1_method_44_code 34 = .ok (.getfield 313, 3) := by decide +kernel
theorem dd_xP_reachCalls_37 : decode prog_1_method_44_code 37 = .ok (.invokevirtual 337, 3) := by decide +kernel
theorem dd_xP_reachCalls_40 : decode prog_1_method_44_code 40 = .ok (.iinc 2 1, 3) := by decide +kernel
theorem dd_xP_reachCalls_43 : decode prog_1_method_44_code 43 = .ok (.goto (-41), 3) := by decide +kernel
theorem dd_xP_reachCalls_46 : decode prog_1_method_44_code 46 = .ok (.return_, 1) := by decide +kernel
set_option maxHeartbeats 4000000 in
set_option maxRecDepth 100000 in
theorem kb_xP_reachCalls_b2 {p : Program} {l : Launch} {e : Env} {s : State} {m : MethodId} {args : Array Value} {below : List Frame} {meth : Method} {c : Code} {D : va_G} {ac : Nat → ClassId} {a0 : Nat} {gl : gl_T} {rF : Unit} {stF : st_S} {iT jT : Nat}
    (X : cx_ p s m args c prog_1_method_44_code 3 "PromiseVats" tb_ D cl_ (ty_ ac)) (hKs : kn_ D ac a0 gl s) (hlk : meth.locks = false) (hret : meth.sig.returnType = (Option.none : Option FieldType)) (hnm : meth.name = "reachCalls") : wk_ p l e 3 64 s m args below meth c D cl_ ac a0 3 vb_u rF stF iT jT 2 (fun x : Option Nat × Option Nat × Int32 => [(0, (va_rf x.1)), (1, (va_rf x.2.1)), (2, (.int x.2.2))]) (fun x : Option Nat × Option Nat × Int32 => []) (st_it (fun rec2 => (fun x : Option Nat × Option Nat × Int32 => xP_reachCalls_b2 gl rec2 x.1 x.2.1 x.2.2)) fu_) := by
  refine wk_it ?_ _
  intro rec2 hr2 x st H locs cells slots i j ls hw hl h hci hcj
  obtain ⟨p0, p1, p2⟩ := x
  have h : xP_reachCalls_b2 gl rec2 p0 p1 p2 st = some (rF, stF, i, j) := h
  unfold xP_reachCalls_b2 at h
  have hl : lh_ ls 3 [(0, (va_rf p0)), (1, (va_rf p1)), (2, (.int p2))] := hl
  refine W.eq (g2 := F0 m 2 ls []) rfl ?_
  refine lv_iload_n X.1 X.2.1 dd_xP_reachCalls_2 rfl (lv_at hl.1 2 rfl) ?_
  refine rr_aldn X dd_xP_reachCalls_3 rfl (lv_at hl.1 1 rfl) ?_
  obtain ⟨t49, ht49, h⟩ := st_g_some h
  obtain ⟨t1, t2, t3, t4, t5, t6, ht1, h, ei, ej⟩ := st_b_some h
  refine rr_callV (n := 0) (As := []) (rest := [(.int p2)]) X hw (kn_ok D ac a0 gl) hKs (kc_al_size l D ac a0 gl p1 _ _ _ _ _ ht1) tb_good tw_174 tw_33 tw_175 tw_176 se_6 ht49 (by decide +kernel) rfl (show 0 + 1 ≤ _ ∧ 8 + (1 + 11) + 0 ≤ _ from ⟨Nat.le_of_ble_eq_true rfl, Nat.le_of_ble_eq_true rfl⟩) (show cells + t3 ≤ iT ∧ slots + t4 ≤ jT from ⟨ar_1 hci ei, ar_1 hcj ej⟩) hl.1.1 (by simp [rf_cat, ic_cat]) rfl dd_xP_reachCalls_4 (sk := [(.int t1), (.int p2)]) rfl (fun H locs hw => ?_)
  have hci : cells + t3 + t5 = iT := ar_2 hci ei
  have hcj : slots + t4 + t6 = jT := ar_2 hcj ej
  clear ei ej
  generalize cells + t3 = t7 at hci ⊢
  generalize slots + t4 = t8 at hcj ⊢
  by_cases hc7 : t1 ≤ p2
  · rw [if_pos hc7] at h
    refine lv_icmp_ge (tgt := 46) X.1 X.2.1 dd_xP_reachCalls_7 (by decide) (fun _ => ?_) (fun z => absurd hc7 z)
    obtain ⟨rfl, rfl, rfl, rfl⟩ := st_r_some h
    exact rr_vret X hw hlk hret hci hcj dd_xP_reachCalls_46
  · rw [if_neg hc7] at h
    refine lv_icmp_ge (tgt := 46) X.1 X.2.1 dd_xP_reachCalls_7 (by decide) (fun z => absurd z hc7) (fun _ => ?_)
    refine rr_aldn X dd_xP_reachCalls_10 rfl (lv_at hl.1 0 rfl) ?_
    refine rr_aldn X dd_xP_reachCalls_11 rfl (lv_at hl.1 1 rfl) ?_
    refine lv_iload_n X.1 X.2.1 dd_xP_reachCalls_12 rfl (lv_at hl.1 2 rfl) ?_
    obtain ⟨t48, ht48, h⟩ := st_g_some h
    obtain ⟨t9, t10, t11, t12, t13, t14, ht9, h, ei, ej⟩ := st_b_some h
    refine rr_callV (n := 1) (As := [(.int p2)]) (rest := [(va_rf p0)]) X hw (kn_ok D ac a0 gl) hKs (kc_al_get l D ac a0 gl p1 p2 _ _ _ _ _ ht9) tb_good tw_295 tw_33 tw_296 tw_297 se_17 ht48 (by decide +kernel) rfl (show 2 + 1 ≤ _ ∧ 8 + (2 + 11) + 43 ≤ _ from ⟨Nat.le_of_ble_eq_true rfl, Nat.le_of_ble_eq_true rfl⟩) (show t7 + t11 ≤ iT ∧ t8 + t12 ≤ jT from ⟨ar_1 hci ei, ar_1 hcj ej⟩) hl.1.1 (by simp [rf_cat, ic_cat]) rfl dd_xP_reachCalls_13 (sk := [(va_rf t9), (va_rf p0)]) rfl (fun H locs hw => ?_)
    have hci : t7 + t11 + t13 = iT := ar_2 hci ei
    have hcj : t8 + t12 + t14 = jT := ar_2 hcj ej
    clear ei ej
    generalize t7 + t11 = t15 at hci ⊢
    generalize t8 + t12 = t16 at hcj ⊢
    obtain ⟨t17, ht17, h⟩ := st_g_some h
    refine rr_cast X hw (ti_C_y hKs) ht17 tw_223 dd_xP_reachCalls_16 ?_
    obtain ⟨t18, ht18, h⟩ := st_g_some h
    refine rr_getq X hw ff_8_0 ht18 tw_199 (Or.inl rfl) dd_xP_reachCalls_19 ?_
    obtain ⟨t47, ht47, h⟩ := st_g_some h
    obtain ⟨t19, t20, t21, t22, t23, t24, ht19, h, ei, ej⟩ := st_b_some h
    refine rr_callV (n := 1) (As := [(va_rf t18)]) (rest := []) X hw (kn_ok D ac a0 gl) hKs (kc_xP_reach l D ac a0 gl p0 t18 _ _ _ _ _ ht19) tb_good tw_374 tw_91 tw_375 tw_376 se_32 ht47 (by decide +kernel) rfl (show 0 + 1 ≤ _ ∧ 8 + (2 + 11) + 0 ≤ _ from ⟨Nat.le_of_ble_eq_true rfl, Nat.le_of_ble_eq_true rfl⟩) (show t15 + t21 ≤ iT ∧ t16 + t22 ≤ jT from ⟨ar_1 hci ei, ar_1 hcj ej⟩) hl.1.1 (by simp [rf_cat, ic_cat]) rfl dd_xP_reachCalls_22 (sk := []) rfl (fun H locs hw => ?_)
    have hci : t15 + t21 + t23 = iT := ar_2 hci ei
    have hcj : t16 + t22 + t24 = jT := ar_2 hcj ej
    clear ei ej
    generalize t15 + t21 = t25 at hci ⊢
    generalize t16 + t22 = t26 at hcj ⊢
    refine rr_aldn X dd_xP_reachCalls_25 rfl (lv_at hl.1 0 rfl) ?_
    refine rr_aldn X dd_xP_reachCalls_26 rfl (lv_at hl.1 1 rfl) ?_
    refine lv_iload_n X.1 X.2.1 dd_xP_reachCalls_27 rfl (lv_at hl.1 2 rfl) ?_
    obtain ⟨t46, ht46, h⟩ := st_g_some h
    obtain ⟨t27, t28, t29, t30, t31, t32, ht27, h, ei, ej⟩ := st_b_some h
    refine rr_callV (n := 1) (As := [(.int p2)]) (rest := [(va_rf p0)]) X hw (kn_ok D ac a0 gl) hKs (kc_al_get l D ac a0 gl p1 p2 _ _ _ _ _ ht27) tb_good tw_295 tw_33 tw_296 tw_297 se_17 ht46 (by decide +kernel) rfl (show 2 + 1 ≤ _ ∧ 8 + (2 + 11) + 43 ≤ _ from ⟨Nat.le_of_ble_eq_true rfl, Nat.le_of_ble_eq_true rfl⟩) (show t25 + t29 ≤ iT ∧ t26 + t30 ≤ jT from ⟨ar_1 hci ei, ar_1 hcj ej⟩) hl.1.1 (by simp [rf_cat, ic_cat]) rfl dd_xP_reachCalls_28 (sk := [(va_rf t27), (va_rf p0)]) rfl (fun H locs hw => ?_)
    have hci : t25 + t29 + t31 = iT := ar_2 hci ei
    have hcj : t26 + t30 + t32 = jT := ar_2 hcj ej
    clear ei ej
    generalize t25 + t29 = t33 at hci ⊢
    generalize t26 + t30 = t34 at hcj ⊢
    obtain ⟨t35, ht35, h⟩ := st_g_some h
    refine rr_cast X hw (ti_C_y hKs) ht35 tw_223 dd_xP_reachCalls_31 ?_
    obtain ⟨t36, ht36, h⟩ := st_g_some h
    refine rr_getq X hw ff_8_2 ht36 tw_198 (Or.inl rfl) dd_xP_reachCalls_34 ?_
    obtain ⟨t45, ht45, h⟩ := st_g_some h
    obtain ⟨t37, t38, t39, t40, t41, t42, ht37, h, ei, ej⟩ := st_b_some h
    refine rr_callV (n := 1) (As := [(va_rf t36)]) (rest := []) X hw (kn_ok D ac a0 gl) hKs (kc_xP_reach l D ac a0 gl p0 t36 _ _ _ _ _ ht37) tb_good tw_374 tw_91 tw_375 tw_376 se_32 ht45 (by decide +kernel) rfl (show 0 + 1 ≤ _ ∧ 8 + (2 + 11) + 0 ≤ _ from ⟨Nat.le_of_ble_eq_true rfl, Nat.le_of_ble_eq_true rfl⟩) (show t33 + t39 ≤ iT ∧ t34 + t40 ≤ jT from ⟨ar_1 hci ei, ar_1 hcj ej⟩) hl.1.1 (by simp [rf_cat, ic_cat]) rfl dd_xP_reachCalls_37 (sk := []) rfl (fun H locs hw => ?_)
    have hci : t33 + t39 + t41 = iT := ar_2 hci ei
    have hcj : t34 + t40 + t42 = jT := ar_2 hcj ej
    clear ei ej
    generalize t33 + t39 = t43 at hci ⊢
    generalize t34 + t40 = t44 at hcj ⊢
    refine rr_iinc (k := 2) (v := (p2 + (1 : Int32))) (lv' := [(2, (.int (p2 + (1 : Int32)))), (0, (va_rf p0)), (1, (va_rf p1))]) X dd_xP_reachCalls_40 hl rfl (by rw [show Int32.ofInt (1) = (1 : Int32) from by decide]) (by decide) rfl (fun ls hl => ?_)
    refine lv_goto (tgt := 2) X.1 X.2.1 dd_xP_reachCalls_43 (by decide) ?_
    exact hr2 (p0, p1, (p2 + (1 : Int32))) _ _ _ _ _ _ _ _ hw (lh_pk hl [1, 2, 0] rfl) h hci hcj
set_option maxHeartbeats 4000000 in
set_option maxRecDepth 100000 in
theorem kc_xP_reachCalls (l : Launch) (D : va_G) (ac : Nat → ClassId) (a0 : Nat) (gl : gl_T) (v0 : Option Nat) (v1 : Option Nat) (st : st_S) (rF : Unit) (stF : st_S) (iT jT : Nat) (h : xP_reachCalls gl v0 v1 st = some (rF, stF, iT, jT)) :
    ct_ l ⟨"PromiseVats", "reachCalls", "(Ljava/util/ArrayList;)V"⟩ (Cond.code ⟨"PromiseVats", "reachCalls", "(Ljava/util/ArrayList;)V"⟩ prog_1_method_44_code 3 (Option.none : Option FieldType) :: tb_) 3 64 D cl_ ac a0 (kn_ D ac a0 gl) [(va_rf v0), (va_rf v1)] st (vb_u rF) stF iT jT := by
  refine ct_of (kn_ok D ac a0 gl) (plainFor_of_name (by decide +kernel)) (by simp [rf_cat, ic_cat]) (by simp) ?_
  intro p e s m args below meth c ls X hw hKs hlk hret hnm hl
  unfold xP_reachCalls at h
  have hl : lh_ ls 3 [(0, (va_rf v0)), (1, (va_rf v1))] := hl
  obtain ⟨z0, hz0⟩ : ∃ z : Nat, 0 = z := ⟨0, rfl⟩
  obtain ⟨z1, hz1⟩ : ∃ z : Nat, 0 = z := ⟨0, rfl⟩
  refine W.cs hz0 hz1 ?_
  have hci : z0 + iT = iT := by omega
  have hcj : z1 + jT = jT := by omega
  refine lv_iconst (v := (0 : Int32)) X.1 X.2.1 dd_xP_reachCalls_0 (by decide) ?_
  refine rr_istn (lv' := [(2, (.int (0 : Int32))), (0, (va_rf v0)), (1, (va_rf v1))]) X dd_xP_reachCalls_1 rfl hl (by decide) rfl (fun ls hl => ?_)
  exact (kb_xP_reachCalls_b2 X hKs hlk hret hnm) (v0, v1, (0 : Int32)) _ _ _ _ _ _ _ _ hw (lh_pk hl [1, 2, 0] rfl) h hci hcj
/-! PromiseVats.reachInside(LPromiseVats$Entity;)V -/
theorem dd_xP_reachInside_0 : decode prog_1_method_45_code 0 = .ok (.aload_n 1, 1) := by decide +kernel
theorem dd_xP_reachInside_1 : decode prog_1_method_45_code 1 = .ok (.instanceof 53, 3) := by decide +kernel
theorem dd_xP_reachInside_4 : decode prog_1_method_45_code 4 = .ok (.ifCond .eq 37, 3) := by decide +kernel
theorem dd_xP_reachInside_7 : decode prog_1_method_45_code 7 = .ok (.aload_n 1, 1) := by decide +kernel
theorem dd_xP_reachInside_8 : decode prog_1_method_45_code 8 = .ok (.checkcast 53, 3) := by decide +kernel
theorem dd_xP_reachInside_11 : decode prog_1_method_45_code 11 = .ok (.astore_n 2, 1) := by decide +kernel
theorem dd_xP_reachInside_12 : decode prog_1_method_45_code 12 = .ok (.iconst 0, 1) := by decide +kernel
theorem dd_xP_reachInside_13 : decode prog_1_method_45_code 13 = .ok (.istore 4, 2) := by decide +kernel
theorem dd_xP_reachInside_15 : decode prog_1_method_45_code 15 = .ok (.iload 4, 2) := by decide +kernel
theorem dd_xP_reachInside_17 : decode prog_1_method_45_code 17 = .ok (.iconst 4, 1) := by decide +kernel
theorem dd_xP_reachInside_18 : decode prog_1_method_45_code 18 = .ok (.if_icmp .ge 20, 3) := by decide +kernel
theorem dd_xP_reachInside_21 : decode prog_1_method_45_code 21 = .ok (.aload_n 0, 1) := by decide +kernel
theorem dd_xP_reachInside_22 : decode prog_1_method_45_code 22 = .ok (.aload_n 2, 1) := by decide +kernel
theorem dd_xP_reachInside_23 : decode prog_1_method_45_code 23 = .ok (.getfield 93, 3) := by decide +kernel
theorem dd_xP_reachInside_26 : decode prog_1_method_45_code 26 = .ok (.iload 4, 2) := by decide +kernel
theorem dd_xP_reachInside_28 : decode prog_1_method_45_code 28 = .ok (.aaload, 1) := by decide +kernel
theorem dd_xP_reachInside_29 : decode prog_1_method_45_code 29 = .ok (.invokevirtual 337, 3) := by decide +kernel
theorem dd_xP_reachInside_32 : decode prog_1_method_45_code 32 = .ok (.iinc 4 1, 3) := by decide +kernel
theorem dd_xP_reachInside_35 : decode prog_1_method_45_code 35 = .ok (.goto (-20), 3) := by decide +kernel
theorem dd_xP_reachInside_38 : decode prog_1_method_45_code 38 = .ok (.goto 31, 3) := by decide +kernel
theorem dd_xP_reachInside_41 : decode prog_1_method_45_code 41 = .ok (.aload_n 1, 1) := by decide +kernel
theorem dd_xP_reachInside_42 : decode prog_1_method_45_code 42 = .ok (.instanceof 43, 3) := by decide +kernel
theorem dd_xP_reachInside_45 : decode prog_1_method_45_code 45 = .ok (.ifCond .eq 24, 3) := by decide +kernel
theorem dd_xP_reachInside_48 : decode prog_1_method_45_code 48 = .ok (.aload_n 1, 1) := by decide +kernel
theorem dd_xP_reachInside_49 : decode prog_1_method_45_code 49 = .ok (.checkcast 43, 3) := by decide +kernel
theorem dd_xP_reachInside_52 : decode prog_1_method_45_code 52 = .ok (.astore_n 3, 1) := by decide +kernel
theorem dd_xP_reachInside_53 : decode prog_1_method_45_code 53 = .ok (.aload_n 0, 1) := by decide +kernel
theorem dd_xP_reachInside_54 : decode prog_1_method_45_code 54 = .ok (.aload_n 3, 1) := by decide +kernel
theorem dd_xP_reachInside_55 : decode prog_1_method_45_code 55 = .ok (.getfield 233, 3) := by decide +kernel
theorem dd_xP_reachInside_58 : decode prog_1_method_45_code 58 = .ok (.invokevirtual 337, 3) := by decide +kernel
theorem dd_xP_reachInside_61 : decode prog_1_method_45_code 61 = .ok (.aload_n 0, 1) := by decide +kernel
theorem dd_xP_reachInside_62 : decode prog_1_method_45_code 62 = .ok (.aload_n 3, 1) := by decide +kernel
theorem dd_xP_reachInside_63 : decode prog_1_method_45_code 63 = .ok (.getfield 285, 3) := by decide +kernel
theorem dd_xP_reachInside_66 : decode prog_1_method_45_code 66 = .ok (.invokevirtual 344, 3) := by decide +kernel
theorem dd_xP_reachInside_69 : decode prog_1_method_45_code 69 = .ok (.return_, 1) := by decide +kernel
set_option maxHeartbeats 4000000 in
set_option maxRecDepth 100000 in
theorem kb_xP_reachInside_b15 {p : Program} {l : Launch} {e : Env} {s : State} {m : MethodId} {args : Array Value} {below : List Frame} {meth : Method} {c : Code} {D : va_G} {ac : Nat → ClassId} {a0 : Nat} {gl : gl_T} {rF : Unit} {stF : st_S} {iT jT : Nat}
    (X : cx_ p s m args c prog_1_method_45_code 5 "PromiseVats" tb_ D cl_ (ty_ ac)) (hKs : kn_ D ac a0 gl s) (hlk : meth.locks = false) (hret : meth.sig.returnType = (Option.none : Option FieldType)) (hnm : meth.name = "reachInside") : wk_ p l e 4 86 s m args below meth c D cl_ ac a0 5 vb_u rF stF iT jT 15 (fun x : Option Nat × Option Nat × Int32 => [(0, (va_rf x.1)), (2, (va_rf x.2.1)), (4, (.int x.2.2))]) (fun x : Option Nat × Option Nat × Int32 => []) (st_it (fun rec15 => (fun x : Option Nat × Option Nat × Int32 => xP_reachInside_b15 gl rec15 x.1 x.2.1 x.2.2)) fu_) := by
  refine wk_it ?_ _
  intro rec15 hr15 x st H locs cells slots i j ls hw hl h hci hcj
  obtain ⟨p0, p2, p4⟩ := x
  have h : xP_reachInside_b15 gl rec15 p0 p2 p4 st = some (rF, stF, i, j) := h
  unfold xP_reachInside_b15 at h
  have hl : lh_ ls 5 [(0, (va_rf p0)), (2, (va_rf p2)), (4, (.int p4))] := hl
  refine W.eq (g2 := F0 m 15 ls []) rfl ?_
  refine lv_iload X.1 X.2.1 dd_xP_reachInside_15 (lv_at hl.1 2 rfl) ?_
  refine lv_iconst (v := (4 : Int32)) X.1 X.2.1 dd_xP_reachInside_17 (by decide) ?_
  by_cases hc18 : (4 : Int32) ≤ p4
  · rw [if_pos hc18] at h
    refine lv_icmp_ge (tgt := 38) X.1 X.2.1 dd_xP_reachInside_18 (by decide) (fun _ => ?_) (fun z => absurd hc18 z)
    refine lv_goto (tgt := 69) X.1 X.2.1 dd_xP_reachInside_38 (by decide) ?_
    obtain ⟨rfl, rfl, rfl, rfl⟩ := st_r_some h
    exact rr_vret X hw hlk hret hci hcj dd_xP_reachInside_69
  · rw [if_neg hc18] at h
    refine lv_icmp_ge (tgt := 38) X.1 X.2.1 dd_xP_reachInside_18 (by decide) (fun z => absurd z hc18) (fun _ => ?_)
    refine rr_aldn X dd_xP_reachInside_21 rfl (lv_at hl.1 0 rfl) ?_
    refine rr_aldn X dd_xP_reachInside_22 rfl (lv_at hl.1 1 rfl) ?_
    obtain ⟨t25, ht25, h⟩ := st_g_some h
    refine rr_getq X hw ff_3_2 ht25 tw_108 (Or.inl rfl) dd_xP_reachInside_23 ?_
    refine lv_iload X.1 X.2.1 dd_xP_reachInside_26 (lv_at hl.1 2 rfl) ?_
    obtain ⟨t26, ht26, h⟩ := st_g_some h
    refine rr_aald X hw (tq_6 ac) ht26 dd_xP_reachInside_28 ?_
    obtain ⟨t35, ht35, h⟩ := st_g_some h
    obtain ⟨t27, t28, t29, t30, t31, t32, ht27, h, ei, ej⟩ := st_b_some h
    refine rr_callV (n := 1) (As := [(va_rf t26)]) (rest := []) X hw (kn_ok D ac a0 gl) hKs (kc_xP_reach l D ac a0 gl p0 t26 _ _ _ _ _ ht27) tb_good tw_374 tw_91 tw_375 tw_376 se_32 ht35 (by decide +kernel) rfl (show 0 + 1 ≤ _ ∧ 8 + (2 + 11) + 0 ≤ _ from ⟨Nat.le_of_ble_eq_true rfl, Nat.le_of_ble_eq_true rfl⟩) (show cells + t29 ≤ iT ∧ slots + t30 ≤ jT from ⟨ar_1 hci ei, ar_1 hcj ej⟩) hl.1.1 (by simp [rf_cat, ic_cat]) rfl dd_xP_reachInside_29 (sk := []) rfl (fun H locs hw => ?_)
    have hci : cells + t29 + t31 = iT := ar_2 hci ei
    have hcj : slots + t30 + t32 = jT := ar_2 hcj ej
    clear ei ej
    generalize cells + t29 = t33 at hci ⊢
    generalize slots + t30 = t34 at hcj ⊢
    refine rr_iinc (k := 2) (v := (p4 + (1 : Int32))) (lv' := [(4, (.int (p4 + (1 : Int32)))), (0, (va_rf p0)), (2, (va_rf p2))]) X dd_xP_reachInside_32 hl rfl (by rw [show Int32.ofInt (1) = (1 : Int32) from by decide]) (by decide) rfl (fun ls hl => ?_)
    refine lv_goto (tgt := 15) X.1 X.2.1 dd_xP_reachInside_35 (by decide) ?_
    exact hr15 (p0, p2, (p4 + (1 : Int32))) _ _ _ _ _ _ _ _ hw (lh_pk hl [1, 2, 0] rfl) h hci hcj
set_option maxHeartbeats 4000000 in
set_option maxRecDepth 100000 in
theorem kc_xP_reachInside (l : Launch) (D : va_G) (ac : Nat → ClassId) (a0 : Nat) (gl : gl_T) (v0 : Option Nat) (v1 : Option Nat) (st : st_S) (rF : Unit) (stF : st_S) (iT jT : Nat) (h : xP_reachInside gl v0 v1 st = some (rF, stF, iT, jT)) :
    ct_ l ⟨"PromiseVats", "reachInside", "(LPromiseVats$Entity;)V"⟩ (Cond.code ⟨"PromiseVats", "reachInside", "(LPromiseVats$Entity;)V"⟩ prog_1_method_45_code 5 (Option.none : Option FieldType) :: tb_) 4 86 D cl_ ac a0 (kn_ D ac a0 gl) [(va_rf v0), (va_rf v1)] st (vb_u rF) stF iT jT := by
  refine ct_of (kn_ok D ac a0 gl) (plainFor_of_name (by decide +kernel)) (by simp [rf_cat, ic_cat]) (by simp) ?_
  intro p e s m args below meth c ls X hw hKs hlk hret hnm hl
  unfold xP_reachInside at h
  have hl : lh_ ls 5 [(0, (va_rf v0)), (1, (va_rf v1))] := hl
  obtain ⟨z0, hz0⟩ : ∃ z : Nat, 0 = z := ⟨0, rfl⟩
  obtain ⟨z1, hz1⟩ : ∃ z : Nat, 0 = z := ⟨0, rfl⟩
  refine W.cs hz0 hz1 ?_
  have hci : z0 + iT = iT := by omega
  have hcj : z1 + jT = jT := by omega
  refine rr_aldn X dd_xP_reachInside_0 rfl (lv_at hl.1 1 rfl) ?_
  obtain ⟨t1, ht1, h⟩ := st_g_some h
  refine rr_inst X hw (ti_O_y hKs) (ti_O_n hKs) ht1 tw_89 dd_xP_reachInside_1 ?_
  by_cases hc4 : t1 = 0
  · rw [if_pos hc4] at h
    refine lv_if_eq (tgt := 41) X.1 X.2.1 dd_xP_reachInside_4 (by decide) (fun _ => ?_) (fun z => absurd hc4 z)
    refine rr_aldn X dd_xP_reachInside_41 rfl (lv_at hl.1 1 rfl) ?_
    obtain ⟨t2, ht2, h⟩ := st_g_some h
    refine rr_inst X hw (ti_Q_y hKs) (ti_Q_n hKs) ht2 tw_55 dd_xP_reachInside_42 ?_
    by_cases hc45 : t2 = 0
    · rw [if_pos hc45] at h
      refine lv_if_eq (tgt := 69) X.1 X.2.1 dd_xP_reachInside_45 (by decide) (fun _ => ?_) (fun z => absurd hc45 z)
      obtain ⟨rfl, rfl, rfl, rfl⟩ := st_r_some h
      exact rr_vret X hw hlk hret hci hcj dd_xP_reachInside_69
    · rw [if_neg hc45] at h
      refine lv_if_eq (tgt := 69) X.1 X.2.1 dd_xP_reachInside_45 (by decide) (fun z => absurd z hc45) (fun _ => ?_)
      refine rr_aldn X dd_xP_reachInside_48 rfl (lv_at hl.1 1 rfl) ?_
      obtain ⟨t3, ht3, h⟩ := st_g_some h
      refine rr_cast X hw (ti_Q_y hKs) ht3 tw_55 dd_xP_reachInside_49 ?_
      refine rr_astn (lv' := [(3, (va_rf v1)), (0, (va_rf v0)), (1, (va_rf v1))]) X dd_xP_reachInside_52 rfl hl (by decide) rfl (fun ls hl => ?_)
      refine rr_aldn X dd_xP_reachInside_53 rfl (lv_at hl.1 1 rfl) ?_
      refine rr_aldn X dd_xP_reachInside_54 rfl (lv_at hl.1 0 rfl) ?_
      obtain ⟨t4, ht4, h⟩ := st_g_some h
      refine rr_getq X hw ff_4_1 ht4 tw_209 (Or.inl rfl) dd_xP_reachInside_55 ?_
      obtain ⟨t23, ht23, h⟩ := st_g_some h
      obtain ⟨t5, t6, t7, t8, t9, t10, ht5, h, ei, ej⟩ := st_b_some h
      refine rr_callV (n := 1) (As := [(va_rf t4)]) (rest := []) X hw (kn_ok D ac a0 gl) hKs (kc_xP_reach l D ac a0 gl v0 t4 _ _ _ _ _ ht5) tb_good tw_374 tw_91 tw_375 tw_376 se_32 ht23 (by decide +kernel) rfl (show 0 + 1 ≤ _ ∧ 8 + (2 + 11) + 0 ≤ _ from ⟨Nat.le_of_ble_eq_true rfl, Nat.le_of_ble_eq_true rfl⟩) (show z0 + t7 ≤ iT ∧ z1 + t8 ≤ jT from ⟨ar_1 hci ei, ar_1 hcj ej⟩) hl.1.1 (by simp [rf_cat, ic_cat]) rfl dd_xP_reachInside_58 (sk := []) rfl (fun H locs hw => ?_)
      have hci : z0 + t7 + t9 = iT := ar_2 hci ei
      have hcj : z1 + t8 + t10 = jT := ar_2 hcj ej
      clear ei ej
      generalize z0 + t7 = t11 at hci ⊢
      generalize z1 + t8 = t12 at hcj ⊢
      refine rr_aldn X dd_xP_reachInside_61 rfl (lv_at hl.1 1 rfl) ?_
      refine rr_aldn X dd_xP_reachInside_62 rfl (lv_at hl.1 0 rfl) ?_
      obtain ⟨t13, ht13, h⟩ := st_g_some h
      refine rr_getq X hw ff_4_2 ht13 tw_169 (Or.inl rfl) dd_xP_reachInside_63 ?_
      obtain ⟨t22, ht22, h⟩ := st_g_some h
      obtain ⟨t14, t15, t16, t17, t18, t19, ht14, h, ei, ej⟩ := st_b_some h
      refine rr_callV (n := 1) (As := [(va_rf t13)]) (rest := []) X hw (kn_ok D ac a0 gl) hKs (kc_xP_reachCalls l D ac a0 gl v0 t13 _ _ _ _ _ ht14) tb_good tw_387 tw_91 tw_388 tw_389 se_35 ht22 (by decide +kernel) rfl (show 3 + 1 ≤ _ ∧ 8 + (3 + 11) + 64 ≤ _ from ⟨Nat.le_of_ble_eq_true rfl, Nat.le_of_ble_eq_true rfl⟩) (show t11 + t16 ≤ iT ∧ t12 + t17 ≤ jT from ⟨ar_1 hci ei, ar_1 hcj ej⟩) hl.1.1 (by simp [rf_cat, ic_cat]) rfl dd_xP_reachInside_66 (sk := []) rfl (fun H locs hw => ?_)
      have hci : t11 + t16 + t18 = iT := ar_2 hci ei
      have hcj : t12 + t17 + t19 = jT := ar_2 hcj ej
      clear ei ej
      generalize t11 + t16 = t20 at hci ⊢
      generalize t12 + t17 = t21 at hcj ⊢
      obtain ⟨rfl, rfl, rfl, rfl⟩ := st_r_some h
      exact rr_vret X hw hlk hret hci hcj dd_xP_reachInside_69
  · rw [if_neg hc4] at h
    refine lv_if_eq (tgt := 41) X.1 X.2.1 dd_xP_reachInside_4 (by decide) (fun z => absurd z hc4) (fun _ => ?_)
    refine rr_aldn X dd_xP_reachInside_7 rfl (lv_at hl.1 1 rfl) ?_
    obtain ⟨t24, ht24, h⟩ := st_g_some h
    refine rr_cast X hw (ti_O_y hKs) ht24 tw_89 dd_xP_reachInside_8 ?_
    refine rr_astn (lv' := [(2, (va_rf v1)), (0, (va_rf v0)), (1, (va_rf v1))]) X dd_xP_reachInside_11 rfl hl (by decide) rfl (fun ls hl => ?_)
    refine lv_iconst (v := (0 : Int32)) X.1 X.2.1 dd_xP_reachInside_12 (by decide) ?_
    refine rr_ist (lv' := [(4, (.int (0 : Int32))), (2, (va_rf v1)), (0, (va_rf v0)), (1, (va_rf v1))]) X dd_xP_reachInside_13 hl (by decide) rfl (fun ls hl => ?_)
    exact (kb_xP_reachInside_b15 X hKs hlk hret hnm) (v0, v1, (0 : Int32)) _ _ _ _ _ _ _ _ hw (lh_pk hl [2, 1, 0] rfl) h hci hcj
