/-! PromiseVats.reachCalls(Ljava/util/ArrayList;)V -/
theorem dd_xP_reachCalls_0 : decode prog_1_method_44_code 0 = .ok (.iconst 0, 1) := by decide +kernel
theorem dd_xP_reachCalls_1 : decode prog_1_method_44_code 1 = .ok (.istore_n 2, 1) := by decide +kernel
theorem dd_xP_reachCalls_2 : decode prog_1_method_44_code 2 = .ok (.iload_n 2, 1) := by decide +kernel
theorem dd_xP_reachCalls_3 : decode prog_1_method_44_code 3 = .ok (.aload_n 1, 1) := by decide +kernel
theorem dd_xP_reachCalls_4 : decode prog_1_method_44_code 4 = .ok (.invokevirtual 106, 3) := by decide +kernel
theorem dd_xP_reachCalls_7 : decode prog_1_method_44_code 7 = .ok (.if_icmp .ge 39, 3) := by decide +kernel
theorem dd_xP_reachCalls_10 : decode prog_1_method_44_code 10 = .ok (.aload_n 0, 1) := by decide +kernel
theorem dd_xP_reachCalls_11 : decode prog_1_method_44_code 11 = .ok (.aload_n 1, 1) := by decide +kernel
theorem dd_xP_reachCalls_12 : decode prog_1_method_44_code 12 = .ok (.iload_n 2, 1) := by decide +kernel
theorem dd_xP_reachCalls_13 : decode prog_1_method_44_code 13 = .ok (.invokevirtual 307, 3) := by decide +kernel
theorem dd_xP_reachCalls_16 : decode prog_1_method_44_code 16 = .ok (.checkcast 112, 3) := by decide +kernel
theorem dd_xP_reachCalls_19 : decode prog_1_method_44_code 19 = .ok (.getfield 129, 3) := by decide +kernel
theorem dd_xP_reachCalls_22 : decode prog_1_method_44_code 22 = .ok (.invokevirtual 337, 3) := by decide +kernel
theorem dd_xP_reachCalls_25 : decode prog_1_method_44_code 25 = .ok (.aload_n 0, 1) := by decide +kernel
theorem dd_xP_reachCalls_26 : decode prog_1_method_44_code 26 = .ok (.aload_n 1, 1) := by decide +kernel
theorem dd_xP_reachCalls_27 : decode prog_1_method_44_code 27 = .ok (.iload_n 2, 1) := by decide +kernel
theorem dd_xP_reachCalls_28 : decode prog_1_method_44_code 28 = .ok (.invokevirtual 307, 3) := by decide +kernel
theorem dd_xP_reachCalls_31 : decode prog_1_method_44_code 31 = .ok (.checkcast 112, 3) := by decide +kernel
theorem dd_xP_reachCalls_34 : decode prog_1_method_44_code 34 = .ok (.getfield 313, 3) := by decide +kernel
theorem dd_xP_reachCalls_37 : decode prog_1_method_44_code 37 = .ok (.invokevirtual 337, 3) := by decide +kernel
theorem dd_xP_reachCalls_40 : decode prog_1_method_44_code 40 = .ok (.iinc 2 1, 3) := by decide +kernel
theorem dd_xP_reachCalls_43 : decode prog_1_method_44_code 43 = .ok (.goto (-41), 3) := by decide +kernel
theorem dd_xP_reachCalls_46 : decode prog_1_method_44_code 46 = .ok (.return_, 1) := by decide +kernel
set_option maxHeartbeats 4000000 in
set_option maxRecDepth 100000 in
theorem kb_xP_reachCalls_b2 {p : Program} {l : Launch} {e : Env} {s : State} {m : MethodId} {args : Array Value} {below : List Frame} {meth : Method} {c : Code} {D : va_G} {ac : Nat → ClassId} {a0 : Nat} {gl : gl_T} {rF : Unit} {stF : st_S} {iT jT : Nat}
    (X : cx_ p s m args c prog_1_method_44_code 3 "PromiseVats" tb_ D cl_ (ty_ ac)) (hKs : kn_ D ac a0 gl s) (hlk : meth.locks = false) (hret : meth.sig.returnType = (Option.none : Option FieldType)) (hnm : meth.name = "reachCalls") : wk_ p l e 3 64 s m args below meth c D cl_ ac a0 3 vb_u rF stF iT jT 2 (fun x : Option Nat × Option Nat × Int32 => [(0, (va_rf x.1)), (1, (va_rf x.2.1)), (2, (.int x.2.2))]) (fun x : Option Nat × Option Nat × Int32 => []) (st_it (fun rec2 => (fun x : Option Nat × Option Nat × Int32 => xP_reachCalls_b2 gl rec2 x.1 x.2.1 x.2.2)) fu_) := by
  refine wk_it ?_ _
  intro rec2 hr2 x st H locs cells slots i j ls hw hl h hci hcj
  obtain ⟨p0, p1, p2⟩ := x
  have h : xP_reachCalls_b2 gl rec2 p0 p1 p2 st = some (rF, stF, i, j) := h
  unfold xP_reachCalls_b2 at h
  have hl : lh_ ls 3 [(0, (va_rf p0)), (1, (va_rf p1)), (2, (.int p2))] := hl
  refine W.eq (g2 := F0 m 2 ls []) rfl ?_
  refine lv_iload_n X.1 X.2.1 dd_xP_reachCalls_2 rfl (lv_at hl.1 2 rfl) ?_
  refine rr_aldn X dd_xP_reachCalls_3 rfl (lv_at hl.1 1 rfl) ?_
  obtain ⟨t39, ht39, h⟩ := st_g_some h
  obtain ⟨t1, t2, t3, t4, t5, t6, ht1, h, ei, ej⟩ := st_b_some h
  refine rr_callV (n := 0) (As := []) (rest := [(.int p2)]) X hw (kn_ok D ac a0 gl) hKs (kc_al_size l D ac a0 gl p1 _ _ _ _ _ ht1) tb_good tw_174 tw_33 tw_175 tw_176 se_6 ht39 (by decide +kernel) rfl (show 0 + 1 ≤ _ ∧ 8 + (1 + 11) + 0 ≤ _ from ⟨Nat.le_of_ble_eq_true rfl, Nat.le_of_ble_eq_true rfl⟩) (show cells + t3 ≤ _ ∧ slots + t4 ≤ _ from ⟨by show _ ≤ iT; omega, by show _ ≤ jT; omega⟩) hl.1.1 (by simp [rf_cat, ic_cat]) rfl dd_xP_reachCalls_4 (sk := [(.int t1), (.int p2)]) rfl (fun H locs hw => ?_)
  have hci : cells + t3 + t5 = iT := by omega
  have hcj : slots + t4 + t6 = jT := by omega
  clear ei ej
  by_cases hc7 : t1 ≤ p2
  · rw [if_pos hc7] at h
    refine lv_icmp_ge (tgt := 46) X.1 X.2.1 dd_xP_reachCalls_7 (by decide) (fun _ => ?_) (fun z => absurd hc7 z)
    obtain ⟨rfl, rfl, rfl, rfl⟩ := st_r_some h
    exact rr_vret X hw hlk hret (by omega) (by omega) dd_xP_reachCalls_46
  · rw [if_neg hc7] at h
    refine lv_icmp_ge (tgt := 46) X.1 X.2.1 dd_xP_reachCalls_7 (by decide) (fun z => absurd z hc7) (fun _ => ?_)
    refine rr_aldn X dd_xP_reachCalls_10 rfl (lv_at hl.1 0 rfl) ?_
    refine rr_aldn X dd_xP_reachCalls_11 rfl (lv_at hl.1 1 rfl) ?_
    refine lv_iload_n X.1 X.2.1 dd_xP_reachCalls_12 rfl (lv_at hl.1 2 rfl) ?_
    obtain ⟨t38, ht38, h⟩ := st_g_some h
    obtain ⟨t7, t8, t9, t10, t11, t12, ht7, h, ei, ej⟩ := st_b_some h
    refine rr_callV (n := 1) (As := [(.int p2)]) (rest := [(va_rf p0)]) X hw (kn_ok D ac a0 gl) hKs (kc_al_get l D ac a0 gl p1 p2 _ _ _ _ _ ht7) tb_good tw_295 tw_33 tw_296 tw_297 se_17 ht38 (by decide +kernel) rfl (show 2 + 1 ≤ _ ∧ 8 + (2 + 11) + 43 ≤ _ from ⟨Nat.le_of_ble_eq_true rfl, Nat.le_of_ble_eq_true rfl⟩) (show cells + t3 + t9 ≤ _ ∧ slots + t4 + t10 ≤ _ from ⟨by show _ ≤ iT; omega, by show _ ≤ jT; omega⟩) hl.1.1 (by simp [rf_cat, ic_cat]) rfl dd_xP_reachCalls_13 (sk := [(va_rf t7), (va_rf p0)]) rfl (fun H locs hw => ?_)
    have hci : cells + t3 + t9 + t11 = iT := by omega
    have hcj : slots + t4 + t10 + t12 = jT := by omega
    clear ei ej
    obtain ⟨t13, ht13, h⟩ := st_g_some h
    refine rr_cast X hw (ti_C_y hKs) ht13 tw_223 dd_xP_reachCalls_16 ?_
    obtain ⟨t14, ht14, h⟩ := st_g_some h
    refine rr_getq X hw ff_8_0 ht14 tw_199 (Or.inl rfl) dd_xP_reachCalls_19 ?_
    obtain ⟨t37, ht37, h⟩ := st_g_some h
    obtain ⟨t15, t16, t17, t18, t19, t20, ht15, h, ei, ej⟩ := st_b_some h
    refine rr_callV (n := 1) (As := [(va_rf t14)]) (rest := []) X hw (kn_ok D ac a0 gl) hKs (kc_xP_reach l D ac a0 gl p0 t14 _ _ _ _ _ ht15) tb_good tw_374 tw_91 tw_375 tw_376 se_32 ht37 (by decide +kernel) rfl (show 0 + 1 ≤ _ ∧ 8 + (2 + 11) + 0 ≤ _ from ⟨Nat.le_of_ble_eq_true rfl, Nat.le_of_ble_eq_true rfl⟩) (show cells + t3 + t9 + t17 ≤ _ ∧ slots + t4 + t10 + t18 ≤ _ from ⟨by show _ ≤ iT; omega, by show _ ≤ jT; omega⟩) hl.1.1 (by simp [rf_cat, ic_cat]) rfl dd_xP_reachCalls_22 (sk := []) rfl (fun H locs hw => ?_)
    have hci : cells + t3 + t9 + t17 + t19 = iT := by omega
    have hcj : slots + t4 + t10 + t18 + t20 = jT := by omega
    clear ei ej
    refine rr_aldn X dd_xP_reachCalls_25 rfl (lv_at hl.1 0 rfl) ?_
    refine rr_aldn X dd_xP_reachCalls_26 rfl (lv_at hl.1 1 rfl) ?_
    refine lv_iload_n X.1 X.2.1 dd_xP_reachCalls_27 rfl (lv_at hl.1 2 rfl) ?_
    obtain ⟨t36, ht36, h⟩ := st_g_some h
    obtain ⟨t21, t22, t23, t24, t25, t26, ht21, h, ei, ej⟩ := st_b_some h
    refine rr_callV (n := 1) (As := [(.int p2)]) (rest := [(va_rf p0)]) X hw (kn_ok D ac a0 gl) hKs (kc_al_get l D ac a0 gl p1 p2 _ _ _ _ _ ht21) tb_good tw_295 tw_33 tw_296 tw_297 se_17 ht36 (by decide +kernel) rfl (show 2 + 1 ≤ _ ∧ 8 + (2 + 11) + 43 ≤ _ from ⟨Nat.le_of_ble_eq_true rfl, Nat.le_of_ble_eq_true rfl⟩) (show cells + t3 + t9 + t17 + t23 ≤ _ ∧ slots + t4 + t10 + t18 + t24 ≤ _ from ⟨by show _ ≤ iT; omega, by show _ ≤ jT; omega⟩) hl.1.1 (by simp [rf_cat, ic_cat]) rfl dd_xP_reachCalls_28 (sk := [(va_rf t21), (va_rf p0)]) rfl (fun H locs hw => ?_)
    have hci : cells + t3 + t9 + t17 + t23 + t25 = iT := by omega
    have hcj : slots + t4 + t10 + t18 + t24 + t26 = jT := by omega
    clear ei ej
    obtain ⟨t27, ht27, h⟩ := st_g_some h
    refine rr_cast X hw (ti_C_y hKs) ht27 tw_223 dd_xP_reachCalls_31 ?_
    obtain ⟨t28, ht28, h⟩ := st_g_some h
    refine rr_getq X hw ff_8_2 ht28 tw_198 (Or.inl rfl) dd_xP_reachCalls_34 ?_
    obtain ⟨t35, ht35, h⟩ := st_g_some h
    obtain ⟨t29, t30, t31, t32, t33, t34, ht29, h, ei, ej⟩ := st_b_some h
    refine rr_callV (n := 1) (As := [(va_rf t28)]) (rest := []) X hw (kn_ok D ac a0 gl) hKs (kc_xP_reach l D ac a0 gl p0 t28 _ _ _ _ _ ht29) tb_good tw_374 tw_91 tw_375 tw_376 se_32 ht35 (by decide +kernel) rfl (show 0 + 1 ≤ _ ∧ 8 + (2 + 11) + 0 ≤ _ from ⟨Nat.le_of_ble_eq_true rfl, Nat.le_of_ble_eq_true rfl⟩) (show cells + t3 + t9 + t17 + t23 + t31 ≤ _ ∧ slots + t4 + t10 + t18 + t24 + t32 ≤ _ from ⟨by show _ ≤ iT; omega, by show _ ≤ jT; omega⟩) hl.1.1 (by simp [rf_cat, ic_cat]) rfl dd_xP_reachCalls_37 (sk := []) rfl (fun H locs hw => ?_)
    have hci : cells + t3 + t9 + t17 + t23 + t31 + t33 = iT := by omega
    have hcj : slots + t4 + t10 + t18 + t24 + t32 + t34 = jT := by omega
    clear ei ej
    refine rr_iinc (k := 2) (v := (p2 + (1 : Int32))) (lv' := [(2, (.int (p2 + (1 : Int32)))), (0, (va_rf p0)), (1, (va_rf p1))]) X dd_xP_reachCalls_40 hl rfl (by rw [show Int32.ofInt (1) = (1 : Int32) from by decide]) (by decide) rfl (fun ls hl => ?_)
    refine lv_goto (tgt := 2) X.1 X.2.1 dd_xP_reachCalls_43 (by decide) ?_
    exact hr2 (p0, p1, (p2 + (1 : Int32))) _ _ _ _ _ _ _ _ hw (lh_pk hl [1, 2, 0] rfl) h hci hcj
set_option maxHeartbeats 4000000 in
set_option maxRecDepth 100000 in
theorem kc_xP_reachCalls (l : Launch) (D : va_G) (ac : Nat → ClassId) (a0 : Nat) (gl : gl_T) (v0 : Option Nat) (v1 : Option Nat) (st : st_S) (rF : Unit) (stF : st_S) (iT jT : Nat) (h : xP_reachCalls gl v0 v1 st = some (rF, stF, iT, jT)) :
    ct_ l ⟨"PromiseVats", "reachCalls", "(Ljava/util/ArrayList;)V"⟩ (Cond.code ⟨"PromiseVats", "reachCalls", "(Ljava/util/ArrayList;)V"⟩ prog_1_method_44_code 3 (Option.none : Option FieldType) :: tb_) 3 64 D cl_ ac a0 (kn_ D ac a0 gl) [(va_rf v0), (va_rf v1)] st (vb_u rF) stF iT jT := by
  refine ct_of (kn_ok D ac a0 gl) (plainFor_of_name (by decide +kernel)) (by simp [rf_cat, ic_cat]) (by simp) ?_
  intro p e s m args below meth c ls X hw hKs hlk hret hnm hl
  unfold xP_reachCalls at h
  have hl : lh_ ls 3 [(0, (va_rf v0)), (1, (va_rf v1))] := hl
  have hci : 0 + iT = iT := Nat.zero_add _
  have hcj : 0 + jT = jT := Nat.zero_add _
  refine lv_iconst (v := (0 : Int32)) X.1 X.2.1 dd_xP_reachCalls_0 (by decide) ?_
  refine rr_istn (lv' := [(2, (.int (0 : Int32))), (0, (va_rf v0)), (1, (va_rf v1))]) X dd_xP_reachCalls_1 rfl hl (by decide) rfl (fun ls hl => ?_)
  exact (kb_xP_reachCalls_b2 X hKs hlk hret hnm) (v0, v1, (0 : Int32)) _ _ _ _ _ _ _ _ hw (lh_pk hl [1, 2, 0] rfl) h hci hcj
/-! PromiseVats.reachInside(LPromiseVats$Entity;)V -/
theorem dd_xP_reachInside_0 : decode prog_1_method_45_code 0 = .ok (.aload_n 1, 1) := by decide +kernel
theorem dd_xP_reachInside_1 : decode prog_1_method_45_code 1 = .ok (.instanceof 53, 3) := by decide +kernel
theorem dd_xP_reachInside_4 : decode prog_1_method_45_code 4 = .ok (.ifCond .eq 37, 3) := by decide +kernel
theorem dd_xP_reachInside_7 : decode prog_1_method_45_code 7 = .ok (.aload_n 1, 1) := by decide +kernel
theorem dd_xP_reachInside_8 : decode prog_1_method_45_code 8 = .ok (.checkcast 53, 3) := by decide +kernel
theorem dd_xP_reachInside_11 : decode prog_1_method_45_code 11 = .ok (.astore_n 2, 1) := by decide +kernel
theorem dd_xP_reachInside_12 : decode prog_1_method_45_code 12 = .ok (.iconst 0, 1) := by decide +kernel
theorem dd_xP_reachInside_13 : decode prog_1_method_45_code 13 = .ok (.istore 4, 2) := by decide +kernel
theorem dd_xP_reachInside_15 : decode prog_1_method_45_code 15 = .ok (.iload 4, 2) := by decide +kernel
theorem dd_xP_reachInside_17 : decode prog_1_method_45_code 17 = .ok (.iconst 4, 1) := by decide +kernel
theorem dd_xP_reachInside_18 : decode prog_1_method_45_code 18 = .ok (.if_icmp .ge 20, 3) := by decide +kernel
theorem dd_xP_reachInside_21 : decode prog_1_method_45_code 21 = .ok (.aload_n 0, 1) := by decide +kernel
theorem dd_xP_reachInside_22 : decode prog_1_method_45_code 22 = .ok (.aload_n 2, 1) := by decide +kernel
theorem dd_xP_reachInside_23 : decode prog_1_method_45_code 23 = .ok (.getfield 93, 3) := by decide +kernel
theorem dd_xP_reachInside_26 : decode prog_1_method_45_code 26 = .ok (.iload 4, 2) := by decide +kernel
theorem dd_xP_reachInside_28 : decode prog_1_method_45_code 28 = .ok (.aaload, 1) := by decide +kernel
theorem dd_xP_reachInside_29 : decode prog_1_method_45_code 29 = .ok (.invokevirtual 337, 3) := by decide +kernel
theorem dd_xP_reachInside_32 : decode prog_1_method_45_code 32 = .ok (.iinc 4 1, 3) := by decide +kernel
theorem dd_xP_reachInside_35 : decode prog_1_method_45_code 35 = .ok (.goto (-20), 3) := by decide +kernel
theorem dd_xP_reachInside_38 : decode prog_1_method_45_code 38 = .ok (.goto 31, 3) := by decide +kernel
theorem dd_xP_reachInside_41 : decode prog_1_method_45_code 41 = .ok (.aload_n 1, 1) := by decide +kernel
theorem dd_xP_reachInside_42 : decode prog_1_method_45_code 42 = .ok (.instanceof 43, 3) := by decide +kernel
theorem dd_xP_reachInside_45 : decode prog_1_method_45_code 45 = .ok (.ifCond .eq 24, 3) := by decide +kernel
theorem dd_xP_reachInside_48 : decode prog_1_method_45_code 48 = .ok (.aload_n 1, 1) := by decide +kernel
theorem dd_xP_reachInside_49 : decode prog_1_method_45_code 49 = .ok (.checkcast 43, 3) := by decide +kernel
theorem dd_xP_reachInside_52 : decode prog_1_method_45_code 52 = .ok (.astore_n 3, 1) := by decide +kernel
theorem dd_xP_reachInside_53 : decode prog_1_method_45_code 53 = .ok (.aload_n 0, 1) := by decide +kernel
theorem dd_xP_reachInside_54 : decode prog_1_method_45_code 54 = .ok (.aload_n 3, 1) := by decide +kernel
theorem dd_xP_reachInside_55 : decode prog_1_method_45_code 55 = .ok (.getfield 233, 3) := by decide +kernel
theorem dd_xP_reachInside_58 : decode prog_1_method_45_code 58 = .ok (.invokevirtual 337, 3) := by decide +kernel
theorem dd_xP_reachInside_61 : decode prog_1_method_45_code 61 = .ok (.aload_n 0, 1) := by decide +kernel
theorem dd_xP_reachInside_62 : decode prog_1_method_45_code 62 = .ok (.aload_n 3, 1) := by decide +kernel
theorem dd_xP_reachInside_63 : decode prog_1_method_45_code 63 = .ok (.getfield 285, 3) := by decide +kernel
theorem dd_xP_reachInside_66 : decode prog_1_method_45_code 66 = .ok (.invokevirtual 344, 3) := by decide +kernel
theorem dd_xP_reachInside_69 : decode prog_1_method_45_code 69 = .ok (.return_, 1) := by decide +kernel
set_option maxHeartbeats 4000000 in
set_option maxRecDepth 100000 in
theorem kb_xP_reachInside_b15 {p : Program} {l : Launch} {e : Env} {s : State} {m : MethodId} {args : Array Value} {below : List Frame} {meth : Method} {c : Code} {D : va_G} {ac : Nat → ClassId} {a0 : Nat} {gl : gl_T} {rF : Unit} {stF : st_S} {iT jT : Nat}
    (X : cx_ p s m args c prog_1_method_45_code 5 "PromiseVats" tb_ D cl_ (ty_ ac)) (hKs : kn_ D ac a0 gl s) (hlk : meth.locks = false) (hret : meth.sig.returnType = (Option.none : Option FieldType)) (hnm : meth.name = "reachInside") : wk_ p l e 4 86 s m args below meth c D cl_ ac a0 5 vb_u rF stF iT jT 15 (fun x : Option Nat × Option Nat × Int32 => [(0, (va_rf x.1)), (2, (va_rf x.2.1)), (4, (.int x.2.2))]) (fun x : Option Nat × Option Nat × Int32 => []) (st_it (fun rec15 => (fun x : Option Nat × Option Nat × Int32 => xP_reachInside_b15 gl rec15 x.1 x.2.1 x.2.2)) fu_) := by
  refine wk_it ?_ _
  intro rec15 hr15 x st H locs cells slots i j ls hw hl h hci hcj
  obtain ⟨p0, p2, p4⟩ := x
  have h : xP_reachInside_b15 gl rec15 p0 p2 p4 st = some (rF, stF, i, j) := h
  unfold xP_reachInside_b15 at h
  have hl : lh_ ls 5 [(0, (va_rf p0)), (2, (va_rf p2)), (4, (.int p4))] := hl
  refine W.eq (g2 := F0 m 15 ls []) rfl ?_
  refine lv_iload X.1 X.2.1 dd_xP_reachInside_15 (lv_at hl.1 2 rfl) ?_
  refine lv_iconst (v := (4 : Int32)) X.1 X.2.1 dd_xP_reachInside_17 (by decide) ?_
  by_cases hc18 : (4 : Int32) ≤ p4
  · rw [if_pos hc18] at h
    refine lv_icmp_ge (tgt := 38) X.1 X.2.1 dd_xP_reachInside_18 (by decide) (fun _ => ?_) (fun z => absurd hc18 z)
    refine lv_goto (tgt := 69) X.1 X.2.1 dd_xP_reachInside_38 (by decide) ?_
    obtain ⟨rfl, rfl, rfl, rfl⟩ := st_r_some h
    exact rr_vret X hw hlk hret (by omega) (by omega) dd_xP_reachInside_69
  · rw [if_neg hc18] at h
    refine lv_icmp_ge (tgt := 38) X.1 X.2.1 dd_xP_reachInside_18 (by decide) (fun z => absurd z hc18) (fun _ => ?_)
    refine rr_aldn X dd_xP_reachInside_21 rfl (lv_at hl.1 0 rfl) ?_
    refine rr_aldn X dd_xP_reachInside_22 rfl (lv_at hl.1 1 rfl) ?_
    obtain ⟨t21, ht21, h⟩ := st_g_some h
    refine rr_getq X hw ff_3_2 ht21 tw_108 (Or.inl rfl) dd_xP_reachInside_23 ?_
    refine lv_iload X.1 X.2.1 dd_xP_reachInside_26 (lv_at hl.1 2 rfl) ?_
    obtain ⟨t22, ht22, h⟩ := st_g_some h
    refine rr_aald X hw (tq_6 ac) ht22 dd_xP_reachInside_28 ?_
    obtain ⟨t29, ht29, h⟩ := st_g_some h
    obtain ⟨t23, t24, t25, t26, t27, t28, ht23, h, ei, ej⟩ := st_b_some h
    refine rr_callV (n := 1) (As := [(va_rf t22)]) (rest := []) X hw (kn_ok D ac a0 gl) hKs (kc_xP_reach l D ac a0 gl p0 t22 _ _ _ _ _ ht23) tb_good tw_374 tw_91 tw_375 tw_376 se_32 ht29 (by decide +kernel) rfl (show 0 + 1 ≤ _ ∧ 8 + (2 + 11) + 0 ≤ _ from ⟨Nat.le_of_ble_eq_true rfl, Nat.le_of_ble_eq_true rfl⟩) (show cells + t25 ≤ _ ∧ slots + t26 ≤ _ from ⟨by show _ ≤ iT; omega, by show _ ≤ jT; omega⟩) hl.1.1 (by simp [rf_cat, ic_cat]) rfl dd_xP_reachInside_29 (sk := []) rfl (fun H locs hw => ?_)
    have hci : cells + t25 + t27 = iT := by omega
    have hcj : slots + t26 + t28 = jT := by omega
    clear ei ej
    refine rr_iinc (k := 2) (v := (p4 + (1 : Int32))) (lv' := [(4, (.int (p4 + (1 : Int32)))), (0, (va_rf p0)), (2, (va_rf p2))]) X dd_xP_reachInside_32 hl rfl (by rw [show Int32.ofInt (1) = (1 : Int32) from by decide]) (by decide) rfl (fun ls hl => ?_)
    refine lv_goto (tgt := 15) X.1 X.2.1 dd_xP_reachInside_35 (by decide) ?_
    exact hr15 (p0, p2, (p4 + (1 : Int32))) _ _ _ _ _ _ _ _ hw (lh_pk hl [1, 2, 0] rfl) h hci hcj
set_option maxHeartbeats 4000000 in
set_option maxRecDepth 100000 in
theorem kc_xP_reachInside (l : Launch) (D : va_G) (ac : Nat → ClassId) (a0 : Nat) (gl : gl_T) (v0 : Option Nat) (v1 : Option Nat) (st : st_S) (rF : Unit) (stF : st_S) (iT jT : Nat) (h : xP_reachInside gl v0 v1 st = some (rF, stF, iT, jT)) :
    ct_ l ⟨"PromiseVats", "reachInside", "(LPromiseVats$Entity;)V"⟩ (Cond.code ⟨"PromiseVats", "reachInside", "(LPromiseVats$Entity;)V"⟩ prog_1_method_45_code 5 (Option.none : Option FieldType) :: tb_) 4 86 D cl_ ac a0 (kn_ D ac a0 gl) [(va_rf v0), (va_rf v1)] st (vb_u rF) stF iT jT := by
  refine ct_of (kn_ok D ac a0 gl) (plainFor_of_name (by decide +kernel)) (by simp [rf_cat, ic_cat]) (by simp) ?_
  intro p e s m args below meth c ls X hw hKs hlk hret hnm hl
  unfold xP_reachInside at h
  have hl : lh_ ls 5 [(0, (va_rf v0)), (1, (va_rf v1))] := hl
  have hci : 0 + iT = iT := Nat.zero_add _
  have hcj : 0 + jT = jT := Nat.zero_add _
  refine rr_aldn X dd_xP_reachInside_0 rfl (lv_at hl.1 1 rfl) ?_
  obtain ⟨t1, ht1, h⟩ := st_g_some h
  refine rr_inst X hw (ti_O_y hKs) (ti_O_n hKs) ht1 tw_89 dd_xP_reachInside_1 ?_
  by_cases hc4 : t1 = 0
  · rw [if_pos hc4] at h
    refine lv_if_eq (tgt := 41) X.1 X.2.1 dd_xP_reachInside_4 (by decide) (fun _ => ?_) (fun z => absurd hc4 z)
    refine rr_aldn X dd_xP_reachInside_41 rfl (lv_at hl.1 1 rfl) ?_
    obtain ⟨t2, ht2, h⟩ := st_g_some h
    refine rr_inst X hw (ti_Q_y hKs) (ti_Q_n hKs) ht2 tw_55 dd_xP_reachInside_42 ?_
    by_cases hc45 : t2 = 0
    · rw [if_pos hc45] at h
      refine lv_if_eq (tgt := 69) X.1 X.2.1 dd_xP_reachInside_45 (by decide) (fun _ => ?_) (fun z => absurd hc45 z)
      obtain ⟨rfl, rfl, rfl, rfl⟩ := st_r_some h
      exact rr_vret X hw hlk hret (by omega) (by omega) dd_xP_reachInside_69
    · rw [if_neg hc45] at h
      refine lv_if_eq (tgt := 69) X.1 X.2.1 dd_xP_reachInside_45 (by decide) (fun z => absurd z hc45) (fun _ => ?_)
      refine rr_aldn X dd_xP_reachInside_48 rfl (lv_at hl.1 1 rfl) ?_
      obtain ⟨t3, ht3, h⟩ := st_g_some h
      refine rr_cast X hw (ti_Q_y hKs) ht3 tw_55 dd_xP_reachInside_49 ?_
      refine rr_astn (lv' := [(3, (va_rf v1)), (0, (va_rf v0)), (1, (va_rf v1))]) X dd_xP_reachInside_52 rfl hl (by decide) rfl (fun ls hl => ?_)
      refine rr_aldn X dd_xP_reachInside_53 rfl (lv_at hl.1 1 rfl) ?_
      refine rr_aldn X dd_xP_reachInside_54 rfl (lv_at hl.1 0 rfl) ?_
      obtain ⟨t4, ht4, h⟩ := st_g_some h
      refine rr_getq X hw ff_4_1 ht4 tw_209 (Or.inl rfl) dd_xP_reachInside_55 ?_
      obtain ⟨t19, ht19, h⟩ := st_g_some h
      obtain ⟨t5, t6, t7, t8, t9, t10, ht5, h, ei, ej⟩ := st_b_some h
      refine rr_callV (n := 1) (As := [(va_rf t4)]) (rest := []) X hw (kn_ok D ac a0 gl) hKs (kc_xP_reach l D ac a0 gl v0 t4 _ _ _ _ _ ht5) tb_good tw_374 tw_91 tw_375 tw_376 se_32 ht19 (by decide +kernel) rfl (show 0 + 1 ≤ _ ∧ 8 + (2 + 11) + 0 ≤ _ from ⟨Nat.le_of_ble_eq_true rfl, Nat.le_of_ble_eq_true rfl⟩) (show 0 + t7 ≤ _ ∧ 0 + t8 ≤ _ from ⟨by show _ ≤ iT; omega, by show _ ≤ jT; omega⟩) hl.1.1 (by simp [rf_cat, ic_cat]) rfl dd_xP_reachInside_58 (sk := []) rfl (fun H locs hw => ?_)
      have hci : 0 + t7 + t9 = iT := by omega
      have hcj : 0 + t8 + t10 = jT := by omega
      clear ei ej
      refine rr_aldn X dd_xP_reachInside_61 rfl (lv_at hl.1 1 rfl) ?_
      refine rr_aldn X dd_xP_reachInside_62 rfl (lv_at hl.1 0 rfl) ?_
      obtain ⟨t11, ht11, h⟩ := st_g_some h
      refine rr_getq X hw ff_4_2 ht11 tw_169 (Or.inl rfl) dd_xP_reachInside_63 ?_
      obtain ⟨t18, ht18, h⟩ := st_g_some h
      obtain ⟨t12, t13, t14, t15, t16, t17, ht12, h, ei, ej⟩ := st_b_some h
      refine rr_callV (n := 1) (As := [(va_rf t11)]) (rest := []) X hw (kn_ok D ac a0 gl) hKs (kc_xP_reachCalls l D ac a0 gl v0 t11 _ _ _ _ _ ht12) tb_good tw_387 tw_91 tw_388 tw_389 se_35 ht18 (by decide +kernel) rfl (show 3 + 1 ≤ _ ∧ 8 + (3 + 11) + 64 ≤ _ from ⟨Nat.le_of_ble_eq_true rfl, Nat.le_of_ble_eq_true rfl⟩) (show 0 + t7 + t14 ≤ _ ∧ 0 + t8 + t15 ≤ _ from ⟨by show _ ≤ iT; omega, by show _ ≤ jT; omega⟩) hl.1.1 (by simp [rf_cat, ic_cat]) rfl dd_xP_reachInside_66 (sk := []) rfl (fun H locs hw => ?_)
      have hci : 0 + t7 + t14 + t16 = iT := by omega
      have hcj : 0 + t8 + t15 + t17 = jT := by omega
      clear ei ej
      obtain ⟨rfl, rfl, rfl, rfl⟩ := st_r_some h
      exact rr_vret X hw hlk hret (by omega) (by omega) dd_xP_reachInside_69
  · rw [if_neg hc4] at h
    refine lv_if_eq (tgt := 41) X.1 X.2.1 dd_xP_reachInside_4 (by decide) (fun z => absurd z hc4) (fun _ => ?_)
    refine rr_aldn X dd_xP_reachInside_7 rfl (lv_at hl.1 1 rfl) ?_
    obtain ⟨t20, ht20, h⟩ := st_g_some h
    refine rr_cast X hw (ti_O_y hKs) ht20 tw_89 dd_xP_reachInside_8 ?_
    refine rr_astn (lv' := [(2, (va_rf v1)), (0, (va_rf v0)), (1, (va_rf v1))]) X dd_xP_reachInside_11 rfl hl (by decide) rfl (fun ls hl => ?_)
    refine lv_iconst (v := (0 : Int32)) X.1 X.2.1 dd_xP_reachInside_12 (by decide) ?_
    refine rr_ist (lv' := [(4, (.int (0 : Int32))), (2, (va_rf v1)), (0, (va_rf v0)), (1, (va_rf v1))]) X dd_xP_reachInside_13 hl (by decide) rfl (fun ls hl => ?_)
    exact (kb_xP_reachInside_b15 X hKs hlk hret hnm) (v0, v1, (0 : Int32)) _ _ _ _ _ _ _ _ hw (lh_pk hl [2, 1, 0] rfl) h hci hcj
