/-! PromiseVats$Vat.<init>(LPromiseVats$VatObject;I)V -/
theorem dd_xV_init_0 : decode prog_9_method_1_code 0 = .ok (.aload_n 0, 1) := by decide +kernel
theorem dd_xV_init_1 : decode prog_9_method_1_code 1 = .ok (.invokespecial 3, 3) := by decide +kernel
theorem dd_xV_init_4 : decode prog_9_method_1_code 4 = .ok (.aload_n 0, 1) := by decide +kernel
theorem dd_xV_init_5 : decode prog_9_method_1_code 5 = .ok (.new 9, 3) := by decide +kernel
theorem dd_xV_init_8 : decode prog_9_method_1_code 8 = .ok (.dup, 1) := by decide +kernel
theorem dd_xV_init_9 : decode prog_9_method_1_code 9 = .ok (.invokespecial 11, 3) := by decide +kernel
theorem dd_xV_init_12 : decode prog_9_method_1_code 12 = .ok (.putfield 12, 3) := by decide +kernel
theorem dd_xV_init_15 : decode prog_9_method_1_code 15 = .ok (.aload_n 0, 1) := by decide +kernel
theorem dd_xV_init_16 : decode prog_9_method_1_code 16 = .ok (.bipush 10, 2) := by decide +kernel
theorem dd_xV_init_18 : decode prog_9_method_1_code 18 = .ok (.newarray .int, 2) := by decide +kernel
theorem dd_xV_init_20 : decode prog_9_method_1_code 20 = .ok (.putfield 18, 3) := by decide +kernel
theorem dd_xV_init_23 : decode prog_9_method_1_code 23 = .ok (.aload_n 0, 1) := by decide +kernel
theorem dd_xV_init_24 : decode prog_9_method_1_code 24 = .ok (.aload_n 1, 1) := by decide +kernel
theorem dd_xV_init_25 : decode prog_9_method_1_code 25 = .ok (.putfield 22, 3) := by decide +kernel
theorem dd_xV_init_28 : decode prog_9_method_1_code 28 = .ok (.aload_n 0, 1) := by decide +kernel
theorem dd_xV_init_29 : decode prog_9_method_1_code 29 = .ok (.iload_n 2, 1) := by decide +kernel
theorem dd_xV_init_30 : decode prog_9_method_1_code 30 = .ok (.anewarray 26, 3) := by decide +kernel
theorem dd_xV_init_33 : decode prog_9_method_1_code 33 = .ok (.putfield 28, 3) := by decide +kernel
theorem dd_xV_init_36 : decode prog_9_method_1_code 36 = .ok (.iconst 0, 1) := by decide +kernel
theorem dd_xV_init_37 : decode prog_9_method_1_code 37 = .ok (.istore_n 3, 1) := by decide +kernel
theorem dd_xV_init_38 : decode prog_9_method_1_code 38 = .ok (.iload_n 3, 1) := by decide +kernel
theorem dd_xV_init_39 : decode prog_9_method_1_code 39 = .ok (.iload_n 2, 1) := by decide +kernel
theorem dd_xV_init_40 : decode prog_9_method_1_code 40 = .ok (.if_icmp .ge 22, 3) := by decide +kernel
theorem dd_xV_init_43 : decode prog_9_method_1_code 43 = .ok (.aload_n 0, 1) := by decide +kernel
theorem dd_xV_init_44 : decode prog_9_method_1_code 44 = .ok (.getfield 28, 3) := by decide +kernel
theorem dd_xV_init_47 : decode prog_9_method_1_code 47 = .ok (.iload_n 3, 1) := by decide +kernel
theorem dd_xV_init_48 : decode prog_9_method_1_code 48 = .ok (.new 26, 3) := by decide +kernel
theorem dd_xV_init_51 : decode prog_9_method_1_code 51 = .ok (.dup, 1) := by decide +kernel
theorem dd_xV_init_52 : decode prog_9_method_1_code 52 = .ok (.invokespecial 32, 3) := by decide +kernel
theorem dd_xV_init_55 : decode prog_9_method_1_code 55 = .ok (.aastore, 1) := by decide +kernel
theorem dd_xV_init_56 : decode prog_9_method_1_code 56 = .ok (.iinc 3 1, 3) := by decide +kernel
theorem dd_xV_init_59 : decode prog_9_method_1_code 59 = .ok (.goto (-21), 3) := by decide +kernel
theorem dd_xV_init_62 : decode prog_9_method_1_code 62 = .ok (.return_, 1) := by decide +kernel
set_option maxHeartbeats 4000000 in
set_option maxRecDepth 100000 in
theorem kb_xV_init_b38 {p : Program} {l : Launch} {e : Env} {s : State} {m : MethodId} {args : Array Value} {below : List Frame} {meth : Method} {c : Code} {D : va_G} {ac : Nat → ClassId} {a0 : Nat} {gl : gl_T} {rF : Unit} {stF : st_S} {iT jT : Nat}
    (X : cx_ p s m args c prog_9_method_1_code 4 "PromiseVats$Vat" tb_ D cl_ (ty_ ac)) (hKs : kn_ D ac a0 gl s) (hlk : meth.locks = false) (hret : meth.sig.returnType = (Option.none : Option FieldType)) (hnm : meth.name = "<init>") : wk_ p l e 5 92 s m args below meth c D cl_ ac a0 4 vb_u rF stF iT jT 38 (fun x : Option Nat × Int32 × Int32 => [(0, (va_rf x.1)), (2, (.int x.2.1)), (3, (.int x.2.2))]) (fun x : Option Nat × Int32 × Int32 => []) (st_it (fun rec38 => (fun x : Option Nat × Int32 × Int32 => xV_init_b38 gl rec38 x.1 x.2.1 x.2.2)) fu_) := by
  refine wk_it ?_ _
  intro rec38 hr38 x st H locs cells slots i j ls hw hl h hci hcj
  obtain ⟨p0, p2, p3⟩ := x
  have h : xV_init_b38 gl rec38 p0 p2 p3 st = some (rF, stF, i, j) := h
  unfold xV_init_b38 at h
  have hl : lh_ ls 4 [(0, (va_rf p0)), (2, (.int p2)), (3, (.int p3))] := hl
  refine W.eq (g2 := F0 m 38 ls []) rfl ?_
  refine lv_iload_n X.1 X.2.1 dd_xV_init_38 rfl (lv_at hl.1 2 rfl) ?_
  refine lv_iload_n X.1 X.2.1 dd_xV_init_39 rfl (lv_at hl.1 1 rfl) ?_
  by_cases hc40 : p2 ≤ p3
  · rw [if_pos hc40] at h
    refine lv_icmp_ge (tgt := 62) X.1 X.2.1 dd_xV_init_40 (by decide) (fun _ => ?_) (fun z => absurd hc40 z)
    obtain ⟨rfl, rfl, rfl, rfl⟩ := st_r_some h
    exact rr_vret X hw hlk hret (by omega) (by omega) dd_xV_init_62
  · rw [if_neg hc40] at h
    refine lv_icmp_ge (tgt := 62) X.1 X.2.1 dd_xV_init_40 (by decide) (fun z => absurd z hc40) (fun _ => ?_)
    refine rr_aldn X dd_xV_init_43 rfl (lv_at hl.1 0 rfl) ?_
    obtain ⟨t24, ht24, h⟩ := st_g_some h
    refine rr_getq X hw ff_5_2 ht24 tw_41 (Or.inl rfl) dd_xV_init_44 ?_
    refine lv_iload_n X.1 X.2.1 dd_xV_init_47 rfl (lv_at hl.1 2 rfl) ?_
    obtain ⟨t34, t35, h, ei, ej⟩ := st_n_some h
    refine rr_new (fs := cd_7) X hw cf_7 cb_7 tw_40 tw_51 tw_48 (show cells + 1 ≤ _ ∧ slots + 1 ≤ _ from ⟨by show _ ≤ iT; omega, by show _ ≤ jT; omega⟩) dd_xV_init_48 (fun H hw => ?_)
    have hci : cells + 1 + t34 = iT := by omega
    have hcj : slots + 1 + t35 = jT := by omega
    clear ei ej
    generalize st.2 = t25 at h ⊢
    have h := h
    generalize (st_ad st (.inr (.inr (7, cd_7)))) = t26 at h hw
    refine lv_dup X.1 X.2.1 dd_xV_init_51 (rf_cat _) ?_
    obtain ⟨t27, t28, t29, t30, t31, t32, ht27, h, ei, ej⟩ := st_b_some h
    refine rr_callN (n := 0) (b := t25) (host := "PromiseVats") (As := []) (rest := [(va_rf (some t25)), (.int p3), (va_rf t24)]) X hw (kn_ok D ac a0 gl) hKs (kc_xH_init l D ac a0 gl (some t25) _ _ _ _ _ ht27) tb_good tw_49 tw_48 (hKs.2.2.2.2.1 ("PromiseVats$Vat", 32, ⟨"PromiseVats$Channel", "<init>", "()V"⟩, "PromiseVats") (by decide +kernel)) tw_50 rfl (by decide +kernel) rfl (show 4 + 1 ≤ _ ∧ 8 + (1 + 11) + 72 ≤ _ from ⟨Nat.le_of_ble_eq_true rfl, Nat.le_of_ble_eq_true rfl⟩) (show cells + 1 + t29 ≤ _ ∧ slots + 1 + t30 ≤ _ from ⟨by show _ ≤ iT; omega, by show _ ≤ jT; omega⟩) hl.1.1 (by simp [rf_cat, ic_cat]) rfl dd_xV_init_52 (sk := [(va_rf (some t25)), (.int p3), (va_rf t24)]) rfl (fun H locs hw => ?_)
    have hci : cells + 1 + t29 + t31 = iT := by omega
    have hcj : slots + 1 + t30 + t32 = jT := by omega
    clear ei ej
    obtain ⟨t33, hp55, h⟩ := st_w_some h
    refine rr_aast X hw (ta_8 hKs) hp55 dd_xV_init_55 (fun H locs hw => ?_)
    refine rr_iinc (k := 2) (v := (p3 + (1 : Int32))) (lv' := [(3, (.int (p3 + (1 : Int32)))), (0, (va_rf p0)), (2, (.int p2))]) X dd_xV_init_56 hl rfl (by rw [show Int32.ofInt (1) = (1 : Int32) from by decide]) (by decide) rfl (fun ls hl => ?_)
    refine lv_goto (tgt := 38) X.1 X.2.1 dd_xV_init_59 (by decide) ?_
    exact hr38 (p0, p2, (p3 + (1 : Int32))) _ _ _ _ _ _ _ _ hw (lh_pk hl [1, 2, 0] rfl) h hci hcj
set_option maxHeartbeats 4000000 in
set_option maxRecDepth 100000 in
theorem kc_xV_init (l : Launch) (D : va_G) (ac : Nat → ClassId) (a0 : Nat) (gl : gl_T) (v0 : Option Nat) (v1 : Option Nat) (v2 : Int32) (st : st_S) (rF : Unit) (stF : st_S) (iT jT : Nat) (h : xV_init gl v0 v1 v2 st = some (rF, stF, iT, jT)) :
    ct_ l ⟨"PromiseVats$Vat", "<init>", "(LPromiseVats$VatObject;I)V"⟩ (Cond.code ⟨"PromiseVats$Vat", "<init>", "(LPromiseVats$VatObject;I)V"⟩ prog_9_method_1_code 4 (Option.none : Option FieldType) :: tb_) 5 92 D cl_ ac a0 (kn_ D ac a0 gl) [(va_rf v0), (va_rf v1), (.int v2)] st (vb_u rF) stF iT jT := by
  refine ct_of (kn_ok D ac a0 gl) (plainFor_of_name (by decide +kernel)) (by simp [rf_cat, ic_cat]) (by simp) ?_
  intro p e s m args below meth c ls X hw hKs hlk hret hnm hl
  unfold xV_init at h
  have hl : lh_ ls 4 [(0, (va_rf v0)), (1, (va_rf v1)), (2, (.int v2))] := hl
  have hci : 0 + iT = iT := Nat.zero_add _
  have hcj : 0 + jT = jT := Nat.zero_add _
  refine rr_aldn X dd_xV_init_0 rfl (lv_at hl.1 0 rfl) ?_
  obtain ⟨t1, ht1, h⟩ := st_g_some h
  refine rr_objI X ht1 tw_47 tw_1 tw_2 hl.1.1 (Nat.le_of_ble_eq_true rfl) (by simp [rf_cat, ic_cat]) dd_xV_init_1 ?_
  refine rr_aldn X dd_xV_init_4 rfl (lv_at hl.1 0 rfl) ?_
  obtain ⟨t22, t23, h, ei, ej⟩ := st_n_some h
  refine rr_new (fs := cd_6) X hw cf_6 cb_6 tw_46 tw_38 tw_33 (show 0 + 1 ≤ _ ∧ 0 + 3 ≤ _ from ⟨by show _ ≤ iT; omega, by show _ ≤ jT; omega⟩) dd_xV_init_5 (fun H hw => ?_)
  have hci : 0 + 1 + t22 = iT := by omega
  have hcj : 0 + 3 + t23 = jT := by omega
  clear ei ej
  generalize st.2 = t2 at h ⊢
  have h := h
  generalize (st_ad st (.inr (.inr (6, cd_6)))) = t3 at h hw
  refine lv_dup X.1 X.2.1 dd_xV_init_8 (rf_cat _) ?_
  obtain ⟨t4, t5, t6, t7, t8, t9, ht4, h, ei, ej⟩ := st_b_some h
  refine rr_callI (n := 0) (b := t2) (As := []) (rest := [(va_rf (some t2)), (va_rf v0)]) X hw (kn_ok D ac a0 gl) hKs (kc_al_init l D ac a0 gl (some t2) _ _ _ _ _ ht4) tb_good tw_34 tw_33 tw_45 tw_36 rfl (by decide +kernel) rfl (show 3 + 1 ≤ _ ∧ 8 + (1 + 11) + 52 ≤ _ from ⟨Nat.le_of_ble_eq_true rfl, Nat.le_of_ble_eq_true rfl⟩) (show 0 + 1 + t6 ≤ _ ∧ 0 + 3 + t7 ≤ _ from ⟨by show _ ≤ iT; omega, by show _ ≤ jT; omega⟩) hl.1.1 (by simp [rf_cat, ic_cat]) rfl dd_xV_init_9 (sk := [(va_rf (some t2)), (va_rf v0)]) rfl (fun H locs hw => ?_)
  have hci : 0 + 1 + t6 + t8 = iT := by omega
  have hcj : 0 + 3 + t7 + t9 = jT := by omega
  clear ei ej
  obtain ⟨t10, hp12, h⟩ := st_w_some h
  refine rr_putF (ty := .object "java/util/ArrayList") X hw ff_5_1 hp12 tw_44 hnm (by decide +kernel) (rf_nar _ _) (rf_fit _ _) dd_xV_init_12 (fun H locs hw => ?_)
  refine rr_aldn X dd_xV_init_15 rfl (lv_at hl.1 0 rfl) ?_
  refine lv_bipush (v := (10 : Int32)) X.1 X.2.1 dd_xV_init_16 (by decide) ?_
  obtain ⟨_, hz18, h⟩ := st_g_some h
  have hn18 := so_l_s hz18
  obtain ⟨t12, t13, h, ei, ej⟩ := st_n_some h
  refine rr_newi (t := 0) X hw rfl hn18.1 rfl hn18.2 tw_3 (show 0 + 1 + t6 + 1 ≤ _ ∧ 0 + 3 + t7 + (10 : Int32).toNatClampNeg ≤ _ from ⟨by show _ ≤ iT; omega, by show _ ≤ jT; omega⟩) dd_xV_init_18 (fun H hw => ?_)
  have hci : 0 + 1 + t6 + 1 + t12 = iT := by omega
  have hcj : 0 + 3 + t7 + (10 : Int32).toNatClampNeg + t13 = jT := by omega
  clear ei ej
  generalize t10.2 = t11 at h ⊢
  have h := h
  generalize (st_ad t10 (.inl (0, (10 : Int32).toNatClampNeg, fun _ => 0))) = t14 at h hw
  obtain ⟨t15, hp20, h⟩ := st_w_some h
  refine rr_putF (ty := .array (.int)) X hw ff_5_3 hp20 tw_43 hnm (by decide +kernel) (rf_narA _ _) (rf_fitA _ _) dd_xV_init_20 (fun H locs hw => ?_)
  refine rr_aldn X dd_xV_init_23 rfl (lv_at hl.1 0 rfl) ?_
  refine rr_aldn X dd_xV_init_24 rfl (lv_at hl.1 1 rfl) ?_
  obtain ⟨t16, hp25, h⟩ := st_w_some h
  refine rr_putF (ty := .object "PromiseVats$VatObject") X hw ff_5_0 hp25 tw_42 hnm (by decide +kernel) (rf_nar _ _) (rf_fit _ _) dd_xV_init_25 (fun H locs hw => ?_)
  refine rr_aldn X dd_xV_init_28 rfl (lv_at hl.1 0 rfl) ?_
  refine lv_iload_n X.1 X.2.1 dd_xV_init_29 rfl (lv_at hl.1 2 rfl) ?_
  obtain ⟨_, hz30, h⟩ := st_g_some h
  have hn30 := so_l_s hz30
  obtain ⟨t18, t19, h, ei, ej⟩ := st_n_some h
  refine rr_newq (t := 8) X hw rfl hn30.1 rfl hn30.2 tw_40 (to_8 hKs) (show 0 + 1 + t6 + 1 + 1 ≤ _ ∧ 0 + 3 + t7 + (10 : Int32).toNatClampNeg + v2.toNatClampNeg ≤ _ from ⟨by show _ ≤ iT; omega, by show _ ≤ jT; omega⟩) dd_xV_init_30 (fun H hw => ?_)
  have hci : 0 + 1 + t6 + 1 + 1 + t18 = iT := by omega
  have hcj : 0 + 3 + t7 + (10 : Int32).toNatClampNeg + v2.toNatClampNeg + t19 = jT := by omega
  clear ei ej
  generalize t16.2 = t17 at h ⊢
  have h := h
  generalize (st_ad t16 (.inr (.inl (8, v2.toNatClampNeg, fun _ => none)))) = t20 at h hw
  obtain ⟨t21, hp33, h⟩ := st_w_some h
  refine rr_putF (ty := .array (.object "PromiseVats$Channel")) X hw ff_5_2 hp33 tw_41 hnm (by decide +kernel) (rf_narA _ _) (rf_fitA _ _) dd_xV_init_33 (fun H locs hw => ?_)
  refine lv_iconst (v := (0 : Int32)) X.1 X.2.1 dd_xV_init_36 (by decide) ?_
  refine rr_istn (lv' := [(3, (.int (0 : Int32))), (0, (va_rf v0)), (1, (va_rf v1)), (2, (.int v2))]) X dd_xV_init_37 rfl hl (by decide) rfl (fun ls hl => ?_)
  exact (kb_xV_init_b38 X hKs hlk hret hnm) (v0, v2, (0 : Int32)) _ _ _ _ _ _ _ _ hw (lh_pk hl [1, 3, 0] rfl) h hci hcj
/-! PromiseVats.<init>(I)V -/
theorem dd_xP_init_0 : decode prog_1_method_1_code 0 = .ok (.aload_n 0, 1) := by decide +kernel
theorem dd_xP_init_1 : decode prog_1_method_1_code 1 = .ok (.invokespecial 1, 3) := by decide +kernel
theorem dd_xP_init_4 : decode prog_1_method_1_code 4 = .ok (.iconst 2, 1) := by decide +kernel
theorem dd_xP_init_5 : decode prog_1_method_1_code 5 = .ok (.iconst 4, 1) := by decide +kernel
theorem dd_xP_init_6 : decode prog_1_method_1_code 6 = .ok (.iload_n 1, 1) := by decide +kernel
theorem dd_xP_init_7 : decode prog_1_method_1_code 7 = .ok (.invokestatic 9, 3) := by decide +kernel
theorem dd_xP_init_10 : decode prog_1_method_1_code 10 = .ok (.invokestatic 15, 3) := by decide +kernel
theorem dd_xP_init_13 : decode prog_1_method_1_code 13 = .ok (.istore_n 2, 1) := by decide +kernel
theorem dd_xP_init_14 : decode prog_1_method_1_code 14 = .ok (.aload_n 0, 1) := by decide +kernel
theorem dd_xP_init_15 : decode prog_1_method_1_code 15 = .ok (.iload_n 2, 1) := by decide +kernel
theorem dd_xP_init_16 : decode prog_1_method_1_code 16 = .ok (.anewarray 18, 3) := by decide +kernel
theorem dd_xP_init_19 : decode prog_1_method_1_code 19 = .ok (.putfield 20, 3) := by decide +kernel
theorem dd_xP_init_22 : decode prog_1_method_1_code 22 = .ok (.aload_n 0, 1) := by decide +kernel
theorem dd_xP_init_23 : decode prog_1_method_1_code 23 = .ok (.bipush 8, 2) := by decide +kernel
theorem dd_xP_init_25 : decode prog_1_method_1_code 25 = .ok (.anewarray 24, 3) := by decide +kernel
theorem dd_xP_init_28 : decode prog_1_method_1_code 28 = .ok (.putfield 26, 3) := by decide +kernel
theorem dd_xP_init_31 : decode prog_1_method_1_code 31 = .ok (.aload_n 0, 1) := by decide +kernel
theorem dd_xP_init_32 : decode prog_1_method_1_code 32 = .ok (.sipush 201, 3) := by decide +kernel
theorem dd_xP_init_35 : decode prog_1_method_1_code 35 = .ok (.anewarray 30, 3) := by decide +kernel
theorem dd_xP_init_38 : decode prog_1_method_1_code 38 = .ok (.putfield 32, 3) := by decide +kernel
theorem dd_xP_init_41 : decode prog_1_method_1_code 41 = .ok (.aload_n 0, 1) := by decide +kernel
theorem dd_xP_init_42 : decode prog_1_method_1_code 42 = .ok (.new 36, 3) := by decide +kernel
theorem dd_xP_init_45 : decode prog_1_method_1_code 45 = .ok (.dup, 1) := by decide +kernel
theorem dd_xP_init_46 : decode prog_1_method_1_code 46 = .ok (.invokespecial 38, 3) := by decide +kernel
theorem dd_xP_init_49 : decode prog_1_method_1_code 49 = .ok (.putfield 39, 3) := by decide +kernel
theorem dd_xP_init_52 : decode prog_1_method_1_code 52 = .ok (.aload_n 0, 1) := by decide +kernel
theorem dd_xP_init_53 : decode prog_1_method_1_code 53 = .ok (.bipush 100, 2) := by decide +kernel
theorem dd_xP_init_55 : decode prog_1_method_1_code 55 = .ok (.anewarray 43, 3) := by decide +kernel
theorem dd_xP_init_58 : decode prog_1_method_1_code 58 = .ok (.putfield 45, 3) := by decide +kernel
theorem dd_xP_init_61 : decode prog_1_method_1_code 61 = .ok (.aload_n 0, 1) := by decide +kernel
theorem dd_xP_init_62 : decode prog_1_method_1_code 62 = .ok (.sipush 160, 3) := by decide +kernel
theorem dd_xP_init_65 : decode prog_1_method_1_code 65 = .ok (.anewarray 30, 3) := by decide +kernel
theorem dd_xP_init_68 : decode prog_1_method_1_code 68 = .ok (.putfield 49, 3) := by decide +kernel
theorem dd_xP_init_71 : decode prog_1_method_1_code 71 = .ok (.iconst 0, 1) := by decide +kernel
theorem dd_xP_init_72 : decode prog_1_method_1_code 72 = .ok (.istore_n 3, 1) := by decide +kernel
theorem dd_xP_init_73 : decode prog_1_method_1_code 73 = .ok (.iload_n 3, 1) := by decide +kernel
theorem dd_xP_init_74 : decode prog_1_method_1_code 74 = .ok (.bipush 8, 2) := by decide +kernel
theorem dd_xP_init_76 : decode prog_1_method_1_code 76 = .ok (.if_icmp .ge 22, 3) := by decide +kernel
theorem dd_xP_init_79 : decode prog_1_method_1_code 79 = .ok (.aload_n 0, 1) := by decide +kernel
theorem dd_xP_init_80 : decode prog_1_method_1_code 80 = .ok (.getfield 26, 3) := by decide +kernel
theorem dd_xP_init_83 : decode prog_1_method_1_code 83 = .ok (.iload_n 3, 1) := by decide +kernel
theorem dd_xP_init_84 : decode prog_1_method_1_code 84 = .ok (.new 24, 3) := by decide +kernel
theorem dd_xP_init_87 : decode prog_1_method_1_code 87 = .ok (.dup, 1) := by decide +kernel
theorem dd_xP_init_88 : decode prog_1_method_1_code 88 = .ok (.invokespecial 52, 3) := by decide +kernel
theorem dd_xP_init_91 : decode prog_1_method_1_code 91 = .ok (.aastore, 1) := by decide +kernel
theorem dd_xP_init_92 : decode prog_1_method_1_code 92 = .ok (.iinc 3 1, 3) := by decide +kernel
theorem dd_xP_init_95 : decode prog_1_method_1_code 95 = .ok (.goto (-22), 3) := by decide +kernel
theorem dd_xP_init_98 : decode prog_1_method_1_code 98 = .ok (.iconst 0, 1) := by decide +kernel
theorem dd_xP_init_99 : decode prog_1_method_1_code 99 = .ok (.istore_n 3, 1) := by decide +kernel
theorem dd_xP_init_100 : decode prog_1_method_1_code 100 = .ok (.iload_n 3, 1) := by decide +kernel
theorem dd_xP_init_101 : decode prog_1_method_1_code 101 = .ok (.iload_n 2, 1) := by decide +kernel
theorem dd_xP_init_102 : decode prog_1_method_1_code 102 = .ok (.if_icmp .ge 49, 3) := by decide +kernel
theorem dd_xP_init_105 : decode prog_1_method_1_code 105 = .ok (.new 53, 3) := by decide +kernel
theorem dd_xP_init_108 : decode prog_1_method_1_code 108 = .ok (.dup, 1) := by decide +kernel
theorem dd_xP_init_109 : decode prog_1_method_1_code 109 = .ok (.iload_n 3, 1) := by decide +kernel
theorem dd_xP_init_110 : decode prog_1_method_1_code 110 = .ok (.iconst 1, 1) := by decide +kernel
theorem dd_xP_init_111 : decode prog_1_method_1_code 111 = .ok (.iadd, 1) := by decide +kernel
theorem dd_xP_init_112 : decode prog_1_method_1_code 112 = .ok (.iload_n 3, 1) := by decide +kernel
theorem dd_xP_init_113 : decode prog_1_method_1_code 113 = .ok (.iload_n 3, 1) := by decide +kernel
theorem dd_xP_init_114 : decode prog_1_method_1_code 114 = .ok (.invokespecial 55, 3) := by decide +kernel
theorem dd_xP_init_117 : decode prog_1_method_1_code 117 = .ok (.astore 4, 2) := by decide +kernel
theorem dd_xP_init_119 : decode prog_1_method_1_code 119 = .ok (.aload_n 0, 1) := by decide +kernel
theorem dd_xP_init_120 : decode prog_1_method_1_code 120 = .ok (.getfield 32, 3) := by decide +kernel
theorem dd_xP_init_123 : decode prog_1_method_1_code 123 = .ok (.iload_n 3, 1) := by decide +kernel
theorem dd_xP_init_124 : decode prog_1_method_1_code 124 = .ok (.iconst 1, 1) := by decide +kernel
theorem dd_xP_init_125 : decode prog_1_method_1_code 125 = .ok (.iadd, 1) := by decide +kernel
theorem dd_xP_init_126 : decode prog_1_method_1_code 126 = .ok (.aload 4, 2) := by decide +kernel
theorem dd_xP_init_128 : decode prog_1_method_1_code 128 = .ok (.aastore, 1) := by decide +kernel
theorem dd_xP_init_129 : decode prog_1_method_1_code 129 = .ok (.aload_n 0, 1) := by decide +kernel
theorem dd_xP_init_130 : decode prog_1_method_1_code 130 = .ok (.getfield 20, 3) := by decide +kernel
theorem dd_xP_init_133 : decode prog_1_method_1_code 133 = .ok (.iload_n 3, 1) := by decide +kernel
theorem dd_xP_init_134 : decode prog_1_method_1_code 134 = .ok (.new 18, 3) := by decide +kernel
theorem dd_xP_init_137 : decode prog_1_method_1_code 137 = .ok (.dup, 1) := by decide +kernel
theorem dd_xP_init_138 : decode prog_1_method_1_code 138 = .ok (.aload 4, 2) := by decide +kernel
theorem dd_xP_init_140 : decode prog_1_method_1_code 140 = .ok (.iload_n 2, 1) := by decide +kernel
theorem dd_xP_init_141 : decode prog_1_method_1_code 141 = .ok (.invokespecial 58, 3) := by decide +kernel
theorem dd_xP_init_144 : decode prog_1_method_1_code 144 = .ok (.aastore, 1) := by decide +kernel
theorem dd_xP_init_145 : decode prog_1_method_1_code 145 = .ok (.iinc 3 1, 3) := by decide +kernel
theorem dd_xP_init_148 : decode prog_1_method_1_code 148 = .ok (.goto (-48), 3) := by decide +kernel
theorem dd_xP_init_151 : decode prog_1_method_1_code 151 = .ok (.aload_n 0, 1) := by decide +kernel
theorem dd_xP_init_152 : decode prog_1_method_1_code 152 = .ok (.iload_n 2, 1) := by decide +kernel
theorem dd_xP_init_153 : decode prog_1_method_1_code 153 = .ok (.putfield 61, 3) := by decide +kernel
theorem dd_xP_init_156 : decode prog_1_method_1_code 156 = .ok (.return_, 1) := by decide +kernel
set_option maxHeartbeats 4000000 in
set_option maxRecDepth 100000 in
theorem kb_xP_init_b100 {p : Program} {l : Launch} {e : Env} {s : State} {m : MethodId} {args : Array Value} {below : List Frame} {meth : Method} {c : Code} {D : va_G} {ac : Nat → ClassId} {a0 : Nat} {gl : gl_T} {rF : Unit} {stF : st_S} {iT jT : Nat}
    (X : cx_ p s m args c prog_1_method_1_code 5 "PromiseVats" tb_ D cl_ (ty_ ac)) (hKs : kn_ D ac a0 gl s) (hlk : meth.locks = false) (hret : meth.sig.returnType = (Option.none : Option FieldType)) (hnm : meth.name = "<init>") : wk_ p l e 6 115 s m args below meth c D cl_ ac a0 5 vb_u rF stF iT jT 100 (fun x : Option Nat × Int32 × Int32 => [(0, (va_rf x.1)), (2, (.int x.2.1)), (3, (.int x.2.2))]) (fun x : Option Nat × Int32 × Int32 => []) (st_it (fun rec100 => (fun x : Option Nat × Int32 × Int32 => xP_init_b100 gl rec100 x.1 x.2.1 x.2.2)) fu_) := by
  refine wk_it ?_ _
  intro rec100 hr100 x st H locs cells slots i j ls hw hl h hci hcj
  obtain ⟨p0, p2, p3⟩ := x
  have h : xP_init_b100 gl rec100 p0 p2 p3 st = some (rF, stF, i, j) := h
  unfold xP_init_b100 at h
  have hl : lh_ ls 5 [(0, (va_rf p0)), (2, (.int p2)), (3, (.int p3))] := hl
  refine W.eq (g2 := F0 m 100 ls []) rfl ?_
  refine lv_iload_n X.1 X.2.1 dd_xP_init_100 rfl (lv_at hl.1 2 rfl) ?_
  refine lv_iload_n X.1 X.2.1 dd_xP_init_101 rfl (lv_at hl.1 1 rfl) ?_
  by_cases hc102 : p2 ≤ p3
  · rw [if_pos hc102] at h
    refine lv_icmp_ge (tgt := 151) X.1 X.2.1 dd_xP_init_102 (by decide) (fun _ => ?_) (fun z => absurd hc102 z)
    refine rr_aldn X dd_xP_init_151 rfl (lv_at hl.1 0 rfl) ?_
    refine lv_iload_n X.1 X.2.1 dd_xP_init_152 rfl (lv_at hl.1 1 rfl) ?_
    obtain ⟨t62, hp153, h⟩ := st_w_some h
    refine rr_put (ty := .int) X hw ff_0_3 hp153 tw_79 (Or.inl rfl) (by decide +kernel) rfl rfl dd_xP_init_153 (fun H locs hw => ?_)
    obtain ⟨rfl, rfl, rfl, rfl⟩ := st_r_some h
    exact rr_vret X hw hlk hret (by omega) (by omega) dd_xP_init_156
  · rw [if_neg hc102] at h
    refine lv_icmp_ge (tgt := 151) X.1 X.2.1 dd_xP_init_102 (by decide) (fun z => absurd z hc102) (fun _ => ?_)
    obtain ⟨t85, t86, h, ei, ej⟩ := st_n_some h
    refine rr_new (fs := cd_3) X hw cf_3 cb_3 tw_89 tw_90 tw_85 (show cells + 1 ≤ _ ∧ slots + 10 ≤ _ from ⟨by show _ ≤ iT; omega, by show _ ≤ jT; omega⟩) dd_xP_init_105 (fun H hw => ?_)
    have hci : cells + 1 + t85 = iT := by omega
    have hcj : slots + 10 + t86 = jT := by omega
    clear ei ej
    generalize st.2 = t63 at h ⊢
    have h := h
    generalize (st_ad st (.inr (.inr (3, cd_3)))) = t64 at h hw
    refine lv_dup X.1 X.2.1 dd_xP_init_108 (rf_cat _) ?_
    refine lv_iload_n X.1 X.2.1 dd_xP_init_109 rfl (lv_at hl.1 2 rfl) ?_
    refine lv_iconst (v := (1 : Int32)) X.1 X.2.1 dd_xP_init_110 (by decide) ?_
    refine lv_iadd X.1 X.2.1 dd_xP_init_111 ?_
    refine lv_iload_n X.1 X.2.1 dd_xP_init_112 rfl (lv_at hl.1 2 rfl) ?_
    refine lv_iload_n X.1 X.2.1 dd_xP_init_113 rfl (lv_at hl.1 2 rfl) ?_
    obtain ⟨t65, t66, t67, t68, t69, t70, ht65, h, ei, ej⟩ := st_b_some h
    refine rr_callI (n := 3) (b := t63) (As := [(.int (p3 + (1 : Int32))), (.int p3), (.int p3)]) (rest := [(va_rf (some t63))]) X hw (kn_ok D ac a0 gl) hKs (kc_xO_init l D ac a0 gl (some t63) (p3 + (1 : Int32)) p3 p3 _ _ _ _ _ ht65) tb_good tw_86 tw_85 tw_87 tw_88 rfl (by decide +kernel) rfl (show 2 + 1 ≤ _ ∧ 8 + (4 + 11) + 34 ≤ _ from ⟨Nat.le_of_ble_eq_true rfl, Nat.le_of_ble_eq_true rfl⟩) (show cells + 1 + t67 ≤ _ ∧ slots + 10 + t68 ≤ _ from ⟨by show _ ≤ iT; omega, by show _ ≤ jT; omega⟩) hl.1.1 (by simp [rf_cat, ic_cat]) rfl dd_xP_init_114 (sk := [(va_rf (some t63))]) rfl (fun H locs hw => ?_)
    have hci : cells + 1 + t67 + t69 = iT := by omega
    have hcj : slots + 10 + t68 + t70 = jT := by omega
    clear ei ej
    refine rr_ast (lv' := [(4, (va_rf (some t63))), (0, (va_rf p0)), (2, (.int p2)), (3, (.int p3))]) X dd_xP_init_117 hl (by decide) rfl (fun ls hl => ?_)
    refine rr_aldn X dd_xP_init_119 rfl (lv_at hl.1 1 rfl) ?_
    obtain ⟨t71, ht71, h⟩ := st_g_some h
    refine rr_getq X hw ff_0_2 ht71 tw_64 (Or.inl rfl) dd_xP_init_120 ?_
    refine lv_iload_n X.1 X.2.1 dd_xP_init_123 rfl (lv_at hl.1 3 rfl) ?_
    refine lv_iconst (v := (1 : Int32)) X.1 X.2.1 dd_xP_init_124 (by decide) ?_
    refine lv_iadd X.1 X.2.1 dd_xP_init_125 ?_
    refine rr_ald X dd_xP_init_126 (lv_at hl.1 0 rfl) ?_
    obtain ⟨t72, hp128, h⟩ := st_w_some h
    refine rr_aast X hw (ta_6 hKs) hp128 dd_xP_init_128 (fun H locs hw => ?_)
    refine rr_aldn X dd_xP_init_129 rfl (lv_at hl.1 1 rfl) ?_
    obtain ⟨t73, ht73, h⟩ := st_g_some h
    refine rr_getq X hw ff_0_0 ht73 tw_66 (Or.inl rfl) dd_xP_init_130 ?_
    refine lv_iload_n X.1 X.2.1 dd_xP_init_133 rfl (lv_at hl.1 3 rfl) ?_
    obtain ⟨t83, t84, h, ei, ej⟩ := st_n_some h
    refine rr_new (fs := cd_5) X hw cf_5 cb_5 tw_52 tw_84 tw_80 (show cells + 1 + t67 + 1 ≤ _ ∧ slots + 10 + t68 + 5 ≤ _ from ⟨by show _ ≤ iT; omega, by show _ ≤ jT; omega⟩) dd_xP_init_134 (fun H hw => ?_)
    have hci : cells + 1 + t67 + 1 + t83 = iT := by omega
    have hcj : slots + 10 + t68 + 5 + t84 = jT := by omega
    clear ei ej
    generalize t72.2 = t74 at h ⊢
    have h := h
    generalize (st_ad t72 (.inr (.inr (5, cd_5)))) = t75 at h hw
    refine lv_dup X.1 X.2.1 dd_xP_init_137 (rf_cat _) ?_
    refine rr_ald X dd_xP_init_138 (lv_at hl.1 0 rfl) ?_
    refine lv_iload_n X.1 X.2.1 dd_xP_init_140 rfl (lv_at hl.1 2 rfl) ?_
    obtain ⟨t76, t77, t78, t79, t80, t81, ht76, h, ei, ej⟩ := st_b_some h
    refine rr_callI (n := 2) (b := t74) (As := [(va_rf (some t63)), (.int p2)]) (rest := [(va_rf (some t74)), (.int p3), (va_rf t73)]) X hw (kn_ok D ac a0 gl) hKs (kc_xV_init l D ac a0 gl (some t74) (some t63) p2 _ _ _ _ _ ht76) tb_good tw_81 tw_80 tw_82 tw_83 rfl (by decide +kernel) rfl (show 5 + 1 ≤ _ ∧ 8 + (4 + 11) + 92 ≤ _ from ⟨Nat.le_of_ble_eq_true rfl, Nat.le_of_ble_eq_true rfl⟩) (show cells + 1 + t67 + 1 + t78 ≤ _ ∧ slots + 10 + t68 + 5 + t79 ≤ _ from ⟨by show _ ≤ iT; omega, by show _ ≤ jT; omega⟩) hl.1.1 (by simp [rf_cat, ic_cat]) rfl dd_xP_init_141 (sk := [(va_rf (some t74)), (.int p3), (va_rf t73)]) rfl (fun H locs hw => ?_)
    have hci : cells + 1 + t67 + 1 + t78 + t80 = iT := by omega
    have hcj : slots + 10 + t68 + 5 + t79 + t81 = jT := by omega
    clear ei ej
    obtain ⟨t82, hp144, h⟩ := st_w_some h
    refine rr_aast X hw (ta_4 hKs) hp144 dd_xP_init_144 (fun H locs hw => ?_)
    refine rr_iinc (k := 3) (v := (p3 + (1 : Int32))) (lv' := [(3, (.int (p3 + (1 : Int32)))), (4, (va_rf (some t63))), (0, (va_rf p0)), (2, (.int p2))]) X dd_xP_init_145 hl rfl (by rw [show Int32.ofInt (1) = (1 : Int32) from by decide]) (by decide) rfl (fun ls hl => ?_)
    refine lv_goto (tgt := 100) X.1 X.2.1 dd_xP_init_148 (by decide) ?_
    exact hr100 (p0, p2, (p3 + (1 : Int32))) _ _ _ _ _ _ _ _ hw (lh_pk hl [2, 3, 0] rfl) h hci hcj
set_option maxHeartbeats 4000000 in
set_option maxRecDepth 100000 in
theorem kb_xP_init_b73 {p : Program} {l : Launch} {e : Env} {s : State} {m : MethodId} {args : Array Value} {below : List Frame} {meth : Method} {c : Code} {D : va_G} {ac : Nat → ClassId} {a0 : Nat} {gl : gl_T} {rF : Unit} {stF : st_S} {iT jT : Nat}
    (X : cx_ p s m args c prog_1_method_1_code 5 "PromiseVats" tb_ D cl_ (ty_ ac)) (hKs : kn_ D ac a0 gl s) (hlk : meth.locks = false) (hret : meth.sig.returnType = (Option.none : Option FieldType)) (hnm : meth.name = "<init>") : wk_ p l e 6 115 s m args below meth c D cl_ ac a0 5 vb_u rF stF iT jT 73 (fun x : Option Nat × Int32 × Int32 => [(0, (va_rf x.1)), (2, (.int x.2.1)), (3, (.int x.2.2))]) (fun x : Option Nat × Int32 × Int32 => []) (st_it (fun rec73 => (fun x : Option Nat × Int32 × Int32 => xP_init_b73 gl rec73 x.1 x.2.1 x.2.2)) fu_) := by
  refine wk_it ?_ _
  intro rec73 hr73 x st H locs cells slots i j ls hw hl h hci hcj
  obtain ⟨p0, p2, p3⟩ := x
  have h : xP_init_b73 gl rec73 p0 p2 p3 st = some (rF, stF, i, j) := h
  unfold xP_init_b73 at h
  have hl : lh_ ls 5 [(0, (va_rf p0)), (2, (.int p2)), (3, (.int p3))] := hl
  refine W.eq (g2 := F0 m 73 ls []) rfl ?_
  refine lv_iload_n X.1 X.2.1 dd_xP_init_73 rfl (lv_at hl.1 2 rfl) ?_
  refine lv_bipush (v := (8 : Int32)) X.1 X.2.1 dd_xP_init_74 (by decide) ?_
  by_cases hc76 : (8 : Int32) ≤ p3
  · rw [if_pos hc76] at h
    refine lv_icmp_ge (tgt := 98) X.1 X.2.1 dd_xP_init_76 (by decide) (fun _ => ?_) (fun z => absurd hc76 z)
    refine lv_iconst (v := (0 : Int32)) X.1 X.2.1 dd_xP_init_98 (by decide) ?_
    refine rr_istn (lv' := [(3, (.int (0 : Int32))), (0, (va_rf p0)), (2, (.int p2))]) X dd_xP_init_99 rfl hl (by decide) rfl (fun ls hl => ?_)
    exact (kb_xP_init_b100 X hKs hlk hret hnm) (p0, p2, (0 : Int32)) _ _ _ _ _ _ _ _ hw (lh_pk hl [1, 2, 0] rfl) h hci hcj
  · rw [if_neg hc76] at h
    refine lv_icmp_ge (tgt := 98) X.1 X.2.1 dd_xP_init_76 (by decide) (fun z => absurd z hc76) (fun _ => ?_)
    refine rr_aldn X dd_xP_init_79 rfl (lv_at hl.1 0 rfl) ?_
    obtain ⟨t50, ht50, h⟩ := st_g_some h
    refine rr_getq X hw ff_0_1 ht50 tw_65 (Or.inl rfl) dd_xP_init_80 ?_
    refine lv_iload_n X.1 X.2.1 dd_xP_init_83 rfl (lv_at hl.1 2 rfl) ?_
    obtain ⟨t60, t61, h, ei, ej⟩ := st_n_some h
    refine rr_new (fs := cd_2) X hw cf_2 cb_2 tw_53 tw_78 tw_75 (show cells + 1 ≤ _ ∧ slots + 3 ≤ _ from ⟨by show _ ≤ iT; omega, by show _ ≤ jT; omega⟩) dd_xP_init_84 (fun H hw => ?_)
    have hci : cells + 1 + t60 = iT := by omega
    have hcj : slots + 3 + t61 = jT := by omega
    clear ei ej
    generalize st.2 = t51 at h ⊢
    have h := h
    generalize (st_ad st (.inr (.inr (2, cd_2)))) = t52 at h hw
    refine lv_dup X.1 X.2.1 dd_xP_init_87 (rf_cat _) ?_
    obtain ⟨t53, t54, t55, t56, t57, t58, ht53, h, ei, ej⟩ := st_b_some h
    refine rr_callN (n := 0) (b := t51) (host := "PromiseVats") (As := []) (rest := [(va_rf (some t51)), (.int p3), (va_rf t50)]) X hw (kn_ok D ac a0 gl) hKs (kc_xG_init l D ac a0 gl (some t51) _ _ _ _ _ ht53) tb_good tw_76 tw_75 (hKs.2.2.2.2.1 ("PromiseVats", 52, ⟨"PromiseVats$Program", "<init>", "()V"⟩, "PromiseVats") (by decide +kernel)) tw_77 rfl (by decide +kernel) rfl (show 1 + 1 ≤ _ ∧ 8 + (1 + 11) + 12 ≤ _ from ⟨Nat.le_of_ble_eq_true rfl, Nat.le_of_ble_eq_true rfl⟩) (show cells + 1 + t55 ≤ _ ∧ slots + 3 + t56 ≤ _ from ⟨by show _ ≤ iT; omega, by show _ ≤ jT; omega⟩) hl.1.1 (by simp [rf_cat, ic_cat]) rfl dd_xP_init_88 (sk := [(va_rf (some t51)), (.int p3), (va_rf t50)]) rfl (fun H locs hw => ?_)
    have hci : cells + 1 + t55 + t57 = iT := by omega
    have hcj : slots + 3 + t56 + t58 = jT := by omega
    clear ei ej
    obtain ⟨t59, hp91, h⟩ := st_w_some h
    refine rr_aast X hw (ta_5 hKs) hp91 dd_xP_init_91 (fun H locs hw => ?_)
    refine rr_iinc (k := 2) (v := (p3 + (1 : Int32))) (lv' := [(3, (.int (p3 + (1 : Int32)))), (0, (va_rf p0)), (2, (.int p2))]) X dd_xP_init_92 hl rfl (by rw [show Int32.ofInt (1) = (1 : Int32) from by decide]) (by decide) rfl (fun ls hl => ?_)
    refine lv_goto (tgt := 73) X.1 X.2.1 dd_xP_init_95 (by decide) ?_
    exact hr73 (p0, p2, (p3 + (1 : Int32))) _ _ _ _ _ _ _ _ hw (lh_pk hl [1, 2, 0] rfl) h hci hcj
set_option maxHeartbeats 4000000 in
set_option maxRecDepth 100000 in
theorem kc_xP_init (l : Launch) (D : va_G) (ac : Nat → ClassId) (a0 : Nat) (gl : gl_T) (v0 : Option Nat) (v1 : Int32) (st : st_S) (rF : Unit) (stF : st_S) (iT jT : Nat) (h : xP_init gl v0 v1 st = some (rF, stF, iT, jT)) :
    ct_ l ⟨"PromiseVats", "<init>", "(I)V"⟩ (Cond.code ⟨"PromiseVats", "<init>", "(I)V"⟩ prog_1_method_1_code 5 (Option.none : Option FieldType) :: tb_) 6 115 D cl_ ac a0 (kn_ D ac a0 gl) [(va_rf v0), (.int v1)] st (vb_u rF) stF iT jT := by
  refine ct_of (kn_ok D ac a0 gl) (plainFor_of_name (by decide +kernel)) (by simp [rf_cat, ic_cat]) (by simp) ?_
  intro p e s m args below meth c ls X hw hKs hlk hret hnm hl
  unfold xP_init at h
  have hl : lh_ ls 5 [(0, (va_rf v0)), (1, (.int v1))] := hl
  have hci : 0 + iT = iT := Nat.zero_add _
  have hcj : 0 + jT = jT := Nat.zero_add _
  refine rr_aldn X dd_xP_init_0 rfl (lv_at hl.1 0 rfl) ?_
  obtain ⟨t1, ht1, h⟩ := st_g_some h
  refine rr_objI X ht1 tw_74 tw_1 tw_2 hl.1.1 (Nat.le_of_ble_eq_true rfl) (by simp [rf_cat, ic_cat]) dd_xP_init_1 ?_
  refine lv_iconst (v := (2 : Int32)) X.1 X.2.1 dd_xP_init_4 (by decide) ?_
  refine lv_iconst (v := (4 : Int32)) X.1 X.2.1 dd_xP_init_5 (by decide) ?_
  refine lv_iload_n X.1 X.2.1 dd_xP_init_6 rfl (lv_at hl.1 1 rfl) ?_
  obtain ⟨t2, t3, t4, t5, t6, t7, ht2, h, ei, ej⟩ := st_b_some h
  refine rr_callS (n := 2) (As := [(.int (4 : Int32)), (.int v1)]) (rest := [(.int (2 : Int32))]) X hw (kn_ok D ac a0 gl) hKs (kc_ma_min l D ac a0 gl (4 : Int32) v1 _ _ _ _ _ ht2) tb_good tw_71 tw_67 tw_72 tw_73 (by decide +kernel) rfl (show 0 + 1 ≤ _ ∧ 8 + (2 + 11) + 0 ≤ _ from ⟨Nat.le_of_ble_eq_true rfl, Nat.le_of_ble_eq_true rfl⟩) (show 0 + t4 ≤ _ ∧ 0 + t5 ≤ _ from ⟨by show _ ≤ iT; omega, by show _ ≤ jT; omega⟩) hl.1.1 (by simp [rf_cat, ic_cat]) rfl dd_xP_init_7 (sk := [(.int t2), (.int (2 : Int32))]) rfl (fun H locs hw => ?_)
  have hci : 0 + t4 + t6 = iT := by omega
  have hcj : 0 + t5 + t7 = jT := by omega
  clear ei ej
  obtain ⟨t8, t9, t10, t11, t12, t13, ht8, h, ei, ej⟩ := st_b_some h
  refine rr_callS (n := 2) (As := [(.int (2 : Int32)), (.int t2)]) (rest := []) X hw (kn_ok D ac a0 gl) hKs (kc_ma_max l D ac a0 gl (2 : Int32) t2 _ _ _ _ _ ht8) tb_good tw_68 tw_67 tw_69 tw_70 (by decide +kernel) rfl (show 0 + 1 ≤ _ ∧ 8 + (2 + 11) + 0 ≤ _ from ⟨Nat.le_of_ble_eq_true rfl, Nat.le_of_ble_eq_true rfl⟩) (show 0 + t4 + t10 ≤ _ ∧ 0 + t5 + t11 ≤ _ from ⟨by show _ ≤ iT; omega, by show _ ≤ jT; omega⟩) hl.1.1 (by simp [rf_cat, ic_cat]) rfl dd_xP_init_10 (sk := [(.int t8)]) rfl (fun H locs hw => ?_)
  have hci : 0 + t4 + t10 + t12 = iT := by omega
  have hcj : 0 + t5 + t11 + t13 = jT := by omega
  clear ei ej
  refine rr_istn (lv' := [(2, (.int t8)), (0, (va_rf v0)), (1, (.int v1))]) X dd_xP_init_13 rfl hl (by decide) rfl (fun ls hl => ?_)
  refine rr_aldn X dd_xP_init_14 rfl (lv_at hl.1 1 rfl) ?_
  refine lv_iload_n X.1 X.2.1 dd_xP_init_15 rfl (lv_at hl.1 0 rfl) ?_
  obtain ⟨_, hz16, h⟩ := st_g_some h
  have hn16 := so_l_s hz16
  obtain ⟨t15, t16, h, ei, ej⟩ := st_n_some h
  refine rr_newq (t := 4) X hw rfl hn16.1 rfl hn16.2 tw_52 (to_4 hKs) (show 0 + t4 + t10 + 1 ≤ _ ∧ 0 + t5 + t11 + t8.toNatClampNeg ≤ _ from ⟨by show _ ≤ iT; omega, by show _ ≤ jT; omega⟩) dd_xP_init_16 (fun H hw => ?_)
  have hci : 0 + t4 + t10 + 1 + t15 = iT := by omega
  have hcj : 0 + t5 + t11 + t8.toNatClampNeg + t16 = jT := by omega
  clear ei ej
  generalize t9.2 = t14 at h ⊢
  have h := h
  generalize (st_ad t9 (.inr (.inl (4, t8.toNatClampNeg, fun _ => none)))) = t17 at h hw
  obtain ⟨t18, hp19, h⟩ := st_w_some h
  refine rr_putF (ty := .array (.object "PromiseVats$Vat")) X hw ff_0_0 hp19 tw_66 hnm (by decide +kernel) (rf_narA _ _) (rf_fitA _ _) dd_xP_init_19 (fun H locs hw => ?_)
  refine rr_aldn X dd_xP_init_22 rfl (lv_at hl.1 1 rfl) ?_
  refine lv_bipush (v := (8 : Int32)) X.1 X.2.1 dd_xP_init_23 (by decide) ?_
  obtain ⟨_, hz25, h⟩ := st_g_some h
  have hn25 := so_l_s hz25
  obtain ⟨t20, t21, h, ei, ej⟩ := st_n_some h
  refine rr_newq (t := 5) X hw rfl hn25.1 rfl hn25.2 tw_53 (to_5 hKs) (show 0 + t4 + t10 + 1 + 1 ≤ _ ∧ 0 + t5 + t11 + t8.toNatClampNeg + (8 : Int32).toNatClampNeg ≤ _ from ⟨by show _ ≤ iT; omega, by show _ ≤ jT; omega⟩) dd_xP_init_25 (fun H hw => ?_)
  have hci : 0 + t4 + t10 + 1 + 1 + t20 = iT := by omega
  have hcj : 0 + t5 + t11 + t8.toNatClampNeg + (8 : Int32).toNatClampNeg + t21 = jT := by omega
  clear ei ej
  generalize t18.2 = t19 at h ⊢
  have h := h
  generalize (st_ad t18 (.inr (.inl (5, (8 : Int32).toNatClampNeg, fun _ => none)))) = t22 at h hw
  obtain ⟨t23, hp28, h⟩ := st_w_some h
  refine rr_putF (ty := .array (.object "PromiseVats$Program")) X hw ff_0_1 hp28 tw_65 hnm (by decide +kernel) (rf_narA _ _) (rf_fitA _ _) dd_xP_init_28 (fun H locs hw => ?_)
  refine rr_aldn X dd_xP_init_31 rfl (lv_at hl.1 1 rfl) ?_
  refine lv_sipush (v := (201 : Int32)) X.1 X.2.1 dd_xP_init_32 (by decide) ?_
  obtain ⟨_, hz35, h⟩ := st_g_some h
  have hn35 := so_l_s hz35
  obtain ⟨t25, t26, h, ei, ej⟩ := st_n_some h
  refine rr_newq (t := 6) X hw rfl hn35.1 rfl hn35.2 tw_54 (to_6 hKs) (show 0 + t4 + t10 + 1 + 1 + 1 ≤ _ ∧ 0 + t5 + t11 + t8.toNatClampNeg + (8 : Int32).toNatClampNeg + (201 : Int32).toNatClampNeg ≤ _ from ⟨by show _ ≤ iT; omega, by show _ ≤ jT; omega⟩) dd_xP_init_35 (fun H hw => ?_)
  have hci : 0 + t4 + t10 + 1 + 1 + 1 + t25 = iT := by omega
  have hcj : 0 + t5 + t11 + t8.toNatClampNeg + (8 : Int32).toNatClampNeg + (201 : Int32).toNatClampNeg + t26 = jT := by omega
  clear ei ej
  generalize t23.2 = t24 at h ⊢
  have h := h
  generalize (st_ad t23 (.inr (.inl (6, (201 : Int32).toNatClampNeg, fun _ => none)))) = t27 at h hw
  obtain ⟨t28, hp38, h⟩ := st_w_some h
  refine rr_putF (ty := .array (.object "PromiseVats$Entity")) X hw ff_0_2 hp38 tw_64 hnm (by decide +kernel) (rf_narA _ _) (rf_fitA _ _) dd_xP_init_38 (fun H locs hw => ?_)
  refine rr_aldn X dd_xP_init_41 rfl (lv_at hl.1 1 rfl) ?_
  obtain ⟨t48, t49, h, ei, ej⟩ := st_n_some h
  refine rr_new (fs := cd_1) X hw cf_1 cb_1 tw_62 tw_63 tw_59 (show 0 + t4 + t10 + 1 + 1 + 1 + 1 ≤ _ ∧ 0 + t5 + t11 + t8.toNatClampNeg + (8 : Int32).toNatClampNeg + (201 : Int32).toNatClampNeg + 4 ≤ _ from ⟨by show _ ≤ iT; omega, by show _ ≤ jT; omega⟩) dd_xP_init_42 (fun H hw => ?_)
  have hci : 0 + t4 + t10 + 1 + 1 + 1 + 1 + t48 = iT := by omega
  have hcj : 0 + t5 + t11 + t8.toNatClampNeg + (8 : Int32).toNatClampNeg + (201 : Int32).toNatClampNeg + 4 + t49 = jT := by omega
  clear ei ej
  generalize t28.2 = t29 at h ⊢
  have h := h
  generalize (st_ad t28 (.inr (.inr (1, cd_1)))) = t30 at h hw
  refine lv_dup X.1 X.2.1 dd_xP_init_45 (rf_cat _) ?_
  obtain ⟨t31, t32, t33, t34, t35, t36, ht31, h, ei, ej⟩ := st_b_some h
  refine rr_callN (n := 0) (b := t29) (host := "PromiseVats") (As := []) (rest := [(va_rf (some t29)), (va_rf v0)]) X hw (kn_ok D ac a0 gl) hKs (kc_xT_init l D ac a0 gl (some t29) _ _ _ _ _ ht31) tb_good tw_60 tw_59 (hKs.2.2.2.2.1 ("PromiseVats", 38, ⟨"PromiseVats$Turn", "<init>", "()V"⟩, "PromiseVats") (by decide +kernel)) tw_61 rfl (by decide +kernel) rfl (show 1 + 1 ≤ _ ∧ 8 + (1 + 11) + 12 ≤ _ from ⟨Nat.le_of_ble_eq_true rfl, Nat.le_of_ble_eq_true rfl⟩) (show 0 + t4 + t10 + 1 + 1 + 1 + 1 + t33 ≤ _ ∧ 0 + t5 + t11 + t8.toNatClampNeg + (8 : Int32).toNatClampNeg + (201 : Int32).toNatClampNeg + 4 + t34 ≤ _ from ⟨by show _ ≤ iT; omega, by show _ ≤ jT; omega⟩) hl.1.1 (by simp [rf_cat, ic_cat]) rfl dd_xP_init_46 (sk := [(va_rf (some t29)), (va_rf v0)]) rfl (fun H locs hw => ?_)
  have hci : 0 + t4 + t10 + 1 + 1 + 1 + 1 + t33 + t35 = iT := by omega
  have hcj : 0 + t5 + t11 + t8.toNatClampNeg + (8 : Int32).toNatClampNeg + (201 : Int32).toNatClampNeg + 4 + t34 + t36 = jT := by omega
  clear ei ej
  obtain ⟨t37, hp49, h⟩ := st_w_some h
  refine rr_putF (ty := .object "PromiseVats$Turn") X hw ff_0_5 hp49 tw_58 hnm (by decide +kernel) (rf_nar _ _) (rf_fit _ _) dd_xP_init_49 (fun H locs hw => ?_)
  refine rr_aldn X dd_xP_init_52 rfl (lv_at hl.1 1 rfl) ?_
  refine lv_bipush (v := (100 : Int32)) X.1 X.2.1 dd_xP_init_53 (by decide) ?_
  obtain ⟨_, hz55, h⟩ := st_g_some h
  have hn55 := so_l_s hz55
  obtain ⟨t39, t40, h, ei, ej⟩ := st_n_some h
  refine rr_newq (t := 7) X hw rfl hn55.1 rfl hn55.2 tw_55 (to_7 hKs) (show 0 + t4 + t10 + 1 + 1 + 1 + 1 + t33 + 1 ≤ _ ∧ 0 + t5 + t11 + t8.toNatClampNeg + (8 : Int32).toNatClampNeg + (201 : Int32).toNatClampNeg + 4 + t34 + (100 : Int32).toNatClampNeg ≤ _ from ⟨by show _ ≤ iT; omega, by show _ ≤ jT; omega⟩) dd_xP_init_55 (fun H hw => ?_)
  have hci : 0 + t4 + t10 + 1 + 1 + 1 + 1 + t33 + 1 + t39 = iT := by omega
  have hcj : 0 + t5 + t11 + t8.toNatClampNeg + (8 : Int32).toNatClampNeg + (201 : Int32).toNatClampNeg + 4 + t34 + (100 : Int32).toNatClampNeg + t40 = jT := by omega
  clear ei ej
  generalize t37.2 = t38 at h ⊢
  have h := h
  generalize (st_ad t37 (.inr (.inl (7, (100 : Int32).toNatClampNeg, fun _ => none)))) = t41 at h hw
  obtain ⟨t42, hp58, h⟩ := st_w_some h
  refine rr_putF (ty := .array (.object "PromiseVats$Promise")) X hw ff_0_6 hp58 tw_57 hnm (by decide +kernel) (rf_narA _ _) (rf_fitA _ _) dd_xP_init_58 (fun H locs hw => ?_)
  refine rr_aldn X dd_xP_init_61 rfl (lv_at hl.1 1 rfl) ?_
  refine lv_sipush (v := (160 : Int32)) X.1 X.2.1 dd_xP_init_62 (by decide) ?_
  obtain ⟨_, hz65, h⟩ := st_g_some h
  have hn65 := so_l_s hz65
  obtain ⟨t44, t45, h, ei, ej⟩ := st_n_some h
  refine rr_newq (t := 6) X hw rfl hn65.1 rfl hn65.2 tw_54 (to_6 hKs) (show 0 + t4 + t10 + 1 + 1 + 1 + 1 + t33 + 1 + 1 ≤ _ ∧ 0 + t5 + t11 + t8.toNatClampNeg + (8 : Int32).toNatClampNeg + (201 : Int32).toNatClampNeg + 4 + t34 + (100 : Int32).toNatClampNeg + (160 : Int32).toNatClampNeg ≤ _ from ⟨by show _ ≤ iT; omega, by show _ ≤ jT; omega⟩) dd_xP_init_65 (fun H hw => ?_)
  have hci : 0 + t4 + t10 + 1 + 1 + 1 + 1 + t33 + 1 + 1 + t44 = iT := by omega
  have hcj : 0 + t5 + t11 + t8.toNatClampNeg + (8 : Int32).toNatClampNeg + (201 : Int32).toNatClampNeg + 4 + t34 + (100 : Int32).toNatClampNeg + (160 : Int32).toNatClampNeg + t45 = jT := by omega
  clear ei ej
  generalize t42.2 = t43 at h ⊢
  have h := h
  generalize (st_ad t42 (.inr (.inl (6, (160 : Int32).toNatClampNeg, fun _ => none)))) = t46 at h hw
  obtain ⟨t47, hp68, h⟩ := st_w_some h
  refine rr_putF (ty := .array (.object "PromiseVats$Entity")) X hw ff_0_8 hp68 tw_56 hnm (by decide +kernel) (rf_narA _ _) (rf_fitA _ _) dd_xP_init_68 (fun H locs hw => ?_)
  refine lv_iconst (v := (0 : Int32)) X.1 X.2.1 dd_xP_init_71 (by decide) ?_
  refine rr_istn (lv' := [(3, (.int (0 : Int32))), (2, (.int t8)), (0, (va_rf v0)), (1, (.int v1))]) X dd_xP_init_72 rfl hl (by decide) rfl (fun ls hl => ?_)
  exact (kb_xP_init_b73 X hKs hlk hret hnm) (v0, t8, (0 : Int32)) _ _ _ _ _ _ _ _ hw (lh_pk hl [2, 1, 0] rfl) h hci hcj
