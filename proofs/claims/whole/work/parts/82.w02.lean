/-! PromiseVats$Vat.<init>(LPromiseVats$VatObject;I)V -/
theorem dd_xV_init_0 : decode prog_9_method_1_code 0 = .ok (.aload_n 0, 1) := by decide +kernel
theorem dd_xV_init_1 : decode prog_9_method_1_code 1 = .ok (.invokespecial 3, 3) := by decide +kernel
theorem dd_xV_init_4 : decode prog_9_method_1_code 4 = .ok (.aload_n 0, 1) := by decide +kernel
theorem dd_xV_init_5 : decode prog_9_method_1_code 5 = .ok (.new 9, 3) := by decide +kernel
theorem dd_xV_init_8 : decode prog_9_method_1_code 8 = .ok (.dup, 1) := by decide +kernel
theorem dd_xV_init_9 : decode prog_9_method_1_code 9 = .ok (.invokespecial 11, 3) := by decide +kernel
theorem dd_xV_init_12 : decode prog_9_method_1_code 12 = .ok (.putfield 12, 3) := by decide +kernel
theorem dd_xV_init_15 : decode prog_9_method_1_code 15 = .ok (.aload_n 0, 1) := by decide +kernel
theorem dd_xV_init_16 : decode prog_9_method_1_code 16 = .ok (.bipush 10, 2) := by decide +kernel
theorem dd_xV_init_18 : decode prog_9_method_1_code 18 = .ok (.newarray .int, 2) := by decide +kernel
theorem dd_xV_init_20 : decode prog_9_method_1_code 20 = .ok (.putfield 18, 3) := by decide +kernel
theorem dd_xV_init_23 : decode prog_9_method_1_code 23 = .ok (.aload_n 0, 1) := by decide +kernel
theorem dd_xV_init_24 : decode prog_9_method_1_code 24 = .ok (.aload_n 1, 1) := by decide +kernel
theorem dd_xV_init_25 : decode prog_9_method_1_code 25 = .ok (.putfield 22, 3) := by decide +kernel
theorem dd_xV_init_28 : decode prog_9_method_1_code 28 = .ok (.aload_n 0, 1) := by decide +kernel
theorem dd_xV_init_29 : decode prog_9_method_1_code 29 = .ok (.iload_n 2, 1) := by decide +kernel
theorem dd_xV_init_30 : decode prog_9_method_1_code 30 = .ok (.anewarray 26, 3) := by decide +kernel
theorem dd_xV_init_33 : decode prog_9_method_1_code 33 = .ok (.putfield 28, 3) := by decide +kernel
theorem dd_xV_init_36 : decode prog_9_method_1_code 36 = .ok (.iconst 0, 1) := by decide +kernel
theorem dd_xV_init_37 : decode prog_9_method_1_code 37 = .ok (.istore_n 3, 1) := by decide +kernel
theorem dd_xV_init_38 : decode prog_9_method_1_code 38 = .ok (.iload_n 3, 1) := by decide +kernel
theorem dd_xV_init_39 : decode prog_9_method_1_code 39 = .ok (.iload_n 2, 1) := by decide +kernel
theorem dd_xV_init_40 : decode prog_9_method_1_code 40 = .ok (.if_icmp .ge 22, 3) := by decide +kernel
theorem dd_xV_init_43 : decode prog_9_method_1_code 43 = .ok (.aload_n 0, 1) := by decide +kernel
theorem dd_xV_init_44 : decode prog_9_method_1_code 44 = .ok (.getfield 28, 3) := by decide +kernel
theorem dd_xV_init_47 : decode prog_9_method_1_code 47 = .ok (.iload_n 3, 1) := by decide +kernel
theorem dd_xV_init_48 : decode prog_9_method_1_code 48 = .ok (.new 26, 3) := by decide +kernel
theorem dd_xV_init_51 : decode prog_9_method_1_code 51 = .ok (.dup, 1) := by decide +kernel
theorem dd_xV_init_52 : decode prog_9_method_1_code 52 = .ok (.invokespecial 32, 3) := by decide +kernel
theorem dd_xV_init_55 : decode prog_9_method_1_code 55 = .ok (.aastore, 1) := by decide +kernel
theorem dd_xV_init_56 : decode prog_9_method_1_code 56 = .ok (.iinc 3 1, 3) := by decide +kernel
theorem dd_xV_init_59 : decode prog_9_method_1_code 59 = .ok (.goto (-21), 3) := by decide +kernel
theorem dd_xV_init_62 : decode prog_9_method_1_code 62 = .ok (.return_, 1) := by decide +kernel
set_option maxHeartbeats 4000000 in
set_option maxRecDepth 100000 in
theorem kb_xV_init_b38 {p : Program} {l : Launch} {e : Env} {s : State} {m : MethodId} {args : Array Value} {below : List Frame} {meth : Method} {c : Code} {D : va_G} {ac : Nat → ClassId} {a0 : Nat} {gl : gl_T} {rF : Unit} {stF : st_S} {iT jT : Nat}
    (X : cx_ p s m args c prog_9_method_1_code 4 "PromiseVats$Vat" tb_ D cl_ (ty_ ac)) (hKs : kn_ D ac a0 gl s) (hlk : meth.locks = false) (hret : meth.sig.returnType = (Option.none : Option FieldType)) (hnm : meth.name = "<init>") : wk_ p l e 5 92 s m args below meth c D cl_ ac a0 4 vb_u rF stF iT jT 38 (fun x : Option Nat × Int32 × Int32 => [(0, (va_rf x.1)), (2, (.int x.2.1)), (3, (.int x.2.2))]) (fun x : Option Nat × Int32 × Int32 => []) (st_it (fun rec38 => (fun x : Option Nat × Int32 × Int32 => xV_init_b38 gl rec38 x.1 x.2.1 x.2.2)) fu_) := by
  refine wk_it ?_ _
  intro rec38 hr38 x st H locs cells slots i j ls hw hl h hci hcj
  obtain ⟨p0, p2, p3⟩ := x
  have h : xV_init_b38 gl rec38 p0 p2 p3 st = some (rF, stF, i, j) := h
  unfold xV_init_b38 at h
  have hl : lh_ ls 4 [(0, (va_rf p0)), (2, (.int p2)), (3, (.int p3))] := hl
  refine W.eq (g2 := F0 m 38 ls []) rfl ?_
  refine lv_iload_n X.1 X.2.1 dd_xV_init_38 rfl (lv_at hl.1 2 rfl) ?_
  refine lv_iload_n X.1 X.2.1 dd_xV_init_39 rfl (lv_at hl.1 1 rfl) ?_
  by_cases hc40 : p2 ≤ p3
  · rw [if_pos hc40] at h
    refine lv_icmp_ge (tgt := 62) X.1 X.2.1 dd_xV_init_40 (by decide) (fun _ => ?_) (fun z => absurd hc40 z)
    obtain ⟨rfl, rfl, rfl, rfl⟩ := st_r_some h
    exact rr_vret X hw hlk hret hci hcj dd_xV_init_62
  · rw [if_neg hc40] at h
    refine lv_icmp_ge (tgt := 62) X.1 X.2.1 dd_xV_init_40 (by decide) (fun z => absurd z hc40) (fun _ => ?_)
    refine rr_aldn X dd_xV_init_43 rfl (lv_at hl.1 0 rfl) ?_
    obtain ⟨t32, ht32, h⟩ := st_g_some h
    refine rr_getq X hw ff_5_2 ht32 tw_41 (Or.inl rfl) dd_xV_init_44 ?_
    refine lv_iload_n X.1 X.2.1 dd_xV_init_47 rfl (lv_at hl.1 2 rfl) ?_
    obtain ⟨t46, t47, h, ei, ej⟩ := st_n_some h
    refine rr_new (fs := cd_7) X hw cf_7 cb_7 tw_40 tw_51 tw_48 (show cells + 1 ≤ iT ∧ slots + 1 ≤ jT from ⟨ar_1 hci ei, ar_1 hcj ej⟩) dd_xV_init_48 (fun H hw => ?_)
    have hci : cells + 1 + t46 = iT := ar_2 hci ei
    have hcj : slots + 1 + t47 = jT := ar_2 hcj ej
    clear ei ej
    generalize cells + 1 = t34 at hci ⊢
    generalize slots + 1 = t35 at hcj ⊢
    generalize st.2 = t33 at h ⊢
    have h := h
    generalize (st_ad st (.inr (.inr (7, cd_7)))) = t36 at h hw
    refine lv_dup X.1 X.2.1 dd_xV_init_51 (rf_cat _) ?_
    obtain ⟨t37, t38, t39, t40, t41, t42, ht37, h, ei, ej⟩ := st_b_some h
    refine rr_callN (n := 0) (b := t33) (host := "PromiseVats") (As := []) (rest := [(va_rf (some t33)), (.int p3), (va_rf t32)]) X hw (kn_ok D ac a0 gl) hKs (kc_xH_init l D ac a0 gl (some t33) _ _ _ _ _ ht37) tb_good tw_49 tw_48 (hKs.2.2.2.2.1 ("PromiseVats$Vat", 32, ⟨"PromiseVats$Channel", "<init>", "()V"⟩, "PromiseVats") (by decide +kernel)) tw_50 rfl (by decide +kernel) rfl (show 4 + 1 ≤ _ ∧ 8 + (1 + 11) + 72 ≤ _ from ⟨Nat.le_of_ble_eq_true rfl, Nat.le_of_ble_eq_true rfl⟩) (show t34 + t39 ≤ iT ∧ t35 + t40 ≤ jT from ⟨ar_1 hci ei, ar_1 hcj ej⟩) hl.1.1 (by simp [rf_cat, ic_cat]) rfl dd_xV_init_52 (sk := [(va_rf (some t33)), (.int p3), (va_rf t32)]) rfl (fun H locs hw => ?_)
    have hci : t34 + t39 + t41 = iT := ar_2 hci ei
    have hcj : t35 + t40 + t42 = jT := ar_2 hcj ej
    clear ei ej
    generalize t34 + t39 = t43 at hci ⊢
    generalize t35 + t40 = t44 at hcj ⊢
    obtain ⟨t45, hp55, h⟩ := st_w_some h
    refine rr_aast X hw (ta_8 hKs) hp55 dd_xV_init_55 (fun H locs hw => ?_)
    refine rr_iinc (k := 2) (v := (p3 + (1 : Int32))) (lv' := [(3, (.int (p3 + (1 : Int32)))), (0, (va_rf p0)), (2, (.int p2))]) X dd_xV_init_56 hl rfl (by rw [show Int32.ofInt (1) = (1 : Int32) from by decide]) (by decide) rfl (fun ls hl => ?_)
    refine lv_goto (tgt := 38) X.1 X.2.1 dd_xV_init_59 (by decide) ?_
    exact hr38 (p0, p2, (p3 + (1 : Int32))) _ _ _ _ _ _ _ _ hw (lh_pk hl [1, 2, 0] rfl) h hci hcj
set_option maxHeartbeats 4000000 in
set_option maxRecDepth 100000 in
theorem kc_xV_init (l : Launch) (D : va_G) (ac : Nat → ClassId) (a0 : Nat) (gl : gl_T) (v0 : Option Nat) (v1 : Option Nat) (v2 : Int32) (st : st_S) (rF : Unit) (stF : st_S) (iT jT : Nat) (h : xV_init gl v0 v1 v2 st = some (rF, stF, iT, jT)) :
    ct_ l ⟨"PromiseVats$Vat", "<init>", "(LPromiseVats$VatObject;I)V"⟩ (Cond.code ⟨"PromiseVats$Vat", "<init>", "(LPromiseVats$VatObject;I)V"⟩ prog_9_method_1_code 4 (Option.none : Option FieldType) :: tb_) 5 92 D cl_ ac a0 (kn_ D ac a0 gl) [(va_rf v0), (va_rf v1), (.int v2)] st (vb_u rF) stF iT jT := by
  refine ct_of (kn_ok D ac a0 gl) (plainFor_of_name (by decide +kernel)) (by simp [rf_cat, ic_cat]) (by simp) ?_
  intro p e s m args below meth c ls X hw hKs hlk hret hnm hl
  unfold xV_init at h
  have hl : lh_ ls 4 [(0, (va_rf v0)), (1, (va_rf v1)), (2, (.int v2))] := hl
  obtain ⟨z0, hz0⟩ : ∃ z : Nat, 0 = z := ⟨0, rfl⟩
  obtain ⟨z1, hz1⟩ : ∃ z : Nat, 0 = z := ⟨0, rfl⟩
  refine W.cs hz0 hz1 ?_
  have hci : z0 + iT = iT := by omega
  have hcj : z1 + jT = jT := by omega
  refine rr_aldn X dd_xV_init_0 rfl (lv_at hl.1 0 rfl) ?_
  obtain ⟨t1, ht1, h⟩ := st_g_some h
  refine rr_objI X ht1 tw_47 tw_1 tw_2 hl.1.1 (Nat.le_of_ble_eq_true rfl) (by simp [rf_cat, ic_cat]) dd_xV_init_1 ?_
  refine rr_aldn X dd_xV_init_4 rfl (lv_at hl.1 0 rfl) ?_
  obtain ⟨t30, t31, h, ei, ej⟩ := st_n_some h
  refine rr_new (fs := cd_6) X hw cf_6 cb_6 tw_46 tw_38 tw_33 (show z0 + 1 ≤ iT ∧ z1 + 3 ≤ jT from ⟨ar_1 hci ei, ar_1 hcj ej⟩) dd_xV_init_5 (fun H hw => ?_)
  have hci : z0 + 1 + t30 = iT := ar_2 hci ei
  have hcj : z1 + 3 + t31 = jT := ar_2 hcj ej
  clear ei ej
  generalize z0 + 1 = t3 at hci ⊢
  generalize z1 + 3 = t4 at hcj ⊢
  generalize st.2 = t2 at h ⊢
  have h := h
  generalize (st_ad st (.inr (.inr (6, cd_6)))) = t5 at h hw
  refine lv_dup X.1 X.2.1 dd_xV_init_8 (rf_cat _) ?_
  obtain ⟨t6, t7, t8, t9, t10, t11, ht6, h, ei, ej⟩ := st_b_some h
  refine rr_callI (n := 0) (b := t2) (As := []) (rest := [(va_rf (some t2)), (va_rf v0)]) X hw (kn_ok D ac a0 gl) hKs (kc_al_init l D ac a0 gl (some t2) _ _ _ _ _ ht6) tb_good tw_34 tw_33 tw_45 tw_36 rfl (by decide +kernel) rfl (show 3 + 1 ≤ _ ∧ 8 + (1 + 11) + 52 ≤ _ from ⟨Nat.le_of_ble_eq_true rfl, Nat.le_of_ble_eq_true rfl⟩) (show t3 + t8 ≤ iT ∧ t4 + t9 ≤ jT from ⟨ar_1 hci ei, ar_1 hcj ej⟩) hl.1.1 (by simp [rf_cat, ic_cat]) rfl dd_xV_init_9 (sk := [(va_rf (some t2)), (va_rf v0)]) rfl (fun H locs hw => ?_)
  have hci : t3 + t8 + t10 = iT := ar_2 hci ei
  have hcj : t4 + t9 + t11 = jT := ar_2 hcj ej
  clear ei ej
  generalize t3 + t8 = t12 at hci ⊢
  generalize t4 + t9 = t13 at hcj ⊢
  obtain ⟨t14, hp12, h⟩ := st_w_some h
  refine rr_putF (ty := .object "java/util/ArrayList") X hw ff_5_1 hp12 tw_44 hnm (by decide +kernel) (rf_nar _ _) (rf_fit _ _) dd_xV_init_12 (fun H locs hw => ?_)
  refine rr_aldn X dd_xV_init_15 rfl (lv_at hl.1 0 rfl) ?_
  refine lv_bipush (v := (10 : Int32)) X.1 X.2.1 dd_xV_init_16 (by decide) ?_
  obtain ⟨_, hz18, h⟩ := st_g_some h
  have hn18 := so_l_s hz18
  obtain ⟨t16, t17, h, ei, ej⟩ := st_n_some h
  refine rr_newi (t := 0) X hw rfl hn18.1 rfl hn18.2 tw_3 (show t12 + 1 ≤ iT ∧ t13 + (10 : Int32).toNatClampNeg ≤ jT from ⟨ar_1 hci ei, ar_1 hcj ej⟩) dd_xV_init_18 (fun H hw => ?_)
  have hci : t12 + 1 + t16 = iT := ar_2 hci ei
  have hcj : t13 + (10 : Int32).toNatClampNeg + t17 = jT := ar_2 hcj ej
  clear ei ej
  generalize t12 + 1 = t18 at hci ⊢
  generalize t13 + (10 : Int32).toNatClampNeg = t19 at hcj ⊢
  generalize t14.2 = t15 at h ⊢
  have h := h
  generalize (st_ad t14 (.inl (0, (10 : Int32).toNatClampNeg, fun _ => 0))) = t20 at h hw
  obtain ⟨t21, hp20, h⟩ := st_w_some h
  refine rr_putF (ty := .array (.int)) X hw ff_5_3 hp20 tw_43 hnm (by decide +kernel) (rf_narA _ _) (rf_fitA _ _) dd_xV_init_20 (fun H locs hw => ?_)
  refine rr_aldn X dd_xV_init_23 rfl (lv_at hl.1 0 rfl) ?_
  refine rr_aldn X dd_xV_init_24 rfl (lv_at hl.1 1 rfl) ?_
  obtain ⟨t22, hp25, h⟩ := st_w_some h
  refine rr_putF (ty := .object "PromiseVats$VatObject") X hw ff_5_0 hp25 tw_42 hnm (by decide +kernel) (rf_nar _ _) (rf_fit _ _) dd_xV_init_25 (fun H locs hw => ?_)
  refine rr_aldn X dd_xV_init_28 rfl (lv_at hl.1 0 rfl) ?_
  refine lv_iload_n X.1 X.2.1 dd_xV_init_29 rfl (lv_at hl.1 2 rfl) ?_
  obtain ⟨_, hz30, h⟩ := st_g_some h
  have hn30 := so_l_s hz30
  obtain ⟨t24, t25, h, ei, ej⟩ := st_n_some h
  refine rr_newq (t := 8) X hw rfl hn30.1 rfl hn30.2 tw_40 (to_8 hKs) (show t18 + 1 ≤ iT ∧ t19 + v2.toNatClampNeg ≤ jT from ⟨ar_1 hci ei, ar_1 hcj ej⟩) dd_xV_init_30 (fun H hw => ?_)
  have hci : t18 + 1 + t24 = iT := ar_2 hci ei
  have hcj : t19 + v2.toNatClampNeg + t25 = jT := ar_2 hcj ej
  clear ei ej
  generalize t18 + 1 = t26 at hci ⊢
  generalize t19 + v2.toNatClampNeg = t27 at hcj ⊢
  generalize t22.2 = t23 at h ⊢
  have h := h
  generalize (st_ad t22 (.inr (.inl (8, v2.toNatClampNeg, fun _ => none)))) = t28 at h hw
  obtain ⟨t29, hp33, h⟩ := st_w_some h
  refine rr_putF (ty := .array (.object "PromiseVats$Channel")) X hw ff_5_2 hp33 tw_41 hnm (by decide +kernel) (rf_narA _ _) (rf_fitA _ _) dd_xV_init_33 (fun H locs hw => ?_)
  refine lv_iconst (v := (0 : Int32)) X.1 X.2.1 dd_xV_init_36 (by decide) ?_
  refine rr_istn (lv' := [(3, (.int (0 : Int32))), (0, (va_rf v0)), (1, (va_rf v1)), (2, (.int v2))]) X dd_xV_init_37 rfl hl (by decide) rfl (fun ls hl => ?_)
  exact (kb_xV_init_b38 X hKs hlk hret hnm) (v0, v2, (0 : Int32)) _ _ _ _ _ _ _ _ hw (lh_pk hl [1, 3, 0] rfl) h hci hcj
/-! PromiseVats.<init>(I)V -/
theorem dd_xP_init_0 : decode prog_1_method_1_code 0 = .ok (.aload_n 0, 1) := by decide +kernel
theorem dd_xP_init_1 : decode prog_1_method_1_code 1 = .ok (.invokespecial 1, 3) := by decide +kernel
theorem dd_xP_init_4 : decode prog_1_method_1_code 4 = .ok (.iconst 2, 1) := by decide +kernel
theorem dd_xP_init_5 : decode prog_1_method_1_code 5 = .ok (.iconst 4, 1) := by decide +kernel
theorem dd_xP_init_6 : decode prog_1_method_1_code 6 = .ok (.iload_n 1, 1) := by decide +kernel
theorem dd_xP_init_7 : decode prog_1_method_1_code 7 = .ok (.invokestatic 9, 3) := by decide +kernel
theorem dd_xP_init_10 : decode prog_1_method_1_code 10 = .ok (.invokestatic 15, 3) := by decide +kernel
theorem dd_xP_init_13 : decode prog_1_method_1_code 13 = .ok (.istore_n 2, 1) := by decide +kernel
theorem dd_xP_init_14 : decode prog_1_method_1_code 14 = .ok (.aload_n 0, 1) := by decide +kernel
theorem dd_xP_init_15 : decode prog_1_method_1_code 15 = .ok (.iload_n 2, 1) := by decide +kernel
theorem dd_xP_init_16 : decode prog_1_method_1_code 16 = .ok (.anewarray 18, 3) := by decide +kernel
theorem dd_xP_init_19 : decode prog_1_method_1_code 19 = .ok (.putfield 20, 3) := by decide +kernel
theorem dd_xP_init_22 : decode prog_1_method_1_code 22 = .ok (.aload_n 0, 1) := by decide +kernel
theorem dd_xP_init_23 : decode prog_1_method_1_code 23 = .ok (.bipush 8, 2) := by decide +kernel
theorem dd_xP_init_25 : decode prog_1_method_1_code 25 = .ok (.anewarray 24, 3) := by decide +kernel
theorem dd_xP_init_28 : decode prog_1_method_1_code 28 = .ok (.putfield 26, 3) := by decide +kernel
theorem dd_xP_init_31 : decode prog_1_method_1_code 31 = .ok (.aload_n 0, 1) := by decide +kernel
theorem dd_xP_init_32 : decode prog_1_method_1_code 32 = .ok (.sipush 201, 3) := by decide +kernel
theorem dd_xP_init_35 : decode prog_1_method_1_code 35 = .ok (.anewarray 30, 3) := by decide +kernel
theorem dd_xP_init_38 : decode prog_1_method_1_code 38 = .ok (.putfield 32, 3) := by decide +kernel
theorem dd_xP_init_41 : decode prog_1_method_1_code 41 = .ok (.aload_n 0, 1) := by decide +kernel
theorem dd_xP_init_42 : decode prog_1_method_1_code 42 = .ok (.new 36, 3) := by decide +kernel
theorem dd_xP_init_45 : decode prog_1_method_1_code 45 = .ok (.dup, 1) := by decide +kernel
theorem dd_xP_init_46 : decode prog_1_method_1_code 46 = .ok (.invokespecial 38, 3) := by decide +kernel
theorem dd_xP_init_49 : decode prog_1_method_1_code 49 = .ok (.putfield 39, 3) := by decide +kernel
theorem dd_xP_init_52 : decode prog_1_method_1_code 52 = .ok (.aload_n 0, 1) := by decide +kernel
theorem dd_xP_init_53 : decode prog_1_method_1_code 53 = .ok (.bipush 100, 2) := by decide +kernel
theorem dd_xP_init_55 : decode prog_1_method_1_code 55 = .ok (.anewarray 43, 3) := by decide +kernel
theorem dd_xP_init_58 : decode prog_1_method_1_code 58 = .ok (.putfield 45, 3) := by decide +kernel
theorem dd_xP_init_61 : decode prog_1_method_1_code 61 = .ok (.aload_n 0, 1) := by decide +kernel
theorem dd_xP_init_62 : decode prog_1_method_1_code 62 = .ok (.sipush 160, 3) := by decide +kernel
theorem dd_xP_init_65 : decode prog_1_method_1_code 65 = .ok (.anewarray 30, 3) := by decide +kernel
theorem dd_xP_init_68 : decode prog_1_method_1_code 68 = .ok (.putfield 49, 3) := by decide +kernel
theorem dd_xP_init_71 : decode prog_1_method_1_code 71 = .ok (.iconst 0, 1) := by decide +kernel
theorem dd_xP_init_72 : decode prog_1_method_1_code 72 = .ok (.istore_n 3, 1) := by decide +kernel
theorem dd_xP_init_73 : decode prog_1_method_1_code 73 = .ok (.iload_n 3, 1) := by decide +kernel
theorem dd_xP_init_74 : decode prog_1_method_1_code 74 = .ok (.bipush 8, 2) := by decide +kernel
theorem dd_xP_init_76 : decode prog_1_method_1_code 76 = .ok (.if_icmp .ge 22, 3) := by decide +kernel
theorem dd_xP_init_79 : decode prog_1_method_1_code 79 = .ok (.aload_n 0, 1) := by decide +kernel
theorem dd_xP_init_80 : decode prog_1_method_1_code 80 = .ok (.getfield 26, 3) := by decide +kernel
theorem dd_xP_init_83 : decode prog_1_method_1_code 83 = .ok (.iload_n 3, 1) := by decide +kernel
theorem dd_xP_init_84 : decode prog_1_method_1_code 84 = .ok (.new 24, 3) := by decide +kernel
theorem dd_xP_init_87 : decode prog_1_method_1_code 87 = .ok (.dup, 1) := by decide +kernel
theorem dd_xP_init_88 : decode prog_1_method_1_code 88 = .ok (.invokespecial 52, 3) := by decide +kernel
theorem dd_xP_init_91 : decode prog_1_method_1_code 91 = .ok (.aastore, 1) := by decide +kernel
theorem dd_xP_init_92 : decode prog_1_method_1_code 92 = .ok (.iinc 3 1, 3) := by decide +kernel
theorem dd_xP_init_95 : decode prog_1_method_1_code 95 = .ok (.goto (-22), 3) := by decide +kernel
theorem dd_xP_init_98 : decode prog_1_method_1_code 98 = .ok (.iconst 0, 1) := by decide +kernel
theorem dd_xP_init_99 : decode prog_1_method_1_code 99 = .ok (.istore_n 3, 1) := by decide +kernel
theorem dd_xP_init_100 : decode prog_1_method_1_code 100 = .ok (.iload_n 3, 1) := by decide +kernel
theorem dd_xP_init_101 : decode prog_1_method_1_code 101 = .ok (.iload_n 2, 1) := by decide +kernel
theorem dd_xP_init_102 : decode prog_1_method_1_code 102 = .ok (.if_icmp .ge 49, 3) := by decide +kernel
theorem dd_xP_init_105 : decode prog_1_method_1_code 105 = .ok (.new 53, 3) := by decide +kernel
theorem dd_xP_init_108 : decode prog_1_method_1_code 108 = .ok (.dup, 1) := by decide +kernel
theorem dd_xP_init_109 : decode prog_1_method_1_code 109 = .ok (.iload_n 3, 1) := by decide +kernel
theorem dd_xP_init_110 : decode prog_1_method_1_code 110 = .ok (.iconst 1, 1) := by decide +kernel
theorem dd_xP_init_111 : decode prog_1_method_1_code 111 = .ok (.iadd, 1) := by decide +kernel
theorem dd_xP_init_112 : decode prog_1_method_1_code 112 = .ok (.iload_n 3, 1) := by decide +kernel
theorem dd_xP_init_113 : decode prog_1_method_1_code 113 = .ok (.iload_n 3, 1) := by decide +kernel
theorem dd_xP_init_114 : decode prog_1_method_1_code 114 = .ok (.invokespecial 55, 3) := by decide +kernel
theorem dd_xP_init_117 : decode prog_1_method_1_code 117 = .ok (.astore 4, 2) := by decide +kernel
theorem dd_xP_init_119 : decode prog_1_method_1_code 119 = .ok (.aload_n 0, 1) := by decide +kernel
theorem dd_xP_init_120 : decode prog_1_method_1_code 120 = .ok (.getfield 32, 3) := by decide +kernel
theorem dd_xP_init_123 : decode prog_1_method_1_code 123 = .ok (.iload_n 3, 1) := by decide +kernel
theorem dd_xP_init_124 : decode prog_1_method_1_code 124 = .ok (.iconst 1, 1) := by decide +kernel
theorem dd_xP_init_125 : decode prog_1_method_1_code 125 = .ok (.iadd, 1) := by decide +kernel
theorem dd_xP_init_126 : decode prog_1_method_1_code 126 = .ok (.aload 4, 2) := by decide +kernel
theorem dd_xP_init_128 : decode prog_1_method_1_code 128 = .ok (.aastore, 1) := by decide +kernel
theorem dd_xP_init_129 : decode prog_1_method_1_code 129 = .ok (.aload_n 0, 1) := by decide +kernel
theorem dd_xP_init_130 : decode prog_1_method_1_code 130 = .ok (.getfield 20, 3) := by decide +kernel
theorem dd_xP_init_133 : decode prog_1_method_1_code 133 = .ok (.iload_n 3, 1) := by decide +kernel
theorem dd_xP_init_134 : decode prog_1_method_1_code 134 = .ok (.new 18, 3) := by decide +kernel
theorem dd_xP_init_137 : decode prog_1_method_1_code 137 = .ok (.dup, 1) := by decide +kernel
theorem dd_xP_init_138 : decode prog_1_method_1_code 138 = .ok (.aload 4, 2) := by decide +kernel
theorem dd_xP_init_140 : decode prog_1_method_1_code 140 = .ok (.iload_n 2, 1) := by decide +kernel
theorem dd_xP_init_141 : decode prog_1_method_1_code 141 = .ok (.invokespecial 58, 3) := by decide +kernel
theorem dd_xP_init_144 : decode prog_1_method_1_code 144 = .ok (.aastore, 1) := by decide +kernel
theorem dd_xP_init_145 : decode prog_1_method_1_code 145 = .ok (.iinc 3 1, 3) := by decide +kernel
theorem dd_xP_init_148 : decode prog_1_method_1_code 148 = .ok (.goto (-48), 3) := by decide +kernel
theorem dd_xP_init_151 : decode prog_1_method_1_code 151 = .ok (.aload_n 0, 1) := by decide +kernel
theorem dd_xP_init_152 : decode prog_1_method_1_code 152 = .ok (.iload_n 2, 1) := by decide +kernel
theorem dd_xP_init_153 : decode prog_1_method_1_code 153 = .ok (.putfield 61, 3) := by decide +kernel
theorem dd_xP_init_156 : decode prog_1_method_1_code 156 = .ok (.return_, 1) := by decide +kernel
set_option maxHeartbeats 4000000 in
set_option maxRecDepth 100000 in
theorem kb_xP_init_b100 {p : Program} {l : Launch} {e : Env} {s : State} {m : MethodId} {args : Array Value} {below : List Frame} {meth : Method} {c : Code} {D : va_G} {ac : Nat → ClassId} {a0 : Nat} {gl : gl_T} {rF : Unit} {stF : st_S} {iT jT : Nat}
    (X : cx_ p s m args c prog_1_method_1_code 5 "PromiseVats" tb_ D cl_ (ty_ ac)) (hKs : kn_ D ac a0 gl s) (hlk : meth.locks = false) (hret : meth.sig.returnType = (Option.none : Option FieldType)) (hnm : meth.name = "<init>") : wk_ p l e 6 115 s m args below meth c D cl_ ac a0 5 vb_u rF stF iT jT 100 (fun x : Option Nat × Int32 × Int32 => [(0, (va_rf x.1)), (2, (.int x.2.1)), (3, (.int x.2.2))]) (fun x : Option Nat × Int32 × Int32 => []) (st_it (fun rec100 => (fun x : Option Nat × Int32 × Int32 => xP_init_b100 gl rec100 x.1 x.2.1 x.2.2)) fu_) := by
  refine wk_it ?_ _
  intro rec100 hr100 x st H locs cells slots i j ls hw hl h hci hcj
  obtain ⟨p0, p2, p3⟩ := x
  have h : xP_init_b100 gl rec100 p0 p2 p3 st = some (rF, stF, i, j) := h
  unfold xP_init_b100 at h
  have hl : lh_ ls 5 [(0, (va_rf p0)), (2, (.int p2)), (3, (.int p3))] := hl
  refine W.eq (g2 := F0 m 100 ls []) rfl ?_
  refine lv_iload_n X.1 X.2.1 dd_xP_init_100 rfl (lv_at hl.1 2 rfl) ?_
  refine lv_iload_n X.1 X.2.1 dd_xP_init_101 rfl (lv_at hl.1 1 rfl) ?_
  by_cases hc102 : p2 ≤ p3
  · rw [if_pos hc102] at h
    refine lv_icmp_ge (tgt := 151) X.1 X.2.1 dd_xP_init_102 (by decide) (fun _ => ?_) (fun z => absurd hc102 z)
    refine rr_aldn X dd_xP_init_151 rfl (lv_at hl.1 0 rfl) ?_
    refine lv_iload_n X.1 X.2.1 dd_xP_init_152 rfl (lv_at hl.1 1 rfl) ?_
    obtain ⟨t84, hp153, h⟩ := st_w_some h
    refine rr_put (ty := .int) X hw ff_0_3 hp153 tw_79 (Or.inl rfl) (by decide +kernel) rfl rfl dd_xP_init_153 (fun H locs hw => ?_)
    obtain ⟨rfl, rfl, rfl, rfl⟩ := st_r_some h
    exact rr_vret X hw hlk hret hci hcj dd_xP_init_156
  · rw [if_neg hc102] at h
    refine lv_icmp_ge (tgt := 151) X.1 X.2.1 dd_xP_init_102 (by decide) (fun z => absurd z hc102) (fun _ => ?_)
    obtain ⟨t115, t116, h, ei, ej⟩ := st_n_some h
    refine rr_new (fs := cd_3) X hw cf_3 cb_3 tw_89 tw_90 tw_85 (show cells + 1 ≤ iT ∧ slots + 10 ≤ jT from ⟨ar_1 hci ei, ar_1 hcj ej⟩) dd_xP_init_105 (fun H hw => ?_)
    have hci : cells + 1 + t115 = iT := ar_2 hci ei
    have hcj : slots + 10 + t116 = jT := ar_2 hcj ej
    clear ei ej
    generalize cells + 1 = t86 at hci ⊢
    generalize slots + 10 = t87 at hcj ⊢
    generalize st.2 = t85 at h ⊢
    have h := h
    generalize (st_ad st (.inr (.inr (3, cd_3)))) = t88 at h hw
    refine lv_dup X.1 X.2.1 dd_xP_init_108 (rf_cat _) ?_
    refine lv_iload_n X.1 X.2.1 dd_xP_init_109 rfl (lv_at hl.1 2 rfl) ?_
    refine lv_iconst (v := (1 : Int32)) X.1 X.2.1 dd_xP_init_110 (by decide) ?_
    refine lv_iadd X.1 X.2.1 dd_xP_init_111 ?_
    refine lv_iload_n X.1 X.2.1 dd_xP_init_112 rfl (lv_at hl.1 2 rfl) ?_
    refine lv_iload_n X.1 X.2.1 dd_xP_init_113 rfl (lv_at hl.1 2 rfl) ?_
    obtain ⟨t89, t90, t91, t92, t93, t94, ht89, h, ei, ej⟩ := st_b_some h
    refine rr_callI (n := 3) (b := t85) (As := [(.int (p3 + (1 : Int32))), (.int p3), (.int p3)]) (rest := [(va_rf (some t85))]) X hw (kn_ok D ac a0 gl) hKs (kc_xO_init l D ac a0 gl (some t85) (p3 + (1 : Int32)) p3 p3 _ _ _ _ _ ht89) tb_good tw_86 tw_85 tw_87 tw_88 rfl (by decide +kernel) rfl (show 2 + 1 ≤ _ ∧ 8 + (4 + 11) + 34 ≤ _ from ⟨Nat.le_of_ble_eq_true rfl, Nat.le_of_ble_eq_true rfl⟩) (show t86 + t91 ≤ iT ∧ t87 + t92 ≤ jT from ⟨ar_1 hci ei, ar_1 hcj ej⟩) hl.1.1 (by simp [rf_cat, ic_cat]) rfl dd_xP_init_114 (sk := [(va_rf (some t85))]) rfl (fun H locs hw => ?_)
    have hci : t86 + t91 + t93 = iT := ar_2 hci ei
    have hcj : t87 + t92 + t94 = jT := ar_2 hcj ej
    clear ei ej
    generalize t86 + t91 = t95 at hci ⊢
    generalize t87 + t92 = t96 at hcj ⊢
    refine rr_ast (lv' := [(4, (va_rf (some t85))), (0, (va_rf p0)), (2, (.int p2)), (3, (.int p3))]) X dd_xP_init_117 hl (by decide) rfl (fun ls hl => ?_)
    refine rr_aldn X dd_xP_init_119 rfl (lv_at hl.1 1 rfl) ?_
    obtain ⟨t97, ht97, h⟩ := st_g_some h
    refine rr_getq X hw ff_0_2 ht97 tw_64 (Or.inl rfl) dd_xP_init_120 ?_
    refine lv_iload_n X.1 X.2.1 dd_xP_init_123 rfl (lv_at hl.1 3 rfl) ?_
    refine lv_iconst (v := (1 : Int32)) X.1 X.2.1 dd_xP_init_124 (by decide) ?_
    refine lv_iadd X.1 X.2.1 dd_xP_init_125 ?_
    refine rr_ald X dd_xP_init_126 (lv_at hl.1 0 rfl) ?_
    obtain ⟨t98, hp128, h⟩ := st_w_some h
    refine rr_aast X hw (ta_6 hKs) hp128 dd_xP_init_128 (fun H locs hw => ?_)
    refine rr_aldn X dd_xP_init_129 rfl (lv_at hl.1 1 rfl) ?_
    obtain ⟨t99, ht99, h⟩ := st_g_some h
    refine rr_getq X hw ff_0_0 ht99 tw_66 (Or.inl rfl) dd_xP_init_130 ?_
    refine lv_iload_n X.1 X.2.1 dd_xP_init_133 rfl (lv_at hl.1 3 rfl) ?_
    obtain ⟨t113, t114, h, ei, ej⟩ := st_n_some h
    refine rr_new (fs := cd_5) X hw cf_5 cb_5 tw_52 tw_84 tw_80 (show t95 + 1 ≤ iT ∧ t96 + 5 ≤ jT from ⟨ar_1 hci ei, ar_1 hcj ej⟩) dd_xP_init_134 (fun H hw => ?_)
    have hci : t95 + 1 + t113 = iT := ar_2 hci ei
    have hcj : t96 + 5 + t114 = jT := ar_2 hcj ej
    clear ei ej
    generalize t95 + 1 = t101 at hci ⊢
    generalize t96 + 5 = t102 at hcj ⊢
    generalize t98.2 = t100 at h ⊢
    have h := h
    generalize (st_ad t98 (.inr (.inr (5, cd_5)))) = t103 at h hw
    refine lv_dup X.1 X.2.1 dd_xP_init_137 (rf_cat _) ?_
    refine rr_ald X dd_xP_init_138 (lv_at hl.1 0 rfl) ?_
    refine lv_iload_n X.1 X.2.1 dd_xP_init_140 rfl (lv_at hl.1 2 rfl) ?_
    obtain ⟨t104, t105, t106, t107, t108, t109, ht104, h, ei, ej⟩ := st_b_some h
    refine rr_callI (n := 2) (b := t100) (As := [(va_rf (some t85)), (.int p2)]) (rest := [(va_rf (some t100)), (.int p3), (va_rf t99)]) X hw (kn_ok D ac a0 gl) hKs (kc_xV_init l D ac a0 gl (some t100) (some t85) p2 _ _ _ _ _ ht104) tb_good tw_81 tw_80 tw_82 tw_83 rfl (by decide +kernel) rfl (show 5 + 1 ≤ _ ∧ 8 + (4 + 11) + 92 ≤ _ from ⟨Nat.le_of_ble_eq_true rfl, Nat.le_of_ble_eq_true rfl⟩) (show t101 + t106 ≤ iT ∧ t102 + t107 ≤ jT from ⟨ar_1 hci ei, ar_1 hcj ej⟩) hl.1.1 (by simp [rf_cat, ic_cat]) rfl dd_xP_init_141 (sk := [(va_rf (some t100)), (.int p3), (va_rf t99)]) rfl (fun H locs hw => ?_)
    have hci : t101 + t106 + t108 = iT := ar_2 hci ei
    have hcj : t102 + t107 + t109 = jT := ar_2 hcj ej
    clear ei ej
    generalize t101 + t106 = t110 at hci ⊢
    generalize t102 + t107 = t111 at hcj ⊢
    obtain ⟨t112, hp144, h⟩ := st_w_some h
    refine rr_aast X hw (ta_4 hKs) hp144 dd_xP_init_144 (fun H locs hw => ?_)
    refine rr_iinc (k := 3) (v := (p3 + (1 : Int32))) (lv' := [(3, (.int (p3 + (1 : Int32)))), (4, (va_rf (some t85))), (0, (va_rf p0)), (2, (.int p2))]) X dd_xP_init_145 hl rfl (by rw [show Int32.ofInt (1) = (1 : Int32) from by decide]) (by decide) rfl (fun ls hl => ?_)
    refine lv_goto (tgt := 100) X.1 X.2.1 dd_xP_init_148 (by decide) ?_
    exact hr100 (p0, p2, (p3 + (1 : Int32))) _ _ _ _ _ _ _ _ hw (lh_pk hl [2, 3, 0] rfl) h hci hcj
set_option maxHeartbeats 4000000 in
set_option maxRecDepth 100000 in
theorem kb_xP_init_b73 {p : Program} {l : Launch} {e : Env} {s : State} {m : MethodId} {args : Array Value} {below : List Frame} {meth : Method} {c : Code} {D : va_G} {ac : Nat → ClassId} {a0 : Nat} {gl : gl_T} {rF : Unit} {stF : st_S} {iT jT : Nat}
    (X : cx_ p s m args c prog_1_method_1_code 5 "PromiseVats" tb_ D cl_ (ty_ ac)) (hKs : kn_ D ac a0 gl s) (hlk : meth.locks = false) (hret : meth.sig.returnType = (Option.none : Option FieldType)) (hnm : meth.name = "<init>") : wk_ p l e 6 115 s m args below meth c D cl_ ac a0 5 vb_u rF stF iT jT 73 (fun x : Option Nat × Int32 × Int32 => [(0, (va_rf x.1)), (2, (.int x.2.1)), (3, (.int x.2.2))]) (fun x : Option Nat × Int32 × Int32 => []) (st_it (fun rec73 => (fun x : Option Nat × Int32 × Int32 => xP_init_b73 gl rec73 x.1 x.2.1 x.2.2)) fu_) := by
  refine wk_it ?_ _
  intro rec73 hr73 x st H locs cells slots i j ls hw hl h hci hcj
  obtain ⟨p0, p2, p3⟩ := x
  have h : xP_init_b73 gl rec73 p0 p2 p3 st = some (rF, stF, i, j) := h
  unfold xP_init_b73 at h
  have hl : lh_ ls 5 [(0, (va_rf p0)), (2, (.int p2)), (3, (.int p3))] := hl
  refine W.eq (g2 := F0 m 73 ls []) rfl ?_
  refine lv_iload_n X.1 X.2.1 dd_xP_init_73 rfl (lv_at hl.1 2 rfl) ?_
  refine lv_bipush (v := (8 : Int32)) X.1 X.2.1 dd_xP_init_74 (by decide) ?_
  by_cases hc76 : (8 : Int32) ≤ p3
  · rw [if_pos hc76] at h
    refine lv_icmp_ge (tgt := 98) X.1 X.2.1 dd_xP_init_76 (by decide) (fun _ => ?_) (fun z => absurd hc76 z)
    refine lv_iconst (v := (0 : Int32)) X.1 X.2.1 dd_xP_init_98 (by decide) ?_
    refine rr_istn (lv' := [(3, (.int (0 : Int32))), (0, (va_rf p0)), (2, (.int p2))]) X dd_xP_init_99 rfl hl (by decide) rfl (fun ls hl => ?_)
    exact (kb_xP_init_b100 X hKs hlk hret hnm) (p0, p2, (0 : Int32)) _ _ _ _ _ _ _ _ hw (lh_pk hl [1, 2, 0] rfl) h hci hcj
  · rw [if_neg hc76] at h
    refine lv_icmp_ge (tgt := 98) X.1 X.2.1 dd_xP_init_76 (by decide) (fun z => absurd z hc76) (fun _ => ?_)
    refine rr_aldn X dd_xP_init_79 rfl (lv_at hl.1 0 rfl) ?_
    obtain ⟨t68, ht68, h⟩ := st_g_some h
    refine rr_getq X hw ff_0_1 ht68 tw_65 (Or.inl rfl) dd_xP_init_80 ?_
    refine lv_iload_n X.1 X.2.1 dd_xP_init_83 rfl (lv_at hl.1 2 rfl) ?_
    obtain ⟨t82, t83, h, ei, ej⟩ := st_n_some h
    refine rr_new (fs := cd_2) X hw cf_2 cb_2 tw_53 tw_78 tw_75 (show cells + 1 ≤ iT ∧ slots + 3 ≤ jT from ⟨ar_1 hci ei, ar_1 hcj ej⟩) dd_xP_init_84 (fun H hw => ?_)
    have hci : cells + 1 + t82 = iT := ar_2 hci ei
    have hcj : slots + 3 + t83 = jT := ar_2 hcj ej
    clear ei ej
    generalize cells + 1 = t70 at hci ⊢
    generalize slots + 3 = t71 at hcj ⊢
    generalize st.2 = t69 at h ⊢
    have h := h
    generalize (st_ad st (.inr (.inr (2, cd_2)))) = t72 at h hw
    refine lv_dup X.1 X.2.1 dd_xP_init_87 (rf_cat _) ?_
    obtain ⟨t73, t74, t75, t76, t77, t78, ht73, h, ei, ej⟩ := st_b_some h
    refine rr_callN (n := 0) (b := t69) (host := "PromiseVats") (As := []) (rest := [(va_rf (some t69)), (.int p3), (va_rf t68)]) X hw (kn_ok D ac a0 gl) hKs (kc_xG_init l D ac a0 gl (some t69) _ _ _ _ _ ht73) tb_good tw_76 tw_75 (hKs.2.2.2.2.1 ("PromiseVats", 52, ⟨"PromiseVats$Program", "<init>", "()V"⟩, "PromiseVats") (by decide +kernel)) tw_77 rfl (by decide +kernel) rfl (show 1 + 1 ≤ _ ∧ 8 + (1 + 11) + 12 ≤ _ from ⟨Nat.le_of_ble_eq_true rfl, Nat.le_of_ble_eq_true rfl⟩) (show t70 + t75 ≤ iT ∧ t71 + t76 ≤ jT from ⟨ar_1 hci ei, ar_1 hcj ej⟩) hl.1.1 (by simp [rf_cat, ic_cat]) rfl dd_xP_init_88 (sk := [(va_rf (some t69)), (.int p3), (va_rf t68)]) rfl (fun H locs hw => ?_)
    have hci : t70 + t75 + t77 = iT := ar_2 hci ei
    have hcj : t71 + t76 + t78 = jT := ar_2 hcj ej
    clear ei ej
    generalize t70 + t75 = t79 at hci ⊢
    generalize t71 + t76 = t80 at hcj ⊢
    obtain ⟨t81, hp91, h⟩ := st_w_some h
    refine rr_aast X hw (ta_5 hKs) hp91 dd_xP_init_91 (fun H locs hw => ?_)
    refine rr_iinc (k := 2) (v := (p3 + (1 : Int32))) (lv' := [(3, (.int (p3 + (1 : Int32)))), (0, (va_rf p0)), (2, (.int p2))]) X dd_xP_init_92 hl rfl (by rw [show Int32.ofInt (1) = (1 : Int32) from by decide]) (by decide) rfl (fun ls hl => ?_)
    refine lv_goto (tgt := 73) X.1 X.2.1 dd_xP_init_95 (by decide) ?_
    exact hr73 (p0, p2, (p3 + (1 : Int32))) _ _ _ _ _ _ _ _ hw (lh_pk hl [1, 2, 0] rfl) h hci hcj
set_option maxHeartbeats 4000000 in
set_option maxRecDepth 100000 in
theorem kc_xP_init (l : Launch) (D : va_G) (ac : Nat → ClassId) (a0 : Nat) (gl : gl_T) (v0 : Option Nat) (v1 : Int32) (st : st_S) (rF : Unit) (stF : st_S) (iT jT : Nat) (h : xP_init gl v0 v1 st = some (rF, stF, iT, jT)) :
    ct_ l ⟨"PromiseVats", "<init>", "(I)V"⟩ (Cond.code ⟨"PromiseVats", "<init>", "(I)V"⟩ prog_1_method_1_code 5 (Option.none : Option FieldType) :: tb_) 6 115 D cl_ ac a0 (kn_ D ac a0 gl) [(va_rf v0), (.int v1)] st (vb_u rF) stF iT jT := by
  refine ct_of (kn_ok D ac a0 gl) (plainFor_of_name (by decide +kernel)) (by simp [rf_cat, ic_cat]) (by simp) ?_
  intro p e s m args below meth c ls X hw hKs hlk hret hnm hl
  unfold xP_init at h
  have hl : lh_ ls 5 [(0, (va_rf v0)), (1, (.int v1))] := hl
  obtain ⟨z0, hz0⟩ : ∃ z : Nat, 0 = z := ⟨0, rfl⟩
  obtain ⟨z1, hz1⟩ : ∃ z : Nat, 0 = z := ⟨0, rfl⟩
  refine W.cs hz0 hz1 ?_
  have hci : z0 + iT = iT := by omega
  have hcj : z1 + jT = jT := by omega
  refine rr_aldn X dd_xP_init_0 rfl (lv_at hl.1 0 rfl) ?_
  obtain ⟨t1, ht1, h⟩ := st_g_some h
  refine rr_objI X ht1 tw_74 tw_1 tw_2 hl.1.1 (Nat.le_of_ble_eq_true rfl) (by simp [rf_cat, ic_cat]) dd_xP_init_1 ?_
  refine lv_iconst (v := (2 : Int32)) X.1 X.2.1 dd_xP_init_4 (by decide) ?_
  refine lv_iconst (v := (4 : Int32)) X.1 X.2.1 dd_xP_init_5 (by decide) ?_
  refine lv_iload_n X.1 X.2.1 dd_xP_init_6 rfl (lv_at hl.1 1 rfl) ?_
  obtain ⟨t2, t3, t4, t5, t6, t7, ht2, h, ei, ej⟩ := st_b_some h
  refine rr_callS (n := 2) (As := [(.int (4 : Int32)), (.int v1)]) (rest := [(.int (2 : Int32))]) X hw (kn_ok D ac a0 gl) hKs (kc_ma_min l D ac a0 gl (4 : Int32) v1 _ _ _ _ _ ht2) tb_good tw_71 tw_67 tw_72 tw_73 (by decide +kernel) rfl (show 0 + 1 ≤ _ ∧ 8 + (2 + 11) + 0 ≤ _ from ⟨Nat.le_of_ble_eq_true rfl, Nat.le_of_ble_eq_true rfl⟩) (show z0 + t4 ≤ iT ∧ z1 + t5 ≤ jT from ⟨ar_1 hci ei, ar_1 hcj ej⟩) hl.1.1 (by simp [rf_cat, ic_cat]) rfl dd_xP_init_7 (sk := [(.int t2), (.int (2 : Int32))]) rfl (fun H locs hw => ?_)
  have hci : z0 + t4 + t6 = iT := ar_2 hci ei
  have hcj : z1 + t5 + t7 = jT := ar_2 hcj ej
  clear ei ej
  generalize z0 + t4 = t8 at hci ⊢
  generalize z1 + t5 = t9 at hcj ⊢
  obtain ⟨t10, t11, t12, t13, t14, t15, ht10, h, ei, ej⟩ := st_b_some h
  refine rr_callS (n := 2) (As := [(.int (2 : Int32)), (.int t2)]) (rest := []) X hw (kn_ok D ac a0 gl) hKs (kc_ma_max l D ac a0 gl (2 : Int32) t2 _ _ _ _ _ ht10) tb_good tw_68 tw_67 tw_69 tw_70 (by decide +kernel) rfl (show 0 + 1 ≤ _ ∧ 8 + (2 + 11) + 0 ≤ _ from ⟨Nat.le_of_ble_eq_true rfl, Nat.le_of_ble_eq_true rfl⟩) (show t8 + t12 ≤ iT ∧ t9 + t13 ≤ jT from ⟨ar_1 hci ei, ar_1 hcj ej⟩) hl.1.1 (by simp [rf_cat, ic_cat]) rfl dd_xP_init_10 (sk := [(.int t10)]) rfl (fun H locs hw => ?_)
  have hci : t8 + t12 + t14 = iT := ar_2 hci ei
  have hcj : t9 + t13 + t15 = jT := ar_2 hcj ej
  clear ei ej
  generalize t8 + t12 = t16 at hci ⊢
  generalize t9 + t13 = t17 at hcj ⊢
  refine rr_istn (lv' := [(2, (.int t10)), (0, (va_rf v0)), (1, (.int v1))]) X dd_xP_init_13 rfl hl (by decide) rfl (fun ls hl => ?_)
  refine rr_aldn X dd_xP_init_14 rfl (lv_at hl.1 1 rfl) ?_
  refine lv_iload_n X.1 X.2.1 dd_xP_init_15 rfl (lv_at hl.1 0 rfl) ?_
  obtain ⟨_, hz16, h⟩ := st_g_some h
  have hn16 := so_l_s hz16
  obtain ⟨t19, t20, h, ei, ej⟩ := st_n_some h
  refine rr_newq (t := 4) X hw rfl hn16.1 rfl hn16.2 tw_52 (to_4 hKs) (show t16 + 1 ≤ iT ∧ t17 + t10.toNatClampNeg ≤ jT from ⟨ar_1 hci ei, ar_1 hcj ej⟩) dd_xP_init_16 (fun H hw => ?_)
  have hci : t16 + 1 + t19 = iT := ar_2 hci ei
  have hcj : t17 + t10.toNatClampNeg + t20 = jT := ar_2 hcj ej
  clear ei ej
  generalize t16 + 1 = t21 at hci ⊢
  generalize t17 + t10.toNatClampNeg = t22 at hcj ⊢
  generalize t11.2 = t18 at h ⊢
  have h := h
  generalize (st_ad t11 (.inr (.inl (4, t10.toNatClampNeg, fun _ => none)))) = t23 at h hw
  obtain ⟨t24, hp19, h⟩ := st_w_some h
  refine rr_putF (ty := .array (.object "PromiseVats$Vat")) X hw ff_0_0 hp19 tw_66 hnm (by decide +kernel) (rf_narA _ _) (rf_fitA _ _) dd_xP_init_19 (fun H locs hw => ?_)
  refine rr_aldn X dd_xP_init_22 rfl (lv_at hl.1 1 rfl) ?_
  refine lv_bipush (v := (8 : Int32)) X.1 X.2.1 dd_xP_init_23 (by decide) ?_
  obtain ⟨_, hz25, h⟩ := st_g_some h
  have hn25 := so_l_s hz25
  obtain ⟨t26, t27, h, ei, ej⟩ := st_n_some h
  refine rr_newq (t := 5) X hw rfl hn25.1 rfl hn25.2 tw_53 (to_5 hKs) (show t21 + 1 ≤ iT ∧ t22 + (8 : Int32).toNatClampNeg ≤ jT from ⟨ar_1 hci ei, ar_1 hcj ej⟩) dd_xP_init_25 (fun H hw => ?_)
  have hci : t21 + 1 + t26 = iT := ar_2 hci ei
  have hcj : t22 + (8 : Int32).toNatClampNeg + t27 = jT := ar_2 hcj ej
  clear ei ej
  generalize t21 + 1 = t28 at hci ⊢
  generalize t22 + (8 : Int32).toNatClampNeg = t29 at hcj ⊢
  generalize t24.2 = t25 at h ⊢
  have h := h
  generalize (st_ad t24 (.inr (.inl (5, (8 : Int32).toNatClampNeg, fun _ => none)))) = t30 at h hw
  obtain ⟨t31, hp28, h⟩ := st_w_some h
  refine rr_putF (ty := .array (.object "PromiseVats$Program")) X hw ff_0_1 hp28 tw_65 hnm (by decide +kernel) (rf_narA _ _) (rf_fitA _ _) dd_xP_init_28 (fun H locs hw => ?_)
  refine rr_aldn X dd_xP_init_31 rfl (lv_at hl.1 1 rfl) ?_
  refine lv_sipush (v := (201 : Int32)) X.1 X.2.1 dd_xP_init_32 (by decide) ?_
  obtain ⟨_, hz35, h⟩ := st_g_some h
  have hn35 := so_l_s hz35
  obtain ⟨t33, t34, h, ei, ej⟩ := st_n_some h
  refine rr_newq (t := 6) X hw rfl hn35.1 rfl hn35.2 tw_54 (to_6 hKs) (show t28 + 1 ≤ iT ∧ t29 + (201 : Int32).toNatClampNeg ≤ jT from ⟨ar_1 hci ei, ar_1 hcj ej⟩) dd_xP_init_35 (fun H hw => ?_)
  have hci : t28 + 1 + t33 = iT := ar_2 hci ei
  have hcj : t29 + (201 : Int32).toNatClampNeg + t34 = jT := ar_2 hcj ej
  clear ei ej
  generalize t28 + 1 = t35 at hci ⊢
  generalize t29 + (201 : Int32).toNatClampNeg = t36 at hcj ⊢
  generalize t31.2 = t32 at h ⊢
  have h := h
  generalize (st_ad t31 (.inr (.inl (6, (201 : Int32).toNatClampNeg, fun _ => none)))) = t37 at h hw
  obtain ⟨t38, hp38, h⟩ := st_w_some h
  refine rr_putF (ty := .array (.object "PromiseVats$Entity")) X hw ff_0_2 hp38 tw_64 hnm (by decide +kernel) (rf_narA _ _) (rf_fitA _ _) dd_xP_init_38 (fun H locs hw => ?_)
  refine rr_aldn X dd_xP_init_41 rfl (lv_at hl.1 1 rfl) ?_
  obtain ⟨t66, t67, h, ei, ej⟩ := st_n_some h
  refine rr_new (fs := cd_1) X hw cf_1 cb_1 tw_62 tw_63 tw_59 (show t35 + 1 ≤ iT ∧ t36 + 4 ≤ jT from ⟨ar_1 hci ei, ar_1 hcj ej⟩) dd_xP_init_42 (fun H hw => ?_)
  have hci : t35 + 1 + t66 = iT := ar_2 hci ei
  have hcj : t36 + 4 + t67 = jT := ar_2 hcj ej
  clear ei ej
  generalize t35 + 1 = t40 at hci ⊢
  generalize t36 + 4 = t41 at hcj ⊢
  generalize t38.2 = t39 at h ⊢
  have h := h
  generalize (st_ad t38 (.inr (.inr (1, cd_1)))) = t42 at h hw
  refine lv_dup X.1 X.2.1 dd_xP_init_45 (rf_cat _) ?_
  obtain ⟨t43, t44, t45, t46, t47, t48, ht43, h, ei, ej⟩ := st_b_some h
  refine rr_callN (n := 0) (b := t39) (host := "PromiseVats") (As := []) (rest := [(va_rf (some t39)), (va_rf v0)]) X hw (kn_ok D ac a0 gl) hKs (kc_xT_init l D ac a0 gl (some t39) _ _ _ _ _ ht43) tb_good tw_60 tw_59 (hKs.2.2.2.2.1 ("PromiseVats", 38, ⟨"PromiseVats$Turn", "<init>", "()V"⟩, "PromiseVats") (by decide +kernel)) tw_61 rfl (by decide +kernel) rfl (show 1 + 1 ≤ _ ∧ 8 + (1 + 11) + 12 ≤ _ from ⟨Nat.le_of_ble_eq_true rfl, Nat.le_of_ble_eq_true rfl⟩) (show t40 + t45 ≤ iT ∧ t41 + t46 ≤ jT from ⟨ar_1 hci ei, ar_1 hcj ej⟩) hl.1.1 (by simp [rf_cat, ic_cat]) rfl dd_xP_init_46 (sk := [(va_rf (some t39)), (va_rf v0)]) rfl (fun H locs hw => ?_)
  have hci : t40 + t45 + t47 = iT := ar_2 hci ei
  have hcj : t41 + t46 + t48 = jT := ar_2 hcj ej
  clear ei ej
  generalize t40 + t45 = t49 at hci ⊢
  generalize t41 + t46 = t50 at hcj ⊢
  obtain ⟨t51, hp49, h⟩ := st_w_some h
  refine rr_putF (ty := .object "PromiseVats$Turn") X hw ff_0_5 hp49 tw_58 hnm (by decide +kernel) (rf_nar _ _) (rf_fit _ _) dd_xP_init_49 (fun H locs hw => ?_)
  refine rr_aldn X dd_xP_init_52 rfl (lv_at hl.1 1 rfl) ?_
  refine lv_bipush (v := (100 : Int32)) X.1 X.2.1 dd_xP_init_53 (by decide) ?_
  obtain ⟨_, hz55, h⟩ := st_g_some h
  have hn55 := so_l_s hz55
  obtain ⟨t53, t54, h, ei, ej⟩ := st_n_some h
  refine rr_newq (t := 7) X hw rfl hn55.1 rfl hn55.2 tw_55 (to_7 hKs) (show t49 + 1 ≤ iT ∧ t50 + (100 : Int32).toNatClampNeg ≤ jT from ⟨ar_1 hci ei, ar_1 hcj ej⟩) dd_xP_init_55 (fun H hw => ?_)
  have hci : t49 + 1 + t53 = iT := ar_2 hci ei
  have hcj : t50 + (100 : Int32).toNatClampNeg + t54 = jT := ar_2 hcj ej
  clear ei ej
  generalize t49 + 1 = t55 at hci ⊢
  generalize t50 + (100 : Int32).toNatClampNeg = t56 at hcj ⊢
  generalize t51.2 = t52 at h ⊢
  have h := h
  generalize (st_ad t51 (.inr (.inl (7, (100 : Int32).toNatClampNeg, fun _ => none)))) = t57 at h hw
  obtain ⟨t58, hp58, h⟩ := st_w_some h
  refine rr_putF (ty := .array (.object "PromiseVats$Promise")) X hw ff_0_6 hp58 tw_57 hnm (by decide +kernel) (rf_narA _ _) (rf_fitA _ _) dd_xP_init_58 (fun H locs hw => ?_)
  refine rr_aldn X dd_xP_init_61 rfl (lv_at hl.1 1 rfl) ?_
  refine lv_sipush (v := (160 : Int32)) X.1 X.2.1 dd_xP_init_62 (by decide) ?_
  obtain ⟨_, hz65, h⟩ := st_g_some h
  have hn65 := so_l_s hz65
  obtain ⟨t60, t61, h, ei, ej⟩ := st_n_some h
  refine rr_newq (t := 6) X hw rfl hn65.1 rfl hn65.2 tw_54 (to_6 hKs) (show t55 + 1 ≤ iT ∧ t56 + (160 : Int32).toNatClampNeg ≤ jT from ⟨ar_1 hci ei, ar_1 hcj ej⟩) dd_xP_init_65 (fun H hw => ?_)
  have hci : t55 + 1 + t60 = iT := ar_2 hci ei
  have hcj : t56 + (160 : Int32).toNatClampNeg + t61 = jT := ar_2 hcj ej
  clear ei ej
  generalize t55 + 1 = t62 at hci ⊢
  generalize t56 + (160 : Int32).toNatClampNeg = t63 at hcj ⊢
  generalize t58.2 = t59 at h ⊢
  have h := h
  generalize (st_ad t58 (.inr (.inl (6, (160 : Int32).toNatClampNeg, fun _ => none)))) = t64 at h hw
  obtain ⟨t65, hp68, h⟩ := st_w_some h
  refine rr_putF (ty := .array (.object "PromiseVats$Entity")) X hw ff_0_8 hp68 tw_56 hnm (by decide +kernel) (rf_narA _ _) (rf_fitA _ _) dd_xP_init_68 (fun H locs hw => ?_)
  refine lv_iconst (v := (0 : Int32)) X.1 X.2.1 dd_xP_init_71 (by decide) ?_
  refine rr_istn (lv' := [(3, (.int (0 : Int32))), (2, (.int t10)), (0, (va_rf v0)), (1, (.int v1))]) X dd_xP_init_72 rfl hl (by decide) rfl (fun ls hl => ?_)
  exact (kb_xP_init_b73 X hKs hlk hret hnm) (v0, t10, (0 : Int32)) _ _ _ _ _ _ _ _ hw (lh_pk hl [2, 1, 0] rfl) h hci hcj
