/-! PromiseVats.arrive(LPromiseVats$Call;I)V -/
theorem dd_xP_arrive_0 : decode prog_1_method_29_code 0 = .ok (.iconst 0, 1) := by decide +kernel
theorem dd_xP_arrive_1 : decode prog_1_method_29_code 1 = .ok (.istore_n 3, 1) := by decide +kernel
theorem dd_xP_arrive_2 : decode prog_1_method_29_code 2 = .ok (.iload_n 3, 1) := by decide +kernel
theorem dd_xP_arrive_3 : decode prog_1_method_29_code 3 = .ok (.bipush 100, 2) := by decide +kernel
theorem dd_xP_arrive_5 : decode prog_1_method_29_code 5 = .ok (.if_icmp .gt 102, 3) := by decide +kernel
theorem dd_xP_arrive_8 : decode prog_1_method_29_code 8 = .ok (.aload_n 1, 1) := by decide +kernel
theorem dd_xP_arrive_9 : decode prog_1_method_29_code 9 = .ok (.getfield 129, 3) := by decide +kernel
theorem dd_xP_arrive_12 : decode prog_1_method_29_code 12 = .ok (.astore 5, 2) := by decide +kernel
theorem dd_xP_arrive_14 : decode prog_1_method_29_code 14 = .ok (.aload 5, 2) := by decide +kernel
theorem dd_xP_arrive_16 : decode prog_1_method_29_code 16 = .ok (.instanceof 43, 3) := by decide +kernel
theorem dd_xP_arrive_19 : decode prog_1_method_29_code 19 = .ok (.ifCond .eq 67, 3) := by decide +kernel
theorem dd_xP_arrive_22 : decode prog_1_method_29_code 22 = .ok (.aload 5, 2) := by decide +kernel
theorem dd_xP_arrive_24 : decode prog_1_method_29_code 24 = .ok (.checkcast 43, 3) := by decide +kernel
theorem dd_xP_arrive_27 : decode prog_1_method_29_code 27 = .ok (.astore 4, 2) := by decide +kernel
theorem dd_xP_arrive_29 : decode prog_1_method_29_code 29 = .ok (.aload 4, 2) := by decide +kernel
theorem dd_xP_arrive_31 : decode prog_1_method_29_code 31 = .ok (.getfield 229, 3) := by decide +kernel
theorem dd_xP_arrive_34 : decode prog_1_method_29_code 34 = .ok (.ifCond .eq 11, 3) := by decide +kernel
theorem dd_xP_arrive_37 : decode prog_1_method_29_code 37 = .ok (.aload_n 0, 1) := by decide +kernel
theorem dd_xP_arrive_38 : decode prog_1_method_29_code 38 = .ok (.aload 4, 2) := by decide +kernel
theorem dd_xP_arrive_40 : decode prog_1_method_29_code 40 = .ok (.aload_n 1, 1) := by decide +kernel
theorem dd_xP_arrive_41 : decode prog_1_method_29_code 41 = .ok (.invokevirtual 273, 3) := by decide +kernel
theorem dd_xP_arrive_44 : decode prog_1_method_29_code 44 = .ok (.return_, 1) := by decide +kernel
theorem dd_xP_arrive_45 : decode prog_1_method_29_code 45 = .ok (.aload 4, 2) := by decide +kernel
theorem dd_xP_arrive_47 : decode prog_1_method_29_code 47 = .ok (.getfield 233, 3) := by decide +kernel
theorem dd_xP_arrive_50 : decode prog_1_method_29_code 50 = .ok (.ifnonnull 9, 3) := by decide +kernel
theorem dd_xP_arrive_53 : decode prog_1_method_29_code 53 = .ok (.aload_n 0, 1) := by decide +kernel
theorem dd_xP_arrive_54 : decode prog_1_method_29_code 54 = .ok (.aload_n 1, 1) := by decide +kernel
theorem dd_xP_arrive_55 : decode prog_1_method_29_code 55 = .ok (.invokevirtual 277, 3) := by decide +kernel
theorem dd_xP_arrive_58 : decode prog_1_method_29_code 58 = .ok (.return_, 1) := by decide +kernel
theorem dd_xP_arrive_59 : decode prog_1_method_29_code 59 = .ok (.aload_n 1, 1) := by decide +kernel
theorem dd_xP_arrive_60 : decode prog_1_method_29_code 60 = .ok (.aload 4, 2) := by decide +kernel
theorem dd_xP_arrive_62 : decode prog_1_method_29_code 62 = .ok (.getfield 233, 3) := by decide +kernel
theorem dd_xP_arrive_65 : decode prog_1_method_29_code 65 = .ok (.putfield 129, 3) := by decide +kernel
theorem dd_xP_arrive_68 : decode prog_1_method_29_code 68 = .ok (.aload_n 1, 1) := by decide +kernel
theorem dd_xP_arrive_69 : decode prog_1_method_29_code 69 = .ok (.getfield 129, 3) := by decide +kernel
theorem dd_xP_arrive_72 : decode prog_1_method_29_code 72 = .ok (.getfield 219, 3) := by decide +kernel
theorem dd_xP_arrive_75 : decode prog_1_method_29_code 75 = .ok (.iload_n 2, 1) := by decide +kernel
theorem dd_xP_arrive_76 : decode prog_1_method_29_code 76 = .ok (.if_icmp .eq 25, 3) := by decide +kernel
theorem dd_xP_arrive_79 : decode prog_1_method_29_code 79 = .ok (.aload_n 0, 1) := by decide +kernel
theorem dd_xP_arrive_80 : decode prog_1_method_29_code 80 = .ok (.aload_n 1, 1) := by decide +kernel
theorem dd_xP_arrive_81 : decode prog_1_method_29_code 81 = .ok (.iload_n 2, 1) := by decide +kernel
theorem dd_xP_arrive_82 : decode prog_1_method_29_code 82 = .ok (.invokevirtual 268, 3) := by decide +kernel
theorem dd_xP_arrive_85 : decode prog_1_method_29_code 85 = .ok (.return_, 1) := by decide +kernel
theorem dd_xP_arrive_86 : decode prog_1_method_29_code 86 = .ok (.aload_n 0, 1) := by decide +kernel
theorem dd_xP_arrive_87 : decode prog_1_method_29_code 87 = .ok (.getfield 20, 3) := by decide +kernel
theorem dd_xP_arrive_90 : decode prog_1_method_29_code 90 = .ok (.iload_n 2, 1) := by decide +kernel
theorem dd_xP_arrive_91 : decode prog_1_method_29_code 91 = .ok (.aaload, 1) := by decide +kernel
theorem dd_xP_arrive_92 : decode prog_1_method_29_code 92 = .ok (.getfield 102, 3) := by decide +kernel
theorem dd_xP_arrive_95 : decode prog_1_method_29_code 95 = .ok (.aload_n 1, 1) := by decide +kernel
theorem dd_xP_arrive_96 : decode prog_1_method_29_code 96 = .ok (.invokevirtual 281, 3) := by decide +kernel
theorem dd_xP_arrive_99 : decode prog_1_method_29_code 99 = .ok (.pop, 1) := by decide +kernel
theorem dd_xP_arrive_100 : decode prog_1_method_29_code 100 = .ok (.return_, 1) := by decide +kernel
theorem dd_xP_arrive_101 : decode prog_1_method_29_code 101 = .ok (.iinc 3 1, 3) := by decide +kernel
theorem dd_xP_arrive_104 : decode prog_1_method_29_code 104 = .ok (.goto (-102), 3) := by decide +kernel
theorem dd_xP_arrive_107 : decode prog_1_method_29_code 107 = .ok (.return_, 1) := by decide +kernel
set_option maxHeartbeats 4000000 in
set_option maxRecDepth 100000 in
theorem kb_xP_arrive_b2 {p : Program} {l : Launch} {e : Env} {s : State} {m : MethodId} {args : Array Value} {below : List Frame} {meth : Method} {c : Code} {D : va_G} {ac : Nat → ClassId} {a0 : Nat} {gl : gl_T} {rF : Unit} {stF : st_S} {iT jT : Nat}
    (X : cx_ p s m args c prog_1_method_29_code 6 "PromiseVats" tb_ D cl_ (ty_ ac)) (hKs : kn_ D ac a0 gl s) (hlk : meth.locks = false) (hret : meth.sig.returnType = (Option.none : Option FieldType)) (hnm : meth.name = "arrive") : wk_ p l e 10 261 s m args below meth c D cl_ ac a0 6 vb_u rF stF iT jT 2 (fun x : Option Nat × Option Nat × Int32 × Int32 => [(0, (va_rf x.1)), (1, (va_rf x.2.1)), (2, (.int x.2.2.1)), (3, (.int x.2.2.2))]) (fun x : Option Nat × Option Nat × Int32 × Int32 => []) (st_it (fun rec2 => (fun x : Option Nat × Option Nat × Int32 × Int32 => xP_arrive_b2 gl rec2 x.1 x.2.1 x.2.2.1 x.2.2.2)) fu_) := by
  refine wk_it ?_ _
  intro rec2 hr2 x st H locs cells slots i j ls hw hl h hci hcj
  obtain ⟨p0, p1, p2, p3⟩ := x
  have h : xP_arrive_b2 gl rec2 p0 p1 p2 p3 st = some (rF, stF, i, j) := h
  unfold xP_arrive_b2 at h
  have hl : lh_ ls 6 [(0, (va_rf p0)), (1, (va_rf p1)), (2, (.int p2)), (3, (.int p3))] := hl
  refine W.eq (g2 := F0 m 2 ls []) rfl ?_
  refine lv_iload_n X.1 X.2.1 dd_xP_arrive_2 rfl (lv_at hl.1 3 rfl) ?_
  refine lv_bipush (v := (100 : Int32)) X.1 X.2.1 dd_xP_arrive_3 (by decide) ?_
  by_cases hc5 : (100 : Int32) < p3
  · rw [if_pos hc5] at h
    refine lv_icmp_gt (tgt := 107) X.1 X.2.1 dd_xP_arrive_5 (by decide) (fun _ => ?_) (fun z => absurd hc5 z)
    obtain ⟨rfl, rfl, rfl, rfl⟩ := st_r_some h
    exact rr_vret X hw hlk hret hci hcj dd_xP_arrive_107
  · rw [if_neg hc5] at h
    refine lv_icmp_gt (tgt := 107) X.1 X.2.1 dd_xP_arrive_5 (by decide) (fun z => absurd z hc5) (fun _ => ?_)
    refine rr_aldn X dd_xP_arrive_8 rfl (lv_at hl.1 1 rfl) ?_
    obtain ⟨t1, ht1, h⟩ := st_g_some h
    refine rr_getq X hw ff_8_0 ht1 tw_199 (Or.inl rfl) dd_xP_arrive_9 ?_
    refine rr_ast (lv' := [(5, (va_rf t1)), (0, (va_rf p0)), (1, (va_rf p1)), (2, (.int p2)), (3, (.int p3))]) X dd_xP_arrive_12 hl (by decide) rfl (fun ls hl => ?_)
    refine rr_ald X dd_xP_arrive_14 (lv_at hl.1 0 rfl) ?_
    obtain ⟨t2, ht2, h⟩ := st_g_some h
    refine rr_inst X hw (ti_Q_y hKs) (ti_Q_n hKs) ht2 tw_55 dd_xP_arrive_16 ?_
    by_cases hc19 : t2 = 0
    · rw [if_pos hc19] at h
      refine lv_if_eq (tgt := 86) X.1 X.2.1 dd_xP_arrive_19 (by decide) (fun _ => ?_) (fun z => absurd hc19 z)
      refine rr_aldn X dd_xP_arrive_86 rfl (lv_at hl.1 1 rfl) ?_
      obtain ⟨t3, ht3, h⟩ := st_g_some h
      refine rr_getq X hw ff_0_0 ht3 tw_66 (Or.inl rfl) dd_xP_arrive_87 ?_
      refine lv_iload_n X.1 X.2.1 dd_xP_arrive_90 rfl (lv_at hl.1 3 rfl) ?_
      obtain ⟨t4, ht4, h⟩ := st_g_some h
      refine rr_aald X hw (tq_4 ac) ht4 dd_xP_arrive_91 ?_
      obtain ⟨t5, ht5, h⟩ := st_g_some h
      refine rr_getq X hw ff_5_1 ht5 tw_204 (Or.inl rfl) dd_xP_arrive_92 ?_
      refine rr_aldn X dd_xP_arrive_95 rfl (lv_at hl.1 2 rfl) ?_
      obtain ⟨t14, ht14, h⟩ := st_g_some h
      obtain ⟨t6, t7, t8, t9, t10, t11, ht6, h, ei, ej⟩ := st_b_some h
      refine rr_callV (n := 1) (As := [(va_rf p1)]) (rest := []) X hw (kn_ok D ac a0 gl) hKs (kc_al_add1 l D ac a0 gl t5 p1 _ _ _ _ _ ht6) tb_good tw_165 tw_33 tw_166 tw_167 se_4 ht14 (by decide +kernel) rfl (show 6 + 1 ≤ _ ∧ 8 + (2 + 11) + 170 ≤ _ from ⟨Nat.le_of_ble_eq_true rfl, Nat.le_of_ble_eq_true rfl⟩) (show cells + t8 ≤ iT ∧ slots + t9 ≤ jT from ⟨ar_1 hci ei, ar_1 hcj ej⟩) hl.1.1 (by simp [rf_cat, ic_cat]) rfl dd_xP_arrive_96 (sk := [(.int t6)]) rfl (fun H locs hw => ?_)
      have hci : cells + t8 + t10 = iT := ar_2 hci ei
      have hcj : slots + t9 + t11 = jT := ar_2 hcj ej
      clear ei ej
      generalize cells + t8 = t12 at hci ⊢
      generalize slots + t9 = t13 at hcj ⊢
      refine lv_pop X.1 X.2.1 dd_xP_arrive_99 rfl ?_
      obtain ⟨rfl, rfl, rfl, rfl⟩ := st_r_some h
      exact rr_vret X hw hlk hret hci hcj dd_xP_arrive_100
    · rw [if_neg hc19] at h
      refine lv_if_eq (tgt := 86) X.1 X.2.1 dd_xP_arrive_19 (by decide) (fun z => absurd z hc19) (fun _ => ?_)
      refine rr_ald X dd_xP_arrive_22 (lv_at hl.1 0 rfl) ?_
      obtain ⟨t15, ht15, h⟩ := st_g_some h
      refine rr_cast X hw (ti_Q_y hKs) ht15 tw_55 dd_xP_arrive_24 ?_
      refine rr_ast (lv' := [(4, (va_rf t1)), (5, (va_rf t1)), (0, (va_rf p0)), (1, (va_rf p1)), (2, (.int p2)), (3, (.int p3))]) X dd_xP_arrive_27 hl (by decide) rfl (fun ls hl => ?_)
      refine rr_ald X dd_xP_arrive_29 (lv_at hl.1 0 rfl) ?_
      obtain ⟨t16, ht16, h⟩ := st_g_some h
      refine rr_geti X hw ff_4_0 ht16 tw_214 (Or.inl rfl) dd_xP_arrive_31 ?_
      by_cases hc34 : t16 = 0
      · rw [if_pos hc34] at h
        refine lv_if_eq (tgt := 45) X.1 X.2.1 dd_xP_arrive_34 (by decide) (fun _ => ?_) (fun z => absurd hc34 z)
        refine rr_ald X dd_xP_arrive_45 (lv_at hl.1 0 rfl) ?_
        obtain ⟨t17, ht17, h⟩ := st_g_some h
        refine rr_getq X hw ff_4_1 ht17 tw_209 (Or.inl rfl) dd_xP_arrive_47 ?_
        by_cases hc50 : t17 = none
        · rw [if_pos hc50] at h
          refine rr_ifnonnull (tgt := 59) X dd_xP_arrive_50 (by decide) (fun z => absurd hc50 z) (fun _ => ?_)
          refine rr_aldn X dd_xP_arrive_53 rfl (lv_at hl.1 2 rfl) ?_
          refine rr_aldn X dd_xP_arrive_54 rfl (lv_at hl.1 3 rfl) ?_
          obtain ⟨t26, ht26, h⟩ := st_g_some h
          obtain ⟨t18, t19, t20, t21, t22, t23, ht18, h, ei, ej⟩ := st_b_some h
          refine rr_callV (n := 1) (As := [(va_rf p1)]) (rest := []) X hw (kn_ok D ac a0 gl) hKs (kc_xP_lose l D ac a0 gl p0 p1 _ _ _ _ _ ht18) tb_good tw_170 tw_91 tw_171 tw_172 se_5 ht26 (by decide +kernel) rfl (show 0 + 1 ≤ _ ∧ 8 + (2 + 11) + 0 ≤ _ from ⟨Nat.le_of_ble_eq_true rfl, Nat.le_of_ble_eq_true rfl⟩) (show cells + t20 ≤ iT ∧ slots + t21 ≤ jT from ⟨ar_1 hci ei, ar_1 hcj ej⟩) hl.1.1 (by simp [rf_cat, ic_cat]) rfl dd_xP_arrive_55 (sk := []) rfl (fun H locs hw => ?_)
          have hci : cells + t20 + t22 = iT := ar_2 hci ei
          have hcj : slots + t21 + t23 = jT := ar_2 hcj ej
          clear ei ej
          generalize cells + t20 = t24 at hci ⊢
          generalize slots + t21 = t25 at hcj ⊢
          obtain ⟨rfl, rfl, rfl, rfl⟩ := st_r_some h
          exact rr_vret X hw hlk hret hci hcj dd_xP_arrive_58
        · rw [if_neg hc50] at h
          refine rr_ifnonnull (tgt := 59) X dd_xP_arrive_50 (by decide) (fun _ => ?_) (fun z => absurd z hc50)
          refine rr_aldn X dd_xP_arrive_59 rfl (lv_at hl.1 3 rfl) ?_
          refine rr_ald X dd_xP_arrive_60 (lv_at hl.1 0 rfl) ?_
          obtain ⟨t27, ht27, h⟩ := st_g_some h
          refine rr_getq X hw ff_4_1 ht27 tw_209 (Or.inl rfl) dd_xP_arrive_62 ?_
          obtain ⟨t28, hp65, h⟩ := st_w_some h
          refine rr_put (ty := .object "PromiseVats$Entity") X hw ff_8_0 hp65 tw_199 (Or.inl rfl) (by decide +kernel) (rf_nar _ _) (rf_fit _ _) dd_xP_arrive_65 (fun H locs hw => ?_)
          refine rr_aldn X dd_xP_arrive_68 rfl (lv_at hl.1 3 rfl) ?_
          obtain ⟨t29, ht29, h⟩ := st_g_some h
          refine rr_getq X hw ff_8_0 ht29 tw_199 (Or.inl rfl) dd_xP_arrive_69 ?_
          obtain ⟨t30, ht30, h⟩ := st_g_some h
          refine rr_geti X hw ff_3_4_4 ht30 tw_196 (Or.inl rfl) dd_xP_arrive_72 ?_
          refine lv_iload_n X.1 X.2.1 dd_xP_arrive_75 rfl (lv_at hl.1 4 rfl) ?_
          by_cases hc76 : t30 = p2
          · rw [if_pos hc76] at h
            refine lv_icmp_eq (tgt := 101) X.1 X.2.1 dd_xP_arrive_76 (by decide) (fun _ => ?_) (fun z => absurd hc76 z)
            refine rr_iinc (k := 5) (v := (p3 + (1 : Int32))) (lv' := [(3, (.int (p3 + (1 : Int32)))), (4, (va_rf t1)), (5, (va_rf t1)), (0, (va_rf p0)), (1, (va_rf p1)), (2, (.int p2))]) X dd_xP_arrive_101 hl rfl (by rw [show Int32.ofInt (1) = (1 : Int32) from by decide]) (by decide) rfl (fun ls hl => ?_)
            refine lv_goto (tgt := 2) X.1 X.2.1 dd_xP_arrive_104 (by decide) ?_
            exact hr2 (p0, p1, p2, (p3 + (1 : Int32))) _ _ _ _ _ _ _ _ hw (lh_pk hl [3, 4, 5, 0] rfl) h hci hcj
          · rw [if_neg hc76] at h
            refine lv_icmp_eq (tgt := 101) X.1 X.2.1 dd_xP_arrive_76 (by decide) (fun z => absurd z hc76) (fun _ => ?_)
            refine rr_aldn X dd_xP_arrive_79 rfl (lv_at hl.1 2 rfl) ?_
            refine rr_aldn X dd_xP_arrive_80 rfl (lv_at hl.1 3 rfl) ?_
            refine lv_iload_n X.1 X.2.1 dd_xP_arrive_81 rfl (lv_at hl.1 4 rfl) ?_
            obtain ⟨t39, ht39, h⟩ := st_g_some h
            obtain ⟨t31, t32, t33, t34, t35, t36, ht31, h, ei, ej⟩ := st_b_some h
            refine rr_callV (n := 2) (As := [(va_rf p1), (.int p2)]) (rest := []) X hw (kn_ok D ac a0 gl) hKs (kc_xP_postCall l D ac a0 gl p0 p1 p2 _ _ _ _ _ ht31) tb_good tw_205 tw_91 tw_206 tw_207 se_9 ht39 (by decide +kernel) rfl (show 9 + 1 ≤ _ ∧ 8 + (5 + 11) + 237 ≤ _ from ⟨Nat.le_of_ble_eq_true rfl, Nat.le_of_ble_eq_true rfl⟩) (show cells + t33 ≤ iT ∧ slots + t34 ≤ jT from ⟨ar_1 hci ei, ar_1 hcj ej⟩) hl.1.1 (by simp [rf_cat, ic_cat]) rfl dd_xP_arrive_82 (sk := []) rfl (fun H locs hw => ?_)
            have hci : cells + t33 + t35 = iT := ar_2 hci ei
            have hcj : slots + t34 + t36 = jT := ar_2 hcj ej
            clear ei ej
            generalize cells + t33 = t37 at hci ⊢
            generalize slots + t34 = t38 at hcj ⊢
            obtain ⟨rfl, rfl, rfl, rfl⟩ := st_r_some h
            exact rr_vret X hw hlk hret hci hcj dd_xP_arrive_85
      · rw [if_neg hc34] at h
        refine lv_if_eq (tgt := 45) X.1 X.2.1 dd_xP_arrive_34 (by decide) (fun z => absurd z hc34) (fun _ => ?_)
        refine rr_aldn X dd_xP_arrive_37 rfl (lv_at hl.1 2 rfl) ?_
        refine rr_ald X dd_xP_arrive_38 (lv_at hl.1 0 rfl) ?_
        refine rr_aldn X dd_xP_arrive_40 rfl (lv_at hl.1 3 rfl) ?_
        obtain ⟨t48, ht48, h⟩ := st_g_some h
        obtain ⟨t40, t41, t42, t43, t44, t45, ht40, h, ei, ej⟩ := st_b_some h
        refine rr_callV (n := 2) (As := [(va_rf t1), (va_rf p1)]) (rest := []) X hw (kn_ok D ac a0 gl) hKs (kc_xP_waitAt l D ac a0 gl p0 t1 p1 _ _ _ _ _ ht40) tb_good tw_210 tw_91 tw_211 tw_212 se_10 ht48 (by decide +kernel) rfl (show 7 + 1 ≤ _ ∧ 8 + (3 + 11) + 191 ≤ _ from ⟨Nat.le_of_ble_eq_true rfl, Nat.le_of_ble_eq_true rfl⟩) (show cells + t42 ≤ iT ∧ slots + t43 ≤ jT from ⟨ar_1 hci ei, ar_1 hcj ej⟩) hl.1.1 (by simp [rf_cat, ic_cat]) rfl dd_xP_arrive_41 (sk := []) rfl (fun H locs hw => ?_)
        have hci : cells + t42 + t44 = iT := ar_2 hci ei
        have hcj : slots + t43 + t45 = jT := ar_2 hcj ej
        clear ei ej
        generalize cells + t42 = t46 at hci ⊢
        generalize slots + t43 = t47 at hcj ⊢
        obtain ⟨rfl, rfl, rfl, rfl⟩ := st_r_some h
        exact rr_vret X hw hlk hret hci hcj dd_xP_arrive_44
set_option maxHeartbeats 4000000 in
set_option maxRecDepth 100000 in
theorem kc_xP_arrive (l : Launch) (D : va_G) (ac : Nat → ClassId) (a0 : Nat) (gl : gl_T) (v0 : Option Nat) (v1 : Option Nat) (v2 : Int32) (st : st_S) (rF : Unit) (stF : st_S) (iT jT : Nat) (h : xP_arrive gl v0 v1 v2 st = some (rF, stF, iT, jT)) :
    ct_ l ⟨"PromiseVats", "arrive", "(LPromiseVats$Call;I)V"⟩ (Cond.code ⟨"PromiseVats", "arrive", "(LPromiseVats$Call;I)V"⟩ prog_1_method_29_code 6 (Option.none : Option FieldType) :: tb_) 10 261 D cl_ ac a0 (kn_ D ac a0 gl) [(va_rf v0), (va_rf v1), (.int v2)] st (vb_u rF) stF iT jT := by
  refine ct_of (kn_ok D ac a0 gl) (plainFor_of_name (by decide +kernel)) (by simp [rf_cat, ic_cat]) (by simp) ?_
  intro p e s m args below meth c ls X hw hKs hlk hret hnm hl
  unfold xP_arrive at h
  have hl : lh_ ls 6 [(0, (va_rf v0)), (1, (va_rf v1)), (2, (.int v2))] := hl
  obtain ⟨z0, hz0⟩ : ∃ z : Nat, 0 = z := ⟨0, rfl⟩
  obtain ⟨z1, hz1⟩ : ∃ z : Nat, 0 = z := ⟨0, rfl⟩
  refine W.cs hz0 hz1 ?_
  have hci : z0 + iT = iT := by omega
  have hcj : z1 + jT = jT := by omega
  refine lv_iconst (v := (0 : Int32)) X.1 X.2.1 dd_xP_arrive_0 (by decide) ?_
  refine rr_istn (lv' := [(3, (.int (0 : Int32))), (0, (va_rf v0)), (1, (va_rf v1)), (2, (.int v2))]) X dd_xP_arrive_1 rfl hl (by decide) rfl (fun ls hl => ?_)
  exact (kb_xP_arrive_b2 X hKs hlk hret hnm) (v0, v1, v2, (0 : Int32)) _ _ _ _ _ _ _ _ hw (lh_pk hl [1, 2, 3, 0] rfl) h hci hcj
/-! PromiseVats.poke(II)Z -/
theorem dd_xP_poke_0 : decode prog_1_method_5_code 0 = .ok (.aload_n 0, 1) := by decide +kernel
theorem dd_xP_poke_1 : decode prog_1_method_5_code 1 = .ok (.iload_n 1, 1) := by decide +kernel
theorem dd_xP_poke_2 : decode prog_1_method_5_code 2 = .ok (.invokevirtual 83, 3) := by decide +kernel
theorem dd_xP_poke_5 : decode prog_1_method_5_code 5 = .ok (.ifCond .eq 20, 3) := by decide +kernel
theorem dd_xP_poke_8 : decode prog_1_method_5_code 8 = .ok (.aload_n 0, 1) := by decide +kernel
theorem dd_xP_poke_9 : decode prog_1_method_5_code 9 = .ok (.getfield 20, 3) := by decide +kernel
theorem dd_xP_poke_12 : decode prog_1_method_5_code 12 = .ok (.iload_n 1, 1) := by decide +kernel
theorem dd_xP_poke_13 : decode prog_1_method_5_code 13 = .ok (.aaload, 1) := by decide +kernel
theorem dd_xP_poke_14 : decode prog_1_method_5_code 14 = .ok (.getfield 102, 3) := by decide +kernel
theorem dd_xP_poke_17 : decode prog_1_method_5_code 17 = .ok (.invokevirtual 106, 3) := by decide +kernel
theorem dd_xP_poke_20 : decode prog_1_method_5_code 20 = .ok (.bipush 20, 2) := by decide +kernel
theorem dd_xP_poke_22 : decode prog_1_method_5_code 22 = .ok (.if_icmp .lt 5, 3) := by decide +kernel
theorem dd_xP_poke_25 : decode prog_1_method_5_code 25 = .ok (.iconst 0, 1) := by decide +kernel
theorem dd_xP_poke_26 : decode prog_1_method_5_code 26 = .ok (.ireturn, 1) := by decide +kernel
theorem dd_xP_poke_27 : decode prog_1_method_5_code 27 = .ok (.aload_n 0, 1) := by decide +kernel
theorem dd_xP_poke_28 : decode prog_1_method_5_code 28 = .ok (.new 112, 3) := by decide +kernel
theorem dd_xP_poke_31 : decode prog_1_method_5_code 31 = .ok (.dup, 1) := by decide +kernel
theorem dd_xP_poke_32 : decode prog_1_method_5_code 32 = .ok (.aload_n 0, 1) := by decide +kernel
theorem dd_xP_poke_33 : decode prog_1_method_5_code 33 = .ok (.getfield 20, 3) := by decide +kernel
theorem dd_xP_poke_36 : decode prog_1_method_5_code 36 = .ok (.iload_n 1, 1) := by decide +kernel
theorem dd_xP_poke_37 : decode prog_1_method_5_code 37 = .ok (.aaload, 1) := by decide +kernel
theorem dd_xP_poke_38 : decode prog_1_method_5_code 38 = .ok (.getfield 89, 3) := by decide +kernel
theorem dd_xP_poke_41 : decode prog_1_method_5_code 41 = .ok (.iload_n 2, 1) := by decide +kernel
theorem dd_xP_poke_42 : decode prog_1_method_5_code 42 = .ok (.aconst_null, 1) := by decide +kernel
theorem dd_xP_poke_43 : decode prog_1_method_5_code 43 = .ok (.aconst_null, 1) := by decide +kernel
theorem dd_xP_poke_44 : decode prog_1_method_5_code 44 = .ok (.invokespecial 114, 3) := by decide +kernel
theorem dd_xP_poke_47 : decode prog_1_method_5_code 47 = .ok (.iload_n 1, 1) := by decide +kernel
theorem dd_xP_poke_48 : decode prog_1_method_5_code 48 = .ok (.invokevirtual 117, 3) := by decide +kernel
theorem dd_xP_poke_51 : decode prog_1_method_5_code 51 = .ok (.iconst 1, 1) := by decide +kernel
theorem dd_xP_poke_52 : decode prog_1_method_5_code 52 = .ok (.ireturn, 1) := by decide +kernel
set_option maxHeartbeats 4000000 in
set_option maxRecDepth 100000 in
theorem kb_xP_poke_b25 {p : Program} {l : Launch} {e : Env} {s : State} {m : MethodId} {args : Array Value} {below : List Frame} {meth : Method} {c : Code} {D : va_G} {ac : Nat → ClassId} {a0 : Nat} {gl : gl_T} {rF : Int32} {stF : st_S} {iT jT : Nat}
    (X : cx_ p s m args c prog_1_method_5_code 3 "PromiseVats" tb_ D cl_ (ty_ ac)) (hKs : kn_ D ac a0 gl s) (hlk : meth.locks = false) (hret : meth.sig.returnType = (Option.some FieldType.boolean)) (hnm : meth.name = "poke") : wk_ p l e 11 286 s m args below meth c D cl_ ac a0 3 vb_i rF stF iT jT 25 (fun x : Unit => []) (fun x : Unit => []) (fun _ : Unit => xP_poke_b25 gl) := by
  intro x st H locs cells slots i j ls hw hl h hci hcj
  have h : xP_poke_b25 gl  st = some (rF, stF, i, j) := h
  unfold xP_poke_b25 at h
  have hl : lh_ ls 3 [] := hl
  refine W.eq (g2 := F0 m 25 ls []) rfl ?_
  refine lv_iconst (v := (0 : Int32)) X.1 X.2.1 dd_xP_poke_25 (by decide) ?_
  obtain ⟨rfl, rfl, rfl, rfl⟩ := st_r_some h
  exact rr_iret X hw hlk hret (by decide) hci hcj dd_xP_poke_26
set_option maxHeartbeats 4000000 in
set_option maxRecDepth 100000 in
theorem kc_xP_poke (l : Launch) (D : va_G) (ac : Nat → ClassId) (a0 : Nat) (gl : gl_T) (v0 : Option Nat) (v1 : Int32) (v2 : Int32) (st : st_S) (rF : Int32) (stF : st_S) (iT jT : Nat) (h : xP_poke gl v0 v1 v2 st = some (rF, stF, iT, jT)) :
    ct_ l ⟨"PromiseVats", "poke", "(II)Z"⟩ (Cond.code ⟨"PromiseVats", "poke", "(II)Z"⟩ prog_1_method_5_code 3 (Option.some FieldType.boolean) :: tb_) 11 286 D cl_ ac a0 (kn_ D ac a0 gl) [(va_rf v0), (.int v1), (.int v2)] st (vb_i rF) stF iT jT := by
  refine ct_of (kn_ok D ac a0 gl) (plainFor_of_name (by decide +kernel)) (by simp [rf_cat, ic_cat]) (by simp) ?_
  intro p e s m args below meth c ls X hw hKs hlk hret hnm hl
  unfold xP_poke at h
  have hl : lh_ ls 3 [(0, (va_rf v0)), (1, (.int v1)), (2, (.int v2))] := hl
  obtain ⟨z0, hz0⟩ : ∃ z : Nat, 0 = z := ⟨0, rfl⟩
  obtain ⟨z1, hz1⟩ : ∃ z : Nat, 0 = z := ⟨0, rfl⟩
  refine W.cs hz0 hz1 ?_
  have hci : z0 + iT = iT := by omega
  have hcj : z1 + jT = jT := by omega
  refine rr_aldn X dd_xP_poke_0 rfl (lv_at hl.1 0 rfl) ?_
  refine lv_iload_n X.1 X.2.1 dd_xP_poke_1 rfl (lv_at hl.1 1 rfl) ?_
  obtain ⟨t47, ht47, h⟩ := st_g_some h
  obtain ⟨t1, t2, t3, t4, t5, t6, ht1, h, ei, ej⟩ := st_b_some h
  refine rr_callV (n := 1) (As := [(.int v1)]) (rest := []) X hw (kn_ok D ac a0 gl) hKs (kc_xP_isVat l D ac a0 gl v0 v1 _ _ _ _ _ ht1) tb_good tw_110 tw_91 tw_111 tw_112 se_0 ht47 (by decide +kernel) rfl (show 0 + 1 ≤ _ ∧ 8 + (2 + 11) + 0 ≤ _ from ⟨Nat.le_of_ble_eq_true rfl, Nat.le_of_ble_eq_true rfl⟩) (show z0 + t3 ≤ iT ∧ z1 + t4 ≤ jT from ⟨ar_1 hci ei, ar_1 hcj ej⟩) hl.1.1 (by simp [rf_cat, ic_cat]) rfl dd_xP_poke_2 (sk := [(.int t1)]) rfl (fun H locs hw => ?_)
  have hci : z0 + t3 + t5 = iT := ar_2 hci ei
  have hcj : z1 + t4 + t6 = jT := ar_2 hcj ej
  clear ei ej
  generalize z0 + t3 = t7 at hci ⊢
  generalize z1 + t4 = t8 at hcj ⊢
  by_cases hc5 : t1 = 0
  · rw [if_pos hc5] at h
    refine lv_if_eq (tgt := 25) X.1 X.2.1 dd_xP_poke_5 (by decide) (fun _ => ?_) (fun z => absurd hc5 z)
    exact (kb_xP_poke_b25 X hKs hlk hret hnm) () _ _ _ _ _ _ _ _ hw (lh_pk hl [] rfl) h hci hcj
  · rw [if_neg hc5] at h
    refine lv_if_eq (tgt := 25) X.1 X.2.1 dd_xP_poke_5 (by decide) (fun z => absurd z hc5) (fun _ => ?_)
    refine rr_aldn X dd_xP_poke_8 rfl (lv_at hl.1 0 rfl) ?_
    obtain ⟨t9, ht9, h⟩ := st_g_some h
    refine rr_getq X hw ff_0_0 ht9 tw_66 (Or.inl rfl) dd_xP_poke_9 ?_
    refine lv_iload_n X.1 X.2.1 dd_xP_poke_12 rfl (lv_at hl.1 1 rfl) ?_
    obtain ⟨t10, ht10, h⟩ := st_g_some h
    refine rr_aald X hw (tq_4 ac) ht10 dd_xP_poke_13 ?_
    obtain ⟨t11, ht11, h⟩ := st_g_some h
    refine rr_getq X hw ff_5_1 ht11 tw_204 (Or.inl rfl) dd_xP_poke_14 ?_
    obtain ⟨t46, ht46, h⟩ := st_g_some h
    obtain ⟨t12, t13, t14, t15, t16, t17, ht12, h, ei, ej⟩ := st_b_some h
    refine rr_callV (n := 0) (As := []) (rest := []) X hw (kn_ok D ac a0 gl) hKs (kc_al_size l D ac a0 gl t11 _ _ _ _ _ ht12) tb_good tw_174 tw_33 tw_175 tw_176 se_6 ht46 (by decide +kernel) rfl (show 0 + 1 ≤ _ ∧ 8 + (1 + 11) + 0 ≤ _ from ⟨Nat.le_of_ble_eq_true rfl, Nat.le_of_ble_eq_true rfl⟩) (show t7 + t14 ≤ iT ∧ t8 + t15 ≤ jT from ⟨ar_1 hci ei, ar_1 hcj ej⟩) hl.1.1 (by simp [rf_cat, ic_cat]) rfl dd_xP_poke_17 (sk := [(.int t12)]) rfl (fun H locs hw => ?_)
    have hci : t7 + t14 + t16 = iT := ar_2 hci ei
    have hcj : t8 + t15 + t17 = jT := ar_2 hcj ej
    clear ei ej
    generalize t7 + t14 = t18 at hci ⊢
    generalize t8 + t15 = t19 at hcj ⊢
    refine lv_bipush (v := (20 : Int32)) X.1 X.2.1 dd_xP_poke_20 (by decide) ?_
    by_cases hc22 : t12 < (20 : Int32)
    · rw [if_pos hc22] at h
      refine lv_icmp_lt (tgt := 27) X.1 X.2.1 dd_xP_poke_22 (by decide) (fun _ => ?_) (fun z => absurd hc22 z)
      refine rr_aldn X dd_xP_poke_27 rfl (lv_at hl.1 0 rfl) ?_
      obtain ⟨t44, t45, h, ei, ej⟩ := st_n_some h
      refine rr_new (fs := cd_8) X hw cf_8 cb_8 tw_223 tw_224 tw_219 (show t18 + 1 ≤ iT ∧ t19 + 4 ≤ jT from ⟨ar_1 hci ei, ar_1 hcj ej⟩) dd_xP_poke_28 (fun H hw => ?_)
      have hci : t18 + 1 + t44 = iT := ar_2 hci ei
      have hcj : t19 + 4 + t45 = jT := ar_2 hcj ej
      clear ei ej
      generalize t18 + 1 = t21 at hci ⊢
      generalize t19 + 4 = t22 at hcj ⊢
      generalize t13.2 = t20 at h ⊢
      have h := h
      generalize (st_ad t13 (.inr (.inr (8, cd_8)))) = t23 at h hw
      refine lv_dup X.1 X.2.1 dd_xP_poke_31 (rf_cat _) ?_
      refine rr_aldn X dd_xP_poke_32 rfl (lv_at hl.1 0 rfl) ?_
      obtain ⟨t24, ht24, h⟩ := st_g_some h
      refine rr_getq X hw ff_0_0 ht24 tw_66 (Or.inl rfl) dd_xP_poke_33 ?_
      refine lv_iload_n X.1 X.2.1 dd_xP_poke_36 rfl (lv_at hl.1 1 rfl) ?_
      obtain ⟨t25, ht25, h⟩ := st_g_some h
      refine rr_aald X hw (tq_4 ac) ht25 dd_xP_poke_37 ?_
      obtain ⟨t26, ht26, h⟩ := st_g_some h
      refine rr_getq X hw ff_5_0 ht26 tw_109 (Or.inl rfl) dd_xP_poke_38 ?_
      refine lv_iload_n X.1 X.2.1 dd_xP_poke_41 rfl (lv_at hl.1 2 rfl) ?_
      refine rr_null X dd_xP_poke_42 ?_
      refine rr_null X dd_xP_poke_43 ?_
      obtain ⟨t27, t28, t29, t30, t31, t32, ht27, h, ei, ej⟩ := st_b_some h
      refine rr_callI (n := 4) (b := t20) (As := [(va_rf t26), (.int v2), (va_rf none), (va_rf none)]) (rest := [(va_rf (some t20)), (va_rf v0)]) X hw (kn_ok D ac a0 gl) hKs (kc_xC_init l D ac a0 gl (some t20) t26 v2 none none _ _ _ _ _ ht27) tb_good tw_220 tw_219 tw_221 tw_222 rfl (by decide +kernel) rfl (show 1 + 1 ≤ _ ∧ 8 + (5 + 11) + 12 ≤ _ from ⟨Nat.le_of_ble_eq_true rfl, Nat.le_of_ble_eq_true rfl⟩) (show t21 + t29 ≤ iT ∧ t22 + t30 ≤ jT from ⟨ar_1 hci ei, ar_1 hcj ej⟩) hl.1.1 (by simp [rf_cat, ic_cat]) rfl dd_xP_poke_44 (sk := [(va_rf (some t20)), (va_rf v0)]) rfl (fun H locs hw => ?_)
      have hci : t21 + t29 + t31 = iT := ar_2 hci ei
      have hcj : t22 + t30 + t32 = jT := ar_2 hcj ej
      clear ei ej
      generalize t21 + t29 = t33 at hci ⊢
      generalize t22 + t30 = t34 at hcj ⊢
      refine lv_iload_n X.1 X.2.1 dd_xP_poke_47 rfl (lv_at hl.1 1 rfl) ?_
      obtain ⟨t43, ht43, h⟩ := st_g_some h
      obtain ⟨t35, t36, t37, t38, t39, t40, ht35, h, ei, ej⟩ := st_b_some h
      refine rr_callV (n := 2) (As := [(va_rf (some t20)), (.int v1)]) (rest := []) X hw (kn_ok D ac a0 gl) hKs (kc_xP_arrive l D ac a0 gl v0 (some t20) v1 _ _ _ _ _ ht35) tb_good tw_215 tw_91 tw_216 tw_217 se_11 ht43 (by decide +kernel) rfl (show 10 + 1 ≤ _ ∧ 8 + (6 + 11) + 261 ≤ _ from ⟨Nat.le_of_ble_eq_true rfl, Nat.le_of_ble_eq_true rfl⟩) (show t33 + t37 ≤ iT ∧ t34 + t38 ≤ jT from ⟨ar_1 hci ei, ar_1 hcj ej⟩) hl.1.1 (by simp [rf_cat, ic_cat]) rfl dd_xP_poke_48 (sk := []) rfl (fun H locs hw => ?_)
      have hci : t33 + t37 + t39 = iT := ar_2 hci ei
      have hcj : t34 + t38 + t40 = jT := ar_2 hcj ej
      clear ei ej
      generalize t33 + t37 = t41 at hci ⊢
      generalize t34 + t38 = t42 at hcj ⊢
      refine lv_iconst (v := (1 : Int32)) X.1 X.2.1 dd_xP_poke_51 (by decide) ?_
      obtain ⟨rfl, rfl, rfl, rfl⟩ := st_r_some h
      exact rr_iret X hw hlk hret (by decide) hci hcj dd_xP_poke_52
    · rw [if_neg hc22] at h
      refine lv_icmp_lt (tgt := 27) X.1 X.2.1 dd_xP_poke_22 (by decide) (fun z => absurd z hc22) (fun _ => ?_)
      exact (kb_xP_poke_b25 X hKs hlk hret hnm) () _ _ _ _ _ _ _ _ hw (lh_pk hl [] rfl) h hci hcj
/-! java/util/ArrayList.isEmpty()Z -/
theorem dd_al_isEmpty_0 : decode prog_20_method_9_code 0 = .ok (.aload_n 0, 1) := by decide +kernel
theorem dd_al_isEmpty_1 : decode prog_20_method_9_code 1 = .ok (.getfield 48, 3) := by decide +kernel
theorem dd_al_isEmpty_4 : decode prog_20_method_9_code 4 = .ok (.ifCond .ne 7, 3) := by decide +kernel
theorem dd_al_isEmpty_7 : decode prog_20_method_9_code 7 = .ok (.iconst 1, 1) := by decide +kernel
theorem dd_al_isEmpty_8 : decode prog_20_method_9_code 8 = .ok (.goto 4, 3) := by decide +kernel
theorem dd_al_isEmpty_11 : decode prog_20_method_9_code 11 = .ok (.iconst 0, 1) := by decide +kernel
theorem dd_al_isEmpty_12 : decode prog_20_method_9_code 12 = .ok (.ireturn, 1) := by decide +kernel
set_option maxHeartbeats 4000000 in
set_option maxRecDepth 100000 in
theorem kc_al_isEmpty (l : Launch) (D : va_G) (ac : Nat → ClassId) (a0 : Nat) (gl : gl_T) (v0 : Option Nat) (st : st_S) (rF : Int32) (stF : st_S) (iT jT : Nat) (h : al_isEmpty gl v0 st = some (rF, stF, iT, jT)) :
    ct_ l ⟨"java/util/ArrayList", "isEmpty", "()Z"⟩ (Cond.code ⟨"java/util/ArrayList", "isEmpty", "()Z"⟩ prog_20_method_9_code 1 (Option.some FieldType.boolean) :: tb_) 0 0 D cl_ ac a0 (kn_ D ac a0 gl) [(va_rf v0)] st (vb_i rF) stF iT jT := by
  refine ct_of (kn_ok D ac a0 gl) (by decide +kernel) (by simp [rf_cat, ic_cat]) (by simp) ?_
  intro p e s m args below meth c ls X hw hKs hlk hret hnm hl
  unfold al_isEmpty at h
  have hl : lh_ ls 1 [(0, (va_rf v0))] := hl
  obtain ⟨z0, hz0⟩ : ∃ z : Nat, 0 = z := ⟨0, rfl⟩
  obtain ⟨z1, hz1⟩ : ∃ z : Nat, 0 = z := ⟨0, rfl⟩
  refine W.cs hz0 hz1 ?_
  have hci : z0 + iT = iT := by omega
  have hcj : z1 + jT = jT := by omega
  refine rr_aldn X dd_al_isEmpty_0 rfl (lv_at hl.1 0 rfl) ?_
  obtain ⟨t1, ht1, h⟩ := st_g_some h
  refine rr_geti X hw ff_6_1 ht1 tw_114 (Or.inl rfl) dd_al_isEmpty_1 ?_
  by_cases hc4 : t1 = 0
  · rw [if_pos hc4] at h
    refine lv_if_ne (tgt := 11) X.1 X.2.1 dd_al_isEmpty_4 (by decide) (fun z => absurd hc4 z) (fun _ => ?_)
    refine lv_iconst (v := (1 : Int32)) X.1 X.2.1 dd_al_isEmpty_7 (by decide) ?_
    refine lv_goto (tgt := 12) X.1 X.2.1 dd_al_isEmpty_8 (by decide) ?_
    obtain ⟨rfl, rfl, rfl, rfl⟩ := st_r_some h
    exact rr_iret X hw hlk hret (by decide) hci hcj dd_al_isEmpty_12
  · rw [if_neg hc4] at h
    refine lv_if_ne (tgt := 11) X.1 X.2.1 dd_al_isEmpty_4 (by decide) (fun _ => ?_) (fun z => absurd z hc4)
    refine lv_iconst (v := (0 : Int32)) X.1 X.2.1 dd_al_isEmpty_11 (by decide) ?_
    obtain ⟨rfl, rfl, rfl, rfl⟩ := st_r_some h
    exact rr_iret X hw hlk hret (by decide) hci hcj dd_al_isEmpty_12
/-! jdk/internal/util/Preconditions.checkIndex(IILjava/util/function/BiFunction;)I -/
theorem dd_pc_checkIndex_0 : decode prog_28_method_11_code 0 = .ok (.iload_n 0, 1) := by decide +kernel
theorem dd_pc_checkIndex_1 : decode prog_28_method_11_code 1 = .ok (.ifCond .lt 8, 3) := by decide +kernel
theorem dd_pc_checkIndex_4 : decode prog_28_method_11_code 4 = .ok (.iload_n 0, 1) := by decide +kernel
theorem dd_pc_checkIndex_5 : decode prog_28_method_11_code 5 = .ok (.iload_n 1, 1) := by decide +kernel
theorem dd_pc_checkIndex_6 : decode prog_28_method_11_code 6 = .ok (.if_icmp .lt 10, 3) := by decide +kernel
theorem dd_pc_checkIndex_16 : decode prog_28_method_11_code 16 = .ok (.iload_n 0, 1) := by decide +kernel
theorem dd_pc_checkIndex_17 : decode prog_28_method_11_code 17 = .ok (.ireturn, 1) := by decide +kernel
set_option maxHeartbeats 4000000 in
set_option maxRecDepth 100000 in
theorem kc_pc_checkIndex (l : Launch) (D : va_G) (ac : Nat → ClassId) (a0 : Nat) (gl : gl_T) (v0 : Int32) (v1 : Int32) (v2 : Option Nat) (st : st_S) (rF : Int32) (stF : st_S) (iT jT : Nat) (h : pc_checkIndex gl v0 v1 v2 st = some (rF, stF, iT, jT)) :
    ct_ l ⟨"jdk/internal/util/Preconditions", "checkIndex", "(IILjava/util/function/BiFunction;)I"⟩ (Cond.code ⟨"jdk/internal/util/Preconditions", "checkIndex", "(IILjava/util/function/BiFunction;)I"⟩ prog_28_method_11_code 3 (Option.some FieldType.int) :: tb_) 0 0 D cl_ ac a0 (kn_ D ac a0 gl) [(.int v0), (.int v1), (va_rf v2)] st (vb_i rF) stF iT jT := by
  refine ct_of (kn_ok D ac a0 gl) (by decide +kernel) (by simp [rf_cat, ic_cat]) (by simp) ?_
  intro p e s m args below meth c ls X hw hKs hlk hret hnm hl
  unfold pc_checkIndex at h
  have hl : lh_ ls 3 [(0, (.int v0)), (1, (.int v1)), (2, (va_rf v2))] := hl
  obtain ⟨z0, hz0⟩ : ∃ z : Nat, 0 = z := ⟨0, rfl⟩
  obtain ⟨z1, hz1⟩ : ∃ z : Nat, 0 = z := ⟨0, rfl⟩
  refine W.cs hz0 hz1 ?_
  have hci : z0 + iT = iT := by omega
  have hcj : z1 + jT = jT := by omega
  refine lv_iload_n X.1 X.2.1 dd_pc_checkIndex_0 rfl (lv_at hl.1 0 rfl) ?_
  by_cases hc1 : v0 < 0
  · rw [if_pos hc1] at h
    refine lv_if_lt (tgt := 9) X.1 X.2.1 dd_pc_checkIndex_1 (by decide) (fun _ => ?_) (fun z => absurd hc1 z)
    cases h
  · rw [if_neg hc1] at h
    refine lv_if_lt (tgt := 9) X.1 X.2.1 dd_pc_checkIndex_1 (by decide) (fun z => absurd z hc1) (fun _ => ?_)
    refine lv_iload_n X.1 X.2.1 dd_pc_checkIndex_4 rfl (lv_at hl.1 0 rfl) ?_
    refine lv_iload_n X.1 X.2.1 dd_pc_checkIndex_5 rfl (lv_at hl.1 1 rfl) ?_
    by_cases hc6 : v0 < v1
    · rw [if_pos hc6] at h
      refine lv_icmp_lt (tgt := 16) X.1 X.2.1 dd_pc_checkIndex_6 (by decide) (fun _ => ?_) (fun z => absurd hc6 z)
      refine lv_iload_n X.1 X.2.1 dd_pc_checkIndex_16 rfl (lv_at hl.1 0 rfl) ?_
      obtain ⟨rfl, rfl, rfl, rfl⟩ := st_r_some h
      exact rr_iret X hw hlk hret rfl hci hcj dd_pc_checkIndex_17
    · rw [if_neg hc6] at h
      refine lv_icmp_lt (tgt := 16) X.1 X.2.1 dd_pc_checkIndex_6 (by decide) (fun z => absurd z hc6) (fun _ => ?_)
      cases h
/-! java/util/Objects.checkIndex(II)I -/
theorem dd_ob_checkIndex_0 : decode prog_24_method_17_code 0 = .ok (.iload_n 0, 1) := by decide +kernel
theorem dd_ob_checkIndex_1 : decode prog_24_method_17_code 1 = .ok (.iload_n 1, 1) := by decide +kernel
theorem dd_ob_checkIndex_2 : decode prog_24_method_17_code 2 = .ok (.aconst_null, 1) := by decide +kernel
theorem dd_ob_checkIndex_3 : decode prog_24_method_17_code 3 = .ok (.invokestatic 105, 3) := by decide +kernel
theorem dd_ob_checkIndex_6 : decode prog_24_method_17_code 6 = .ok (.ireturn, 1) := by decide +kernel
set_option maxHeartbeats 4000000 in
set_option maxRecDepth 100000 in
theorem kc_ob_checkIndex (l : Launch) (D : va_G) (ac : Nat → ClassId) (a0 : Nat) (gl : gl_T) (v0 : Int32) (v1 : Int32) (st : st_S) (rF : Int32) (stF : st_S) (iT jT : Nat) (h : ob_checkIndex gl v0 v1 st = some (rF, stF, iT, jT)) :
    ct_ l ⟨"java/util/Objects", "checkIndex", "(II)I"⟩ (Cond.code ⟨"java/util/Objects", "checkIndex", "(II)I"⟩ prog_24_method_17_code 2 (Option.some FieldType.int) :: tb_) 1 22 D cl_ ac a0 (kn_ D ac a0 gl) [(.int v0), (.int v1)] st (vb_i rF) stF iT jT := by
  refine ct_of (kn_ok D ac a0 gl) (by decide +kernel) (by simp [rf_cat, ic_cat]) (by simp) ?_
  intro p e s m args below meth c ls X hw hKs hlk hret hnm hl
  unfold ob_checkIndex at h
  have hl : lh_ ls 2 [(0, (.int v0)), (1, (.int v1))] := hl
  obtain ⟨z0, hz0⟩ : ∃ z : Nat, 0 = z := ⟨0, rfl⟩
  obtain ⟨z1, hz1⟩ : ∃ z : Nat, 0 = z := ⟨0, rfl⟩
  refine W.cs hz0 hz1 ?_
  have hci : z0 + iT = iT := by omega
  have hcj : z1 + jT = jT := by omega
  refine lv_iload_n X.1 X.2.1 dd_ob_checkIndex_0 rfl (lv_at hl.1 0 rfl) ?_
  refine lv_iload_n X.1 X.2.1 dd_ob_checkIndex_1 rfl (lv_at hl.1 1 rfl) ?_
  refine rr_null X dd_ob_checkIndex_2 ?_
  obtain ⟨t1, t2, t3, t4, t5, t6, ht1, h, ei, ej⟩ := st_b_some h
  refine rr_callS (n := 3) (As := [(.int v0), (.int v1), (va_rf none)]) (rest := []) X hw (kn_ok D ac a0 gl) hKs (kc_pc_checkIndex l D ac a0 gl v0 v1 none _ _ _ _ _ ht1) tb_good tw_226 tw_225 tw_227 tw_228 (by decide +kernel) rfl (show 0 + 1 ≤ _ ∧ 8 + (3 + 11) + 0 ≤ _ from ⟨Nat.le_of_ble_eq_true rfl, Nat.le_of_ble_eq_true rfl⟩) (show z0 + t3 ≤ iT ∧ z1 + t4 ≤ jT from ⟨ar_1 hci ei, ar_1 hcj ej⟩) hl.1.1 (by simp [rf_cat, ic_cat]) rfl dd_ob_checkIndex_3 (sk := [(.int t1)]) rfl (fun H locs hw => ?_)
  have hci : z0 + t3 + t5 = iT := ar_2 hci ei
  have hcj : z1 + t4 + t6 = jT := ar_2 hcj ej
  clear ei ej
  generalize z0 + t3 = t7 at hci ⊢
  generalize z1 + t4 = t8 at hcj ⊢
  obtain ⟨rfl, rfl, rfl, rfl⟩ := st_r_some h
  exact rr_iret X hw hlk hret rfl hci hcj dd_ob_checkIndex_6
