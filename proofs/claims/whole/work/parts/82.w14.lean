/-! PromiseVats.takeMessage(LPromiseVats$Message;II)V -/
theorem dd_xP_takeMessage_0 : decode prog_1_method_39_code 0 = .ok (.aload_n 1, 1) := by decide +kernel
theorem dd_xP_takeMessage_1 : decode prog_1_method_39_code 1 = .ok (.getfield 318, 3) := by decide +kernel
theorem dd_xP_takeMessage_4 : decode prog_1_method_39_code 4 = .ok (.astore 4, 2) := by decide +kernel
theorem dd_xP_takeMessage_6 : decode prog_1_method_39_code 6 = .ok (.aload_n 1, 1) := by decide +kernel
theorem dd_xP_takeMessage_7 : decode prog_1_method_39_code 7 = .ok (.getfield 190, 3) := by decide +kernel
theorem dd_xP_takeMessage_10 : decode prog_1_method_39_code 10 = .ok (.tableswitch 108 1 4 #[30, 49, 78, 95], 30) := by decide +kernel
theorem dd_xP_takeMessage_40 : decode prog_1_method_39_code 40 = .ok (.aload_n 1, 1) := by decide +kernel
theorem dd_xP_takeMessage_41 : decode prog_1_method_39_code 41 = .ok (.getfield 314, 3) := by decide +kernel
theorem dd_xP_takeMessage_44 : decode prog_1_method_39_code 44 = .ok (.ifnull 84, 3) := by decide +kernel
theorem dd_xP_takeMessage_47 : decode prog_1_method_39_code 47 = .ok (.aload_n 0, 1) := by decide +kernel
theorem dd_xP_takeMessage_48 : decode prog_1_method_39_code 48 = .ok (.aload_n 1, 1) := by decide +kernel
theorem dd_xP_takeMessage_49 : decode prog_1_method_39_code 49 = .ok (.getfield 314, 3) := by decide +kernel
theorem dd_xP_takeMessage_52 : decode prog_1_method_39_code 52 = .ok (.iload_n 3, 1) := by decide +kernel
theorem dd_xP_takeMessage_53 : decode prog_1_method_39_code 53 = .ok (.invokevirtual 117, 3) := by decide +kernel
theorem dd_xP_takeMessage_56 : decode prog_1_method_39_code 56 = .ok (.goto 72, 3) := by decide +kernel
theorem dd_xP_takeMessage_59 : decode prog_1_method_39_code 59 = .ok (.aload 4, 2) := by decide +kernel
theorem dd_xP_takeMessage_61 : decode prog_1_method_39_code 61 = .ok (.instanceof 43, 3) := by decide +kernel
theorem dd_xP_takeMessage_64 : decode prog_1_method_39_code 64 = .ok (.ifCond .eq 21, 3) := by decide +kernel
theorem dd_xP_takeMessage_67 : decode prog_1_method_39_code 67 = .ok (.aload 4, 2) := by decide +kernel
theorem dd_xP_takeMessage_69 : decode prog_1_method_39_code 69 = .ok (.checkcast 43, 3) := by decide +kernel
theorem dd_xP_takeMessage_72 : decode prog_1_method_39_code 72 = .ok (.astore 5, 2) := by decide +kernel
theorem dd_xP_takeMessage_74 : decode prog_1_method_39_code 74 = .ok (.aload_n 0, 1) := by decide +kernel
theorem dd_xP_takeMessage_75 : decode prog_1_method_39_code 75 = .ok (.iload_n 3, 1) := by decide +kernel
theorem dd_xP_takeMessage_76 : decode prog_1_method_39_code 76 = .ok (.aload 5, 2) := by decide +kernel
theorem dd_xP_takeMessage_78 : decode prog_1_method_39_code 78 = .ok (.aload_n 1, 1) := by decide +kernel
theorem dd_xP_takeMessage_79 : decode prog_1_method_39_code 79 = .ok (.getfield 179, 3) := by decide +kernel
theorem dd_xP_takeMessage_82 : decode prog_1_method_39_code 82 = .ok (.invokevirtual 158, 3) := by decide +kernel
theorem dd_xP_takeMessage_85 : decode prog_1_method_39_code 85 = .ok (.goto 43, 3) := by decide +kernel
theorem dd_xP_takeMessage_88 : decode prog_1_method_39_code 88 = .ok (.aload 4, 2) := by decide +kernel
theorem dd_xP_takeMessage_90 : decode prog_1_method_39_code 90 = .ok (.getfield 218, 3) := by decide +kernel
theorem dd_xP_takeMessage_93 : decode prog_1_method_39_code 93 = .ok (.iload_n 2, 1) := by decide +kernel
theorem dd_xP_takeMessage_94 : decode prog_1_method_39_code 94 = .ok (.dup2, 1) := by decide +kernel
theorem dd_xP_takeMessage_95 : decode prog_1_method_39_code 95 = .ok (.iaload, 1) := by decide +kernel
theorem dd_xP_takeMessage_96 : decode prog_1_method_39_code 96 = .ok (.aload_n 1, 1) := by decide +kernel
theorem dd_xP_takeMessage_97 : decode prog_1_method_39_code 97 = .ok (.getfield 321, 3) := by decide +kernel
theorem dd_xP_takeMessage_100 : decode prog_1_method_39_code 100 = .ok (.isub, 1) := by decide +kernel
theorem dd_xP_takeMessage_101 : decode prog_1_method_39_code 101 = .ok (.iastore, 1) := by decide +kernel
theorem dd_xP_takeMessage_102 : decode prog_1_method_39_code 102 = .ok (.goto 26, 3) := by decide +kernel
theorem dd_xP_takeMessage_105 : decode prog_1_method_39_code 105 = .ok (.aload 4, 2) := by decide +kernel
theorem dd_xP_takeMessage_107 : decode prog_1_method_39_code 107 = .ok (.iload_n 2, 1) := by decide +kernel
theorem dd_xP_takeMessage_108 : decode prog_1_method_39_code 108 = .ok (.aload_n 1, 1) := by decide +kernel
theorem dd_xP_takeMessage_109 : decode prog_1_method_39_code 109 = .ok (.getfield 321, 3) := by decide +kernel
theorem dd_xP_takeMessage_112 : decode prog_1_method_39_code 112 = .ok (.invokestatic 322, 3) := by decide +kernel
theorem dd_xP_takeMessage_115 : decode prog_1_method_39_code 115 = .ok (.goto 13, 3) := by decide +kernel
theorem dd_xP_takeMessage_118 : decode prog_1_method_39_code 118 = .ok (.aload 4, 2) := by decide +kernel
theorem dd_xP_takeMessage_120 : decode prog_1_method_39_code 120 = .ok (.aload_n 1, 1) := by decide +kernel
theorem dd_xP_takeMessage_121 : decode prog_1_method_39_code 121 = .ok (.getfield 321, 3) := by decide +kernel
theorem dd_xP_takeMessage_124 : decode prog_1_method_39_code 124 = .ok (.iload_n 2, 1) := by decide +kernel
theorem dd_xP_takeMessage_125 : decode prog_1_method_39_code 125 = .ok (.invokestatic 325, 3) := by decide +kernel
theorem dd_xP_takeMessage_128 : decode prog_1_method_39_code 128 = .ok (.return_, 1) := by decide +kernel
set_option maxHeartbeats 4000000 in
set_option maxRecDepth 100000 in
theorem kb_xP_takeMessage_b85 {p : Program} {l : Launch} {e : Env} {s : State} {m : MethodId} {args : Array Value} {below : List Frame} {meth : Method} {c : Code} {D : va_G} {ac : Nat → ClassId} {a0 : Nat} {gl : gl_T} {rF : Unit} {stF : st_S} {iT jT : Nat}
    (X : cx_ p s m args c prog_1_method_39_code 6 "PromiseVats" tb_ D cl_ (ty_ ac)) (hKs : kn_ D ac a0 gl s) (hlk : meth.locks = false) (hret : meth.sig.returnType = (Option.none : Option FieldType)) (hnm : meth.name = "takeMessage") : wk_ p l e 12 310 s m args below meth c D cl_ ac a0 6 vb_u rF stF iT jT 85 (fun x : Unit => []) (fun x : Unit => []) (fun _ : Unit => xP_takeMessage_b85 gl) := by
  intro x st H locs cells slots i j ls hw hl h hci hcj
  have h : xP_takeMessage_b85 gl  st = some (rF, stF, i, j) := h
  unfold xP_takeMessage_b85 at h
  have hl : lh_ ls 6 [] := hl
  refine W.eq (g2 := F0 m 85 ls []) rfl ?_
  refine lv_goto (tgt := 128) X.1 X.2.1 dd_xP_takeMessage_85 (by decide) ?_
  obtain ⟨rfl, rfl, rfl, rfl⟩ := st_r_some h
  exact rr_vret X hw hlk hret hci hcj dd_xP_takeMessage_128
set_option maxHeartbeats 4000000 in
set_option maxRecDepth 100000 in
theorem kc_xP_takeMessage (l : Launch) (D : va_G) (ac : Nat → ClassId) (a0 : Nat) (gl : gl_T) (v0 : Option Nat) (v1 : Option Nat) (v2 : Int32) (v3 : Int32) (st : st_S) (rF : Unit) (stF : st_S) (iT jT : Nat) (h : xP_takeMessage gl v0 v1 v2 v3 st = some (rF, stF, iT, jT)) :
    ct_ l ⟨"PromiseVats", "takeMessage", "(LPromiseVats$Message;II)V"⟩ (Cond.code ⟨"PromiseVats", "takeMessage", "(LPromiseVats$Message;II)V"⟩ prog_1_method_39_code 6 (Option.none : Option FieldType) :: tb_) 12 310 D cl_ ac a0 (kn_ D ac a0 gl) [(va_rf v0), (va_rf v1), (.int v2), (.int v3)] st (vb_u rF) stF iT jT := by
  refine ct_of (kn_ok D ac a0 gl) (plainFor_of_name (by decide +kernel)) (by simp [rf_cat, ic_cat]) (by simp) ?_
  intro p e s m args below meth c ls X hw hKs hlk hret hnm hl
  unfold xP_takeMessage at h
  have hl : lh_ ls 6 [(0, (va_rf v0)), (1, (va_rf v1)), (2, (.int v2)), (3, (.int v3))] := hl
  obtain ⟨z0, hz0⟩ : ∃ z : Nat, 0 = z := ⟨0, rfl⟩
  obtain ⟨z1, hz1⟩ : ∃ z : Nat, 0 = z := ⟨0, rfl⟩
  refine W.cs hz0 hz1 ?_
  have hci : z0 + iT = iT := by omega
  have hcj : z1 + jT = jT := by omega
  refine rr_aldn X dd_xP_takeMessage_0 rfl (lv_at hl.1 1 rfl) ?_
  obtain ⟨t1, ht1, h⟩ := st_g_some h
  refine rr_getq X hw ff_9_1 ht1 tw_339 (Or.inl rfl) dd_xP_takeMessage_1 ?_
  refine rr_ast (lv' := [(4, (va_rf t1)), (0, (va_rf v0)), (1, (va_rf v1)), (2, (.int v2)), (3, (.int v3))]) X dd_xP_takeMessage_4 hl (by decide) rfl (fun ls hl => ?_)
  refine rr_aldn X dd_xP_takeMessage_6 rfl (lv_at hl.1 2 rfl) ?_
  obtain ⟨t2, ht2, h⟩ := st_g_some h
  refine rr_geti X hw ff_9_0 ht2 tw_338 (Or.inl rfl) dd_xP_takeMessage_7 ?_
  by_cases hc10_1 : t2 = (1 : Int32)
  · rw [if_pos hc10_1] at h
    refine lv_tableIn (tgt := 40) (off := 30) X.1 X.2.1 dd_xP_takeMessage_10 (by rw [hc10_1]; decide) (by rw [hc10_1]; decide) (by rw [hc10_1]; decide) (by decide) ?_
    refine rr_aldn X dd_xP_takeMessage_40 rfl (lv_at hl.1 2 rfl) ?_
    obtain ⟨t3, ht3, h⟩ := st_g_some h
    refine rr_getq X hw ff_9_4 ht3 tw_197 (Or.inl rfl) dd_xP_takeMessage_41 ?_
    by_cases hc44 : t3 = none
    · rw [if_pos hc44] at h
      refine rr_ifnull (tgt := 128) X dd_xP_takeMessage_44 (by decide) (fun _ => ?_) (fun z => absurd hc44 z)
      obtain ⟨rfl, rfl, rfl, rfl⟩ := st_r_some h
      exact rr_vret X hw hlk hret hci hcj dd_xP_takeMessage_128
    · rw [if_neg hc44] at h
      refine rr_ifnull (tgt := 128) X dd_xP_takeMessage_44 (by decide) (fun z => absurd z hc44) (fun _ => ?_)
      refine rr_aldn X dd_xP_takeMessage_47 rfl (lv_at hl.1 1 rfl) ?_
      refine rr_aldn X dd_xP_takeMessage_48 rfl (lv_at hl.1 2 rfl) ?_
      obtain ⟨t4, ht4, h⟩ := st_g_some h
      refine rr_getq X hw ff_9_4 ht4 tw_197 (Or.inl rfl) dd_xP_takeMessage_49 ?_
      refine lv_iload_n X.1 X.2.1 dd_xP_takeMessage_52 rfl (lv_at hl.1 4 rfl) ?_
      obtain ⟨t13, ht13, h⟩ := st_g_some h
      obtain ⟨t5, t6, t7, t8, t9, t10, ht5, h, ei, ej⟩ := st_b_some h
      refine rr_callV (n := 2) (As := [(va_rf t4), (.int v3)]) (rest := []) X hw (kn_ok D ac a0 gl) hKs (kc_xP_arrive l D ac a0 gl v0 t4 v3 _ _ _ _ _ ht5) tb_good tw_215 tw_91 tw_216 tw_217 se_11 ht13 (by decide +kernel) rfl (show 10 + 1 ≤ _ ∧ 8 + (6 + 11) + 261 ≤ _ from ⟨Nat.le_of_ble_eq_true rfl, Nat.le_of_ble_eq_true rfl⟩) (show z0 + t7 ≤ iT ∧ z1 + t8 ≤ jT from ⟨ar_1 hci ei, ar_1 hcj ej⟩) hl.1.1 (by simp [rf_cat, ic_cat]) rfl dd_xP_takeMessage_53 (sk := []) rfl (fun H locs hw => ?_)
      have hci : z0 + t7 + t9 = iT := ar_2 hci ei
      have hcj : z1 + t8 + t10 = jT := ar_2 hcj ej
      clear ei ej
      generalize z0 + t7 = t11 at hci ⊢
      generalize z1 + t8 = t12 at hcj ⊢
      refine lv_goto (tgt := 128) X.1 X.2.1 dd_xP_takeMessage_56 (by decide) ?_
      obtain ⟨rfl, rfl, rfl, rfl⟩ := st_r_some h
      exact rr_vret X hw hlk hret hci hcj dd_xP_takeMessage_128
  · by_cases hc10_2 : t2 = (2 : Int32)
    · rw [if_neg hc10_1, if_pos hc10_2] at h
      refine lv_tableIn (tgt := 59) (off := 49) X.1 X.2.1 dd_xP_takeMessage_10 (by rw [hc10_2]; decide) (by rw [hc10_2]; decide) (by rw [hc10_2]; decide) (by decide) ?_
      refine rr_ald X dd_xP_takeMessage_59 (lv_at hl.1 0 rfl) ?_
      obtain ⟨t14, ht14, h⟩ := st_g_some h
      refine rr_inst X hw (ti_Q_y hKs) (ti_Q_n hKs) ht14 tw_55 dd_xP_takeMessage_61 ?_
      by_cases hc64 : t14 = 0
      · rw [if_pos hc64] at h
        refine lv_if_eq (tgt := 85) X.1 X.2.1 dd_xP_takeMessage_64 (by decide) (fun _ => ?_) (fun z => absurd hc64 z)
        exact (kb_xP_takeMessage_b85 X hKs hlk hret hnm) () _ _ _ _ _ _ _ _ hw (lh_pk hl [] rfl) h hci hcj
      · rw [if_neg hc64] at h
        refine lv_if_eq (tgt := 85) X.1 X.2.1 dd_xP_takeMessage_64 (by decide) (fun z => absurd z hc64) (fun _ => ?_)
        refine rr_ald X dd_xP_takeMessage_67 (lv_at hl.1 0 rfl) ?_
        obtain ⟨t15, ht15, h⟩ := st_g_some h
        refine rr_cast X hw (ti_Q_y hKs) ht15 tw_55 dd_xP_takeMessage_69 ?_
        refine rr_ast (lv' := [(5, (va_rf t1)), (4, (va_rf t1)), (0, (va_rf v0)), (1, (va_rf v1)), (2, (.int v2)), (3, (.int v3))]) X dd_xP_takeMessage_72 hl (by decide) rfl (fun ls hl => ?_)
        refine rr_aldn X dd_xP_takeMessage_74 rfl (lv_at hl.1 2 rfl) ?_
        refine lv_iload_n X.1 X.2.1 dd_xP_takeMessage_75 rfl (lv_at hl.1 5 rfl) ?_
        refine rr_ald X dd_xP_takeMessage_76 (lv_at hl.1 0 rfl) ?_
        refine rr_aldn X dd_xP_takeMessage_78 rfl (lv_at hl.1 3 rfl) ?_
        obtain ⟨t16, ht16, h⟩ := st_g_some h
        refine rr_getq X hw ff_9_2 ht16 tw_330 (Or.inl rfl) dd_xP_takeMessage_79 ?_
        obtain ⟨t25, ht25, h⟩ := st_g_some h
        obtain ⟨t17, t18, t19, t20, t21, t22, ht17, h, ei, ej⟩ := st_b_some h
        refine rr_callV (n := 3) (As := [(.int v3), (va_rf t1), (va_rf t16)]) (rest := []) X hw (kn_ok D ac a0 gl) hKs (kc_xP_resolveIn l D ac a0 gl v0 v3 t1 t16 _ _ _ _ _ ht17) tb_good tw_303 tw_91 tw_304 tw_305 se_19 ht25 (by decide +kernel) rfl (show 11 + 1 ≤ _ ∧ 8 + (5 + 11) + 286 ≤ _ from ⟨Nat.le_of_ble_eq_true rfl, Nat.le_of_ble_eq_true rfl⟩) (show z0 + t19 ≤ iT ∧ z1 + t20 ≤ jT from ⟨ar_1 hci ei, ar_1 hcj ej⟩) hl.1.1 (by simp [rf_cat, ic_cat]) rfl dd_xP_takeMessage_82 (sk := []) rfl (fun H locs hw => ?_)
        have hci : z0 + t19 + t21 = iT := ar_2 hci ei
        have hcj : z1 + t20 + t22 = jT := ar_2 hcj ej
        clear ei ej
        generalize z0 + t19 = t23 at hci ⊢
        generalize z1 + t20 = t24 at hcj ⊢
        exact (kb_xP_takeMessage_b85 X hKs hlk hret hnm) () _ _ _ _ _ _ _ _ hw (lh_pk hl [] rfl) h hci hcj
    · by_cases hc10_3 : t2 = (3 : Int32)
      · rw [if_neg hc10_1, if_neg hc10_2, if_pos hc10_3] at h
        refine lv_tableIn (tgt := 88) (off := 78) X.1 X.2.1 dd_xP_takeMessage_10 (by rw [hc10_3]; decide) (by rw [hc10_3]; decide) (by rw [hc10_3]; decide) (by decide) ?_
        refine rr_ald X dd_xP_takeMessage_88 (lv_at hl.1 0 rfl) ?_
        obtain ⟨t26, ht26, h⟩ := st_g_some h
        refine rr_getq X hw ff_3_4_7 ht26 tw_185 (Or.inl rfl) dd_xP_takeMessage_90 ?_
        refine lv_iload_n X.1 X.2.1 dd_xP_takeMessage_93 rfl (lv_at hl.1 3 rfl) ?_
        refine lv_dup2_11 X.1 X.2.1 dd_xP_takeMessage_94 rfl (rf_cat _) ?_
        obtain ⟨t27, ht27, h⟩ := st_g_some h
        refine rr_iald (t := 0) X hw rfl ht27 dd_xP_takeMessage_95 ?_
        refine rr_aldn X dd_xP_takeMessage_96 rfl (lv_at hl.1 2 rfl) ?_
        obtain ⟨t28, ht28, h⟩ := st_g_some h
        refine rr_geti X hw ff_9_3 ht28 tw_331 (Or.inl rfl) dd_xP_takeMessage_97 ?_
        refine lv_isub X.1 X.2.1 dd_xP_takeMessage_100 ?_
        obtain ⟨t29, hp101, h⟩ := st_w_some h
        refine rr_iast (t := 0) X hw rfl hp101 dd_xP_takeMessage_101 (fun H locs hw => ?_)
        refine lv_goto (tgt := 128) X.1 X.2.1 dd_xP_takeMessage_102 (by decide) ?_
        obtain ⟨rfl, rfl, rfl, rfl⟩ := st_r_some h
        exact rr_vret X hw hlk hret hci hcj dd_xP_takeMessage_128
      · by_cases hc10_4 : t2 = (4 : Int32)
        · rw [if_neg hc10_1, if_neg hc10_2, if_neg hc10_3, if_pos hc10_4] at h
          refine lv_tableIn (tgt := 105) (off := 95) X.1 X.2.1 dd_xP_takeMessage_10 (by rw [hc10_4]; decide) (by rw [hc10_4]; decide) (by rw [hc10_4]; decide) (by decide) ?_
          refine rr_ald X dd_xP_takeMessage_105 (lv_at hl.1 0 rfl) ?_
          refine lv_iload_n X.1 X.2.1 dd_xP_takeMessage_107 rfl (lv_at hl.1 3 rfl) ?_
          refine rr_aldn X dd_xP_takeMessage_108 rfl (lv_at hl.1 2 rfl) ?_
          obtain ⟨t30, ht30, h⟩ := st_g_some h
          refine rr_geti X hw ff_9_3 ht30 tw_331 (Or.inl rfl) dd_xP_takeMessage_109 ?_
          obtain ⟨t31, t32, t33, t34, t35, t36, ht31, h, ei, ej⟩ := st_b_some h
          refine rr_callS (n := 3) (As := [(va_rf t1), (.int v2), (.int t30)]) (rest := []) X hw (kn_ok D ac a0 gl) hKs (kc_xP_takeGift l D ac a0 gl t1 v2 t30 _ _ _ _ _ ht31) tb_good tw_332 tw_91 tw_333 tw_334 (by decide +kernel) rfl (show 0 + 1 ≤ _ ∧ 8 + (4 + 11) + 0 ≤ _ from ⟨Nat.le_of_ble_eq_true rfl, Nat.le_of_ble_eq_true rfl⟩) (show z0 + t33 ≤ iT ∧ z1 + t34 ≤ jT from ⟨ar_1 hci ei, ar_1 hcj ej⟩) hl.1.1 (by simp [rf_cat, ic_cat]) rfl dd_xP_takeMessage_112 (sk := []) rfl (fun H locs hw => ?_)
          have hci : z0 + t33 + t35 = iT := ar_2 hci ei
          have hcj : z1 + t34 + t36 = jT := ar_2 hcj ej
          clear ei ej
          generalize z0 + t33 = t37 at hci ⊢
          generalize z1 + t34 = t38 at hcj ⊢
          refine lv_goto (tgt := 128) X.1 X.2.1 dd_xP_takeMessage_115 (by decide) ?_
          obtain ⟨rfl, rfl, rfl, rfl⟩ := st_r_some h
          exact rr_vret X hw hlk hret hci hcj dd_xP_takeMessage_128
        · rw [if_neg hc10_1, if_neg hc10_2, if_neg hc10_3, if_neg hc10_4] at h
          have zn0 := lv_neT hc10_1 (show ((1 : Int32)).toInt = 1 by decide)
          have zn1 := lv_neT hc10_2 (show ((2 : Int32)).toInt = 2 by decide)
          have zn2 := lv_neT hc10_3 (show ((3 : Int32)).toInt = 3 by decide)
          have zn3 := lv_neT hc10_4 (show ((4 : Int32)).toInt = 4 by decide)
          refine lv_tableOut (tgt := 118) X.1 X.2.1 dd_xP_takeMessage_10 (by omega) (by decide) ?_
          refine rr_ald X dd_xP_takeMessage_118 (lv_at hl.1 0 rfl) ?_
          refine rr_aldn X dd_xP_takeMessage_120 rfl (lv_at hl.1 2 rfl) ?_
          obtain ⟨t39, ht39, h⟩ := st_g_some h
          refine rr_geti X hw ff_9_3 ht39 tw_331 (Or.inl rfl) dd_xP_takeMessage_121 ?_
          refine lv_iload_n X.1 X.2.1 dd_xP_takeMessage_124 rfl (lv_at hl.1 3 rfl) ?_
          obtain ⟨t40, t41, t42, t43, t44, t45, ht40, h, ei, ej⟩ := st_b_some h
          refine rr_callS (n := 3) (As := [(va_rf t1), (.int t39), (.int v2)]) (rest := []) X hw (kn_ok D ac a0 gl) hKs (kc_xP_takeRedeem l D ac a0 gl t1 t39 v2 _ _ _ _ _ ht40) tb_good tw_335 tw_91 tw_336 tw_337 (by decide +kernel) rfl (show 0 + 1 ≤ _ ∧ 8 + (4 + 11) + 0 ≤ _ from ⟨Nat.le_of_ble_eq_true rfl, Nat.le_of_ble_eq_true rfl⟩) (show z0 + t42 ≤ iT ∧ z1 + t43 ≤ jT from ⟨ar_1 hci ei, ar_1 hcj ej⟩) hl.1.1 (by simp [rf_cat, ic_cat]) rfl dd_xP_takeMessage_125 (sk := []) rfl (fun H locs hw => ?_)
          have hci : z0 + t42 + t44 = iT := ar_2 hci ei
          have hcj : z1 + t43 + t45 = jT := ar_2 hcj ej
          clear ei ej
          generalize z0 + t42 = t46 at hci ⊢
          generalize z1 + t43 = t47 at hcj ⊢
          obtain ⟨rfl, rfl, rfl, rfl⟩ := st_r_some h
          exact rr_vret X hw hlk hret hci hcj dd_xP_takeMessage_128
/-! PromiseVats.deliver(II)I -/
theorem dd_xP_deliver_0 : decode prog_1_method_7_code 0 = .ok (.aload_n 0, 1) := by decide +kernel
theorem dd_xP_deliver_1 : decode prog_1_method_7_code 1 = .ok (.iload_n 1, 1) := by decide +kernel
theorem dd_xP_deliver_2 : decode prog_1_method_7_code 2 = .ok (.iload_n 2, 1) := by decide +kernel
theorem dd_xP_deliver_3 : decode prog_1_method_7_code 3 = .ok (.invokevirtual 165, 3) := by decide +kernel
theorem dd_xP_deliver_6 : decode prog_1_method_7_code 6 = .ok (.ifCond .ne 5, 3) := by decide +kernel
theorem dd_xP_deliver_9 : decode prog_1_method_7_code 9 = .ok (.iconst 0, 1) := by decide +kernel
theorem dd_xP_deliver_10 : decode prog_1_method_7_code 10 = .ok (.ireturn, 1) := by decide +kernel
theorem dd_xP_deliver_11 : decode prog_1_method_7_code 11 = .ok (.aload_n 0, 1) := by decide +kernel
theorem dd_xP_deliver_12 : decode prog_1_method_7_code 12 = .ok (.getfield 20, 3) := by decide +kernel
theorem dd_xP_deliver_15 : decode prog_1_method_7_code 15 = .ok (.iload_n 1, 1) := by decide +kernel
theorem dd_xP_deliver_16 : decode prog_1_method_7_code 16 = .ok (.aaload, 1) := by decide +kernel
theorem dd_xP_deliver_17 : decode prog_1_method_7_code 17 = .ok (.getfield 168, 3) := by decide +kernel
theorem dd_xP_deliver_20 : decode prog_1_method_7_code 20 = .ok (.iload_n 2, 1) := by decide +kernel
theorem dd_xP_deliver_21 : decode prog_1_method_7_code 21 = .ok (.aaload, 1) := by decide +kernel
theorem dd_xP_deliver_22 : decode prog_1_method_7_code 22 = .ok (.getfield 172, 3) := by decide +kernel
theorem dd_xP_deliver_25 : decode prog_1_method_7_code 25 = .ok (.iconst 0, 1) := by decide +kernel
theorem dd_xP_deliver_26 : decode prog_1_method_7_code 26 = .ok (.invokevirtual 125, 3) := by decide +kernel
theorem dd_xP_deliver_29 : decode prog_1_method_7_code 29 = .ok (.checkcast 177, 3) := by decide +kernel
theorem dd_xP_deliver_32 : decode prog_1_method_7_code 32 = .ok (.astore_n 3, 1) := by decide +kernel
theorem dd_xP_deliver_33 : decode prog_1_method_7_code 33 = .ok (.aload_n 0, 1) := by decide +kernel
theorem dd_xP_deliver_34 : decode prog_1_method_7_code 34 = .ok (.aload_n 3, 1) := by decide +kernel
theorem dd_xP_deliver_35 : decode prog_1_method_7_code 35 = .ok (.getfield 179, 3) := by decide +kernel
theorem dd_xP_deliver_38 : decode prog_1_method_7_code 38 = .ok (.iload_n 1, 1) := by decide +kernel
theorem dd_xP_deliver_39 : decode prog_1_method_7_code 39 = .ok (.iload_n 2, 1) := by decide +kernel
theorem dd_xP_deliver_40 : decode prog_1_method_7_code 40 = .ok (.invokevirtual 182, 3) := by decide +kernel
theorem dd_xP_deliver_43 : decode prog_1_method_7_code 43 = .ok (.aload_n 0, 1) := by decide +kernel
theorem dd_xP_deliver_44 : decode prog_1_method_7_code 44 = .ok (.aload_n 3, 1) := by decide +kernel
theorem dd_xP_deliver_45 : decode prog_1_method_7_code 45 = .ok (.iload_n 1, 1) := by decide +kernel
theorem dd_xP_deliver_46 : decode prog_1_method_7_code 46 = .ok (.iload_n 2, 1) := by decide +kernel
theorem dd_xP_deliver_47 : decode prog_1_method_7_code 47 = .ok (.invokevirtual 186, 3) := by decide +kernel
theorem dd_xP_deliver_50 : decode prog_1_method_7_code 50 = .ok (.aload_n 0, 1) := by decide +kernel
theorem dd_xP_deliver_51 : decode prog_1_method_7_code 51 = .ok (.iload_n 2, 1) := by decide +kernel
theorem dd_xP_deliver_52 : decode prog_1_method_7_code 52 = .ok (.invokevirtual 147, 3) := by decide +kernel
theorem dd_xP_deliver_55 : decode prog_1_method_7_code 55 = .ok (.aload_n 3, 1) := by decide +kernel
theorem dd_xP_deliver_56 : decode prog_1_method_7_code 56 = .ok (.getfield 190, 3) := by decide +kernel
theorem dd_xP_deliver_59 : decode prog_1_method_7_code 59 = .ok (.ireturn, 1) := by decide +kernel
set_option maxHeartbeats 4000000 in
set_option maxRecDepth 100000 in
theorem kc_xP_deliver (l : Launch) (D : va_G) (ac : Nat → ClassId) (a0 : Nat) (gl : gl_T) (v0 : Option Nat) (v1 : Int32) (v2 : Int32) (st : st_S) (rF : Int32) (stF : st_S) (iT jT : Nat) (h : xP_deliver gl v0 v1 v2 st = some (rF, stF, iT, jT)) :
    ct_ l ⟨"PromiseVats", "delive\x72", "(II)I"⟩ (Cond.code ⟨"PromiseVats", "delive\x72", "(II)I"⟩ prog_1_method_7_code 4 (Option.some FieldType.int) :: tb_) 13 335 D cl_ ac a0 (kn_ D ac a0 gl) [(va_rf v0), (.int v1), (.int v2)] st (vb_i rF) stF iT jT := by
  refine ct_of (kn_ok D ac a0 gl) (plainFor_of_name (by decide +kernel)) (by simp [rf_cat, ic_cat]) (by simp) ?_
  intro p e s m args below meth c ls X hw hKs hlk hret hnm hl
  unfold xP_deliver at h
  have hl : lh_ ls 4 [(0, (va_rf v0)), (1, (.int v1)), (2, (.int v2))] := hl
  obtain ⟨z0, hz0⟩ : ∃ z : Nat, 0 = z := ⟨0, rfl⟩
  obtain ⟨z1, hz1⟩ : ∃ z : Nat, 0 = z := ⟨0, rfl⟩
  refine W.cs hz0 hz1 ?_
  have hci : z0 + iT = iT := by omega
  have hcj : z1 + jT = jT := by omega
  refine rr_aldn X dd_xP_deliver_0 rfl (lv_at hl.1 0 rfl) ?_
  refine lv_iload_n X.1 X.2.1 dd_xP_deliver_1 rfl (lv_at hl.1 1 rfl) ?_
  refine lv_iload_n X.1 X.2.1 dd_xP_deliver_2 rfl (lv_at hl.1 2 rfl) ?_
  obtain ⟨t53, ht53, h⟩ := st_g_some h
  obtain ⟨t1, t2, t3, t4, t5, t6, ht1, h, ei, ej⟩ := st_b_some h
  refine rr_callV (n := 2) (As := [(.int v1), (.int v2)]) (rest := []) X hw (kn_ok D ac a0 gl) hKs (kc_xP_flying l D ac a0 gl v0 v1 v2 _ _ _ _ _ ht1) tb_good tw_348 tw_91 tw_349 tw_350 se_27 ht53 (by decide +kernel) rfl (show 1 + 1 ≤ _ ∧ 8 + (3 + 11) + 21 ≤ _ from ⟨Nat.le_of_ble_eq_true rfl, Nat.le_of_ble_eq_true rfl⟩) (show z0 + t3 ≤ iT ∧ z1 + t4 ≤ jT from ⟨ar_1 hci ei, ar_1 hcj ej⟩) hl.1.1 (by simp [rf_cat, ic_cat]) rfl dd_xP_deliver_3 (sk := [(.int t1)]) rfl (fun H locs hw => ?_)
  have hci : z0 + t3 + t5 = iT := ar_2 hci ei
  have hcj : z1 + t4 + t6 = jT := ar_2 hcj ej
  clear ei ej
  generalize z0 + t3 = t7 at hci ⊢
  generalize z1 + t4 = t8 at hcj ⊢
  by_cases hc6 : t1 = 0
  · rw [if_pos hc6] at h
    refine lv_if_ne (tgt := 11) X.1 X.2.1 dd_xP_deliver_6 (by decide) (fun z => absurd hc6 z) (fun _ => ?_)
    refine lv_iconst (v := (0 : Int32)) X.1 X.2.1 dd_xP_deliver_9 (by decide) ?_
    obtain ⟨rfl, rfl, rfl, rfl⟩ := st_r_some h
    exact rr_iret X hw hlk hret rfl hci hcj dd_xP_deliver_10
  · rw [if_neg hc6] at h
    refine lv_if_ne (tgt := 11) X.1 X.2.1 dd_xP_deliver_6 (by decide) (fun _ => ?_) (fun z => absurd z hc6)
    refine rr_aldn X dd_xP_deliver_11 rfl (lv_at hl.1 0 rfl) ?_
    obtain ⟨t9, ht9, h⟩ := st_g_some h
    refine rr_getq X hw ff_0_0 ht9 tw_66 (Or.inl rfl) dd_xP_deliver_12 ?_
    refine lv_iload_n X.1 X.2.1 dd_xP_deliver_15 rfl (lv_at hl.1 1 rfl) ?_
    obtain ⟨t10, ht10, h⟩ := st_g_some h
    refine rr_aald X hw (tq_4 ac) ht10 dd_xP_deliver_16 ?_
    obtain ⟨t11, ht11, h⟩ := st_g_some h
    refine rr_getq X hw ff_5_2 ht11 tw_184 (Or.inl rfl) dd_xP_deliver_17 ?_
    refine lv_iload_n X.1 X.2.1 dd_xP_deliver_20 rfl (lv_at hl.1 2 rfl) ?_
    obtain ⟨t12, ht12, h⟩ := st_g_some h
    refine rr_aald X hw (tq_8 ac) ht12 dd_xP_deliver_21 ?_
    obtain ⟨t13, ht13, h⟩ := st_g_some h
    refine rr_getq X hw ff_7_0 ht13 tw_183 (Or.inl rfl) dd_xP_deliver_22 ?_
    refine lv_iconst (v := (0 : Int32)) X.1 X.2.1 dd_xP_deliver_25 (by decide) ?_
    obtain ⟨t52, ht52, h⟩ := st_g_some h
    obtain ⟨t14, t15, t16, t17, t18, t19, ht14, h, ei, ej⟩ := st_b_some h
    refine rr_callV (n := 1) (As := [(.int (0 : Int32))]) (rest := []) X hw (kn_ok D ac a0 gl) hKs (kc_al_remove l D ac a0 gl t13 (0 : Int32) _ _ _ _ _ ht14) tb_good tw_312 tw_33 tw_313 tw_314 se_21 ht52 (by decide +kernel) rfl (show 2 + 1 ≤ _ ∧ 8 + (4 + 11) + 83 ≤ _ from ⟨Nat.le_of_ble_eq_true rfl, Nat.le_of_ble_eq_true rfl⟩) (show t7 + t16 ≤ iT ∧ t8 + t17 ≤ jT from ⟨ar_1 hci ei, ar_1 hcj ej⟩) hl.1.1 (by simp [rf_cat, ic_cat]) rfl dd_xP_deliver_26 (sk := [(va_rf t14)]) rfl (fun H locs hw => ?_)
    have hci : t7 + t16 + t18 = iT := ar_2 hci ei
    have hcj : t8 + t17 + t19 = jT := ar_2 hcj ej
    clear ei ej
    generalize t7 + t16 = t20 at hci ⊢
    generalize t8 + t17 = t21 at hcj ⊢
    obtain ⟨t22, ht22, h⟩ := st_g_some h
    refine rr_cast X hw (ti_M_y hKs) ht22 tw_194 dd_xP_deliver_29 ?_
    refine rr_astn (lv' := [(3, (va_rf t14)), (0, (va_rf v0)), (1, (.int v1)), (2, (.int v2))]) X dd_xP_deliver_32 rfl hl (by decide) rfl (fun ls hl => ?_)
    refine rr_aldn X dd_xP_deliver_33 rfl (lv_at hl.1 1 rfl) ?_
    refine rr_aldn X dd_xP_deliver_34 rfl (lv_at hl.1 0 rfl) ?_
    obtain ⟨t23, ht23, h⟩ := st_g_some h
    refine rr_getq X hw ff_9_2 ht23 tw_330 (Or.inl rfl) dd_xP_deliver_35 ?_
    refine lv_iload_n X.1 X.2.1 dd_xP_deliver_38 rfl (lv_at hl.1 2 rfl) ?_
    refine lv_iload_n X.1 X.2.1 dd_xP_deliver_39 rfl (lv_at hl.1 3 rfl) ?_
    obtain ⟨t51, ht51, h⟩ := st_g_some h
    obtain ⟨t24, t25, t26, t27, t28, t29, ht24, h, ei, ej⟩ := st_b_some h
    refine rr_callV (n := 3) (As := [(va_rf t23), (.int v1), (.int v2)]) (rest := []) X hw (kn_ok D ac a0 gl) hKs (kc_xP_unpackArgument l D ac a0 gl v0 t23 v1 v2 _ _ _ _ _ ht24) tb_good tw_344 tw_91 tw_345 tw_346 se_26 ht51 (by decide +kernel) rfl (show 8 + 1 ≤ _ ∧ 8 + (4 + 11) + 214 ≤ _ from ⟨Nat.le_of_ble_eq_true rfl, Nat.le_of_ble_eq_true rfl⟩) (show t20 + t26 ≤ iT ∧ t21 + t27 ≤ jT from ⟨ar_1 hci ei, ar_1 hcj ej⟩) hl.1.1 (by simp [rf_cat, ic_cat]) rfl dd_xP_deliver_40 (sk := []) rfl (fun H locs hw => ?_)
    have hci : t20 + t26 + t28 = iT := ar_2 hci ei
    have hcj : t21 + t27 + t29 = jT := ar_2 hcj ej
    clear ei ej
    generalize t20 + t26 = t30 at hci ⊢
    generalize t21 + t27 = t31 at hcj ⊢
    refine rr_aldn X dd_xP_deliver_43 rfl (lv_at hl.1 1 rfl) ?_
    refine rr_aldn X dd_xP_deliver_44 rfl (lv_at hl.1 0 rfl) ?_
    refine lv_iload_n X.1 X.2.1 dd_xP_deliver_45 rfl (lv_at hl.1 2 rfl) ?_
    refine lv_iload_n X.1 X.2.1 dd_xP_deliver_46 rfl (lv_at hl.1 3 rfl) ?_
    obtain ⟨t50, ht50, h⟩ := st_g_some h
    obtain ⟨t32, t33, t34, t35, t36, t37, ht32, h, ei, ej⟩ := st_b_some h
    refine rr_callV (n := 3) (As := [(va_rf t14), (.int v1), (.int v2)]) (rest := []) X hw (kn_ok D ac a0 gl) hKs (kc_xP_takeMessage l D ac a0 gl v0 t14 v1 v2 _ _ _ _ _ ht32) tb_good tw_340 tw_91 tw_341 tw_342 se_25 ht50 (by decide +kernel) rfl (show 12 + 1 ≤ _ ∧ 8 + (6 + 11) + 310 ≤ _ from ⟨Nat.le_of_ble_eq_true rfl, Nat.le_of_ble_eq_true rfl⟩) (show t30 + t34 ≤ iT ∧ t31 + t35 ≤ jT from ⟨ar_1 hci ei, ar_1 hcj ej⟩) hl.1.1 (by simp [rf_cat, ic_cat]) rfl dd_xP_deliver_47 (sk := []) rfl (fun H locs hw => ?_)
    have hci : t30 + t34 + t36 = iT := ar_2 hci ei
    have hcj : t31 + t35 + t37 = jT := ar_2 hcj ej
    clear ei ej
    generalize t30 + t34 = t38 at hci ⊢
    generalize t31 + t35 = t39 at hcj ⊢
    refine rr_aldn X dd_xP_deliver_50 rfl (lv_at hl.1 1 rfl) ?_
    refine lv_iload_n X.1 X.2.1 dd_xP_deliver_51 rfl (lv_at hl.1 3 rfl) ?_
    obtain ⟨t49, ht49, h⟩ := st_g_some h
    obtain ⟨t40, t41, t42, t43, t44, t45, ht40, h, ei, ej⟩ := st_b_some h
    refine rr_callV (n := 1) (As := [(.int v2)]) (rest := []) X hw (kn_ok D ac a0 gl) hKs (kc_xP_settleLost l D ac a0 gl v0 v2 _ _ _ _ _ ht40) tb_good tw_320 tw_91 tw_321 tw_322 se_23 ht49 (by decide +kernel) rfl (show 12 + 1 ≤ _ ∧ 8 + (3 + 11) + 310 ≤ _ from ⟨Nat.le_of_ble_eq_true rfl, Nat.le_of_ble_eq_true rfl⟩) (show t38 + t42 ≤ iT ∧ t39 + t43 ≤ jT from ⟨ar_1 hci ei, ar_1 hcj ej⟩) hl.1.1 (by simp [rf_cat, ic_cat]) rfl dd_xP_deliver_52 (sk := []) rfl (fun H locs hw => ?_)
    have hci : t38 + t42 + t44 = iT := ar_2 hci ei
    have hcj : t39 + t43 + t45 = jT := ar_2 hcj ej
    clear ei ej
    generalize t38 + t42 = t46 at hci ⊢
    generalize t39 + t43 = t47 at hcj ⊢
    refine rr_aldn X dd_xP_deliver_55 rfl (lv_at hl.1 0 rfl) ?_
    obtain ⟨t48, ht48, h⟩ := st_g_some h
    refine rr_geti X hw ff_9_0 ht48 tw_338 (Or.inl rfl) dd_xP_deliver_56 ?_
    obtain ⟨rfl, rfl, rfl, rfl⟩ := st_r_some h
    exact rr_iret X hw hlk hret rfl hci hcj dd_xP_deliver_59
/-! PromiseVats.reach(LPromiseVats$Entity;)V -/
theorem dd_xP_reach_0 : decode prog_1_method_46_code 0 = .ok (.aload_n 1, 1) := by decide +kernel
theorem dd_xP_reach_1 : decode prog_1_method_46_code 1 = .ok (.ifnull 47, 3) := by decide +kernel
theorem dd_xP_reach_4 : decode prog_1_method_46_code 4 = .ok (.aload_n 1, 1) := by decide +kernel
theorem dd_xP_reach_5 : decode prog_1_method_46_code 5 = .ok (.getfield 331, 3) := by decide +kernel
theorem dd_xP_reach_8 : decode prog_1_method_46_code 8 = .ok (.ifCond .ne 40, 3) := by decide +kernel
theorem dd_xP_reach_11 : decode prog_1_method_46_code 11 = .ok (.aload_n 0, 1) := by decide +kernel
theorem dd_xP_reach_12 : decode prog_1_method_46_code 12 = .ok (.getfield 334, 3) := by decide +kernel
theorem dd_xP_reach_15 : decode prog_1_method_46_code 15 = .ok (.aload_n 0, 1) := by decide +kernel
theorem dd_xP_reach_16 : decode prog_1_method_46_code 16 = .ok (.getfield 49, 3) := by decide +kernel
theorem dd_xP_reach_19 : decode prog_1_method_46_code 19 = .ok (.arraylength, 1) := by decide +kernel
theorem dd_xP_reach_20 : decode prog_1_method_46_code 20 = .ok (.if_icmp .ge 28, 3) := by decide +kernel
theorem dd_xP_reach_23 : decode prog_1_method_46_code 23 = .ok (.aload_n 1, 1) := by decide +kernel
theorem dd_xP_reach_24 : decode prog_1_method_46_code 24 = .ok (.iconst 1, 1) := by decide +kernel
theorem dd_xP_reach_25 : decode prog_1_method_46_code 25 = .ok (.putfield 331, 3) := by decide +kernel
theorem dd_xP_reach_28 : decode prog_1_method_46_code 28 = .ok (.aload_n 0, 1) := by decide +kernel
theorem dd_xP_reach_29 : decode prog_1_method_46_code 29 = .ok (.getfield 49, 3) := by decide +kernel
theorem dd_xP_reach_32 : decode prog_1_method_46_code 32 = .ok (.aload_n 0, 1) := by decide +kernel
theorem dd_xP_reach_33 : decode prog_1_method_46_code 33 = .ok (.getfield 334, 3) := by decide +kernel
theorem dd_xP_reach_36 : decode prog_1_method_46_code 36 = .ok (.aload_n 1, 1) := by decide +kernel
theorem dd_xP_reach_37 : decode prog_1_method_46_code 37 = .ok (.aastore, 1) := by decide +kernel
theorem dd_xP_reach_38 : decode prog_1_method_46_code 38 = .ok (.aload_n 0, 1) := by decide +kernel
theorem dd_xP_reach_39 : decode prog_1_method_46_code 39 = .ok (.dup, 1) := by decide +kernel
theorem dd_xP_reach_40 : decode prog_1_method_46_code 40 = .ok (.getfield 334, 3) := by decide +kernel
theorem dd_xP_reach_43 : decode prog_1_method_46_code 43 = .ok (.iconst 1, 1) := by decide +kernel
theorem dd_xP_reach_44 : decode prog_1_method_46_code 44 = .ok (.iadd, 1) := by decide +kernel
theorem dd_xP_reach_45 : decode prog_1_method_46_code 45 = .ok (.putfield 334, 3) := by decide +kernel
theorem dd_xP_reach_48 : decode prog_1_method_46_code 48 = .ok (.return_, 1) := by decide +kernel
set_option maxHeartbeats 4000000 in
set_option maxRecDepth 100000 in
theorem kc_xP_reach (l : Launch) (D : va_G) (ac : Nat → ClassId) (a0 : Nat) (gl : gl_T) (v0 : Option Nat) (v1 : Option Nat) (st : st_S) (rF : Unit) (stF : st_S) (iT jT : Nat) (h : xP_reach gl v0 v1 st = some (rF, stF, iT, jT)) :
    ct_ l ⟨"PromiseVats", "reach", "(LPromiseVats$Entity;)V"⟩ (Cond.code ⟨"PromiseVats", "reach", "(LPromiseVats$Entity;)V"⟩ prog_1_method_46_code 2 (Option.none : Option FieldType) :: tb_) 0 0 D cl_ ac a0 (kn_ D ac a0 gl) [(va_rf v0), (va_rf v1)] st (vb_u rF) stF iT jT := by
  refine ct_of (kn_ok D ac a0 gl) (plainFor_of_name (by decide +kernel)) (by simp [rf_cat, ic_cat]) (by simp) ?_
  intro p e s m args below meth c ls X hw hKs hlk hret hnm hl
  unfold xP_reach at h
  have hl : lh_ ls 2 [(0, (va_rf v0)), (1, (va_rf v1))] := hl
  obtain ⟨z0, hz0⟩ : ∃ z : Nat, 0 = z := ⟨0, rfl⟩
  obtain ⟨z1, hz1⟩ : ∃ z : Nat, 0 = z := ⟨0, rfl⟩
  refine W.cs hz0 hz1 ?_
  have hci : z0 + iT = iT := by omega
  have hcj : z1 + jT = jT := by omega
  refine rr_aldn X dd_xP_reach_0 rfl (lv_at hl.1 1 rfl) ?_
  by_cases hc1 : v1 = none
  · rw [if_pos hc1] at h
    refine rr_ifnull (tgt := 48) X dd_xP_reach_1 (by decide) (fun _ => ?_) (fun z => absurd hc1 z)
    obtain ⟨rfl, rfl, rfl, rfl⟩ := st_r_some h
    exact rr_vret X hw hlk hret hci hcj dd_xP_reach_48
  · rw [if_neg hc1] at h
    refine rr_ifnull (tgt := 48) X dd_xP_reach_1 (by decide) (fun z => absurd z hc1) (fun _ => ?_)
    refine rr_aldn X dd_xP_reach_4 rfl (lv_at hl.1 1 rfl) ?_
    obtain ⟨t1, ht1, h⟩ := st_g_some h
    refine rr_geti X hw ff_3_4_6 ht1 tw_353 (Or.inl rfl) dd_xP_reach_5 ?_
    by_cases hc8 : t1 = 0
    · rw [if_pos hc8] at h
      refine lv_if_ne (tgt := 48) X.1 X.2.1 dd_xP_reach_8 (by decide) (fun z => absurd hc8 z) (fun _ => ?_)
      refine rr_aldn X dd_xP_reach_11 rfl (lv_at hl.1 0 rfl) ?_
      obtain ⟨t2, ht2, h⟩ := st_g_some h
      refine rr_geti X hw ff_0_9 ht2 tw_352 (Or.inl rfl) dd_xP_reach_12 ?_
      refine rr_aldn X dd_xP_reach_15 rfl (lv_at hl.1 0 rfl) ?_
      obtain ⟨t3, ht3, h⟩ := st_g_some h
      refine rr_getq X hw ff_0_8 ht3 tw_56 (Or.inl rfl) dd_xP_reach_16 ?_
      obtain ⟨t4, ht4, h⟩ := st_g_some h
      refine rr_alen X hw (tl_6 ac) ht4 dd_xP_reach_19 ?_
      by_cases hc20 : t4 ≤ t2
      · rw [if_pos hc20] at h
        refine lv_icmp_ge (tgt := 48) X.1 X.2.1 dd_xP_reach_20 (by decide) (fun _ => ?_) (fun z => absurd hc20 z)
        obtain ⟨rfl, rfl, rfl, rfl⟩ := st_r_some h
        exact rr_vret X hw hlk hret hci hcj dd_xP_reach_48
      · rw [if_neg hc20] at h
        refine lv_icmp_ge (tgt := 48) X.1 X.2.1 dd_xP_reach_20 (by decide) (fun z => absurd z hc20) (fun _ => ?_)
        refine rr_aldn X dd_xP_reach_23 rfl (lv_at hl.1 1 rfl) ?_
        refine lv_iconst (v := (1 : Int32)) X.1 X.2.1 dd_xP_reach_24 (by decide) ?_
        obtain ⟨t5, hp25, h⟩ := st_w_some h
        refine rr_put (ty := .boolean) X hw ff_3_4_6 hp25 tw_353 (Or.inl rfl) (by decide +kernel) (by decide) (by decide) dd_xP_reach_25 (fun H locs hw => ?_)
        refine rr_aldn X dd_xP_reach_28 rfl (lv_at hl.1 0 rfl) ?_
        obtain ⟨t6, ht6, h⟩ := st_g_some h
        refine rr_getq X hw ff_0_8 ht6 tw_56 (Or.inl rfl) dd_xP_reach_29 ?_
        refine rr_aldn X dd_xP_reach_32 rfl (lv_at hl.1 0 rfl) ?_
        obtain ⟨t7, ht7, h⟩ := st_g_some h
        refine rr_geti X hw ff_0_9 ht7 tw_352 (Or.inl rfl) dd_xP_reach_33 ?_
        refine rr_aldn X dd_xP_reach_36 rfl (lv_at hl.1 1 rfl) ?_
        obtain ⟨t8, hp37, h⟩ := st_w_some h
        refine rr_aast X hw (ta_6 hKs) hp37 dd_xP_reach_37 (fun H locs hw => ?_)
        refine rr_aldn X dd_xP_reach_38 rfl (lv_at hl.1 0 rfl) ?_
        refine lv_dup X.1 X.2.1 dd_xP_reach_39 (rf_cat _) ?_
        obtain ⟨t9, ht9, h⟩ := st_g_some h
        refine rr_geti X hw ff_0_9 ht9 tw_352 (Or.inl rfl) dd_xP_reach_40 ?_
        refine lv_iconst (v := (1 : Int32)) X.1 X.2.1 dd_xP_reach_43 (by decide) ?_
        refine lv_iadd X.1 X.2.1 dd_xP_reach_44 ?_
        obtain ⟨t10, hp45, h⟩ := st_w_some h
        refine rr_put (ty := .int) X hw ff_0_9 hp45 tw_352 (Or.inl rfl) (by decide +kernel) rfl rfl dd_xP_reach_45 (fun H locs hw => ?_)
        obtain ⟨rfl, rfl, rfl, rfl⟩ := st_r_some h
        exact rr_vret X hw hlk hret hci hcj dd_xP_reach_48
    · rw [if_neg hc8] at h
      refine lv_if_ne (tgt := 48) X.1 X.2.1 dd_xP_reach_8 (by decide) (fun _ => ?_) (fun z => absurd z hc8)
      obtain ⟨rfl, rfl, rfl, rfl⟩ := st_r_some h
      exact rr_vret X hw hlk hret hci hcj dd_xP_reach_48
/-! PromiseVats$Entity.isExported()Z -/
theorem dd_xE_isExported_0 : decode prog_4_method_3_code 0 = .ok (.iconst 0, 1) := by decide +kernel
theorem dd_xE_isExported_1 : decode prog_4_method_3_code 1 = .ok (.istore_n 1, 1) := by decide +kernel
theorem dd_xE_isExported_2 : decode prog_4_method_3_code 2 = .ok (.iload_n 1, 1) := by decide +kernel
theorem dd_xE_isExported_3 : decode prog_4_method_3_code 3 = .ok (.aload_n 0, 1) := by decide +kernel
theorem dd_xE_isExported_4 : decode prog_4_method_3_code 4 = .ok (.getfield 9, 3) := by decide +kernel
theorem dd_xE_isExported_7 : decode prog_4_method_3_code 7 = .ok (.arraylength, 1) := by decide +kernel
theorem dd_xE_isExported_8 : decode prog_4_method_3_code 8 = .ok (.if_icmp .ge 20, 3) := by decide +kernel
theorem dd_xE_isExported_11 : decode prog_4_method_3_code 11 = .ok (.aload_n 0, 1) := by decide +kernel
theorem dd_xE_isExported_12 : decode prog_4_method_3_code 12 = .ok (.getfield 9, 3) := by decide +kernel
theorem dd_xE_isExported_15 : decode prog_4_method_3_code 15 = .ok (.iload_n 1, 1) := by decide +kernel
theorem dd_xE_isExported_16 : decode prog_4_method_3_code 16 = .ok (.iaload, 1) := by decide +kernel
theorem dd_xE_isExported_17 : decode prog_4_method_3_code 17 = .ok (.ifCond .le 5, 3) := by decide +kernel
theorem dd_xE_isExported_20 : decode prog_4_method_3_code 20 = .ok (.iconst 1, 1) := by decide +kernel
theorem dd_xE_isExported_21 : decode prog_4_method_3_code 21 = .ok (.ireturn, 1) := by decide +kernel
theorem dd_xE_isExported_22 : decode prog_4_method_3_code 22 = .ok (.iinc 1 1, 3) := by decide +kernel
theorem dd_xE_isExported_25 : decode prog_4_method_3_code 25 = .ok (.goto (-23), 3) := by decide +kernel
theorem dd_xE_isExported_28 : decode prog_4_method_3_code 28 = .ok (.iconst 0, 1) := by decide +kernel
theorem dd_xE_isExported_29 : decode prog_4_method_3_code 29 = .ok (.ireturn, 1) := by decide +kernel
set_option maxHeartbeats 4000000 in
set_option maxRecDepth 100000 in
theorem kb_xE_isExported_b2 {p : Program} {l : Launch} {e : Env} {s : State} {m : MethodId} {args : Array Value} {below : List Frame} {meth : Method} {c : Code} {D : va_G} {ac : Nat → ClassId} {a0 : Nat} {gl : gl_T} {rF : Int32} {stF : st_S} {iT jT : Nat}
    (X : cx_ p s m args c prog_4_method_3_code 2 "PromiseVats$Entity" tb_ D cl_ (ty_ ac)) (hKs : kn_ D ac a0 gl s) (hlk : meth.locks = false) (hret : meth.sig.returnType = (Option.some FieldType.boolean)) (hnm : meth.name = "isExported") : wk_ p l e 0 0 s m args below meth c D cl_ ac a0 2 vb_i rF stF iT jT 2 (fun x : Option Nat × Int32 => [(0, (va_rf x.1)), (1, (.int x.2))]) (fun x : Option Nat × Int32 => []) (st_it (fun rec2 => (fun x : Option Nat × Int32 => xE_isExported_b2 gl rec2 x.1 x.2)) fu_) := by
  refine wk_it ?_ _
  intro rec2 hr2 x st H locs cells slots i j ls hw hl h hci hcj
  obtain ⟨p0, p1⟩ := x
  have h : xE_isExported_b2 gl rec2 p0 p1 st = some (rF, stF, i, j) := h
  unfold xE_isExported_b2 at h
  have hl : lh_ ls 2 [(0, (va_rf p0)), (1, (.int p1))] := hl
  refine W.eq (g2 := F0 m 2 ls []) rfl ?_
  refine lv_iload_n X.1 X.2.1 dd_xE_isExported_2 rfl (lv_at hl.1 1 rfl) ?_
  refine rr_aldn X dd_xE_isExported_3 rfl (lv_at hl.1 0 rfl) ?_
  obtain ⟨t1, ht1, h⟩ := st_g_some h
  refine rr_getq X hw ff_3_4_7 ht1 tw_11 (Or.inl rfl) dd_xE_isExported_4 ?_
  obtain ⟨t2, ht2, h⟩ := st_g_some h
  refine rr_alen X hw (tl_0 ac) ht2 dd_xE_isExported_7 ?_
  by_cases hc8 : t2 ≤ p1
  · rw [if_pos hc8] at h
    refine lv_icmp_ge (tgt := 28) X.1 X.2.1 dd_xE_isExported_8 (by decide) (fun _ => ?_) (fun z => absurd hc8 z)
    refine lv_iconst (v := (0 : Int32)) X.1 X.2.1 dd_xE_isExported_28 (by decide) ?_
    obtain ⟨rfl, rfl, rfl, rfl⟩ := st_r_some h
    exact rr_iret X hw hlk hret (by decide) hci hcj dd_xE_isExported_29
  · rw [if_neg hc8] at h
    refine lv_icmp_ge (tgt := 28) X.1 X.2.1 dd_xE_isExported_8 (by decide) (fun z => absurd z hc8) (fun _ => ?_)
    refine rr_aldn X dd_xE_isExported_11 rfl (lv_at hl.1 0 rfl) ?_
    obtain ⟨t3, ht3, h⟩ := st_g_some h
    refine rr_getq X hw ff_3_4_7 ht3 tw_11 (Or.inl rfl) dd_xE_isExported_12 ?_
    refine lv_iload_n X.1 X.2.1 dd_xE_isExported_15 rfl (lv_at hl.1 1 rfl) ?_
    obtain ⟨t4, ht4, h⟩ := st_g_some h
    refine rr_iald (t := 0) X hw rfl ht4 dd_xE_isExported_16 ?_
    by_cases hc17 : t4 ≤ 0
    · rw [if_pos hc17] at h
      refine lv_if_le (tgt := 22) X.1 X.2.1 dd_xE_isExported_17 (by decide) (fun _ => ?_) (fun z => absurd hc17 z)
      refine rr_iinc (k := 1) (v := (p1 + (1 : Int32))) (lv' := [(1, (.int (p1 + (1 : Int32)))), (0, (va_rf p0))]) X dd_xE_isExported_22 hl rfl (by rw [show Int32.ofInt (1) = (1 : Int32) from by decide]) (by decide) rfl (fun ls hl => ?_)
      refine lv_goto (tgt := 2) X.1 X.2.1 dd_xE_isExported_25 (by decide) ?_
      exact hr2 (p0, (p1 + (1 : Int32))) _ _ _ _ _ _ _ _ hw (lh_pk hl [1, 0] rfl) h hci hcj
    · rw [if_neg hc17] at h
      refine lv_if_le (tgt := 22) X.1 X.2.1 dd_xE_isExported_17 (by decide) (fun z => absurd z hc17) (fun _ => ?_)
      refine lv_iconst (v := (1 : Int32)) X.1 X.2.1 dd_xE_isExported_20 (by decide) ?_
      obtain ⟨rfl, rfl, rfl, rfl⟩ := st_r_some h
      exact rr_iret X hw hlk hret (by decide) hci hcj dd_xE_isExported_21
set_option maxHeartbeats 4000000 in
set_option maxRecDepth 100000 in
theorem kc_xE_isExported (l : Launch) (D : va_G) (ac : Nat → ClassId) (a0 : Nat) (gl : gl_T) (v0 : Option Nat) (st : st_S) (rF : Int32) (stF : st_S) (iT jT : Nat) (h : xE_isExported gl v0 st = some (rF, stF, iT, jT)) :
    ct_ l ⟨"PromiseVats$Entity", "isExported", "()Z"⟩ (Cond.code ⟨"PromiseVats$Entity", "isExported", "()Z"⟩ prog_4_method_3_code 2 (Option.some FieldType.boolean) :: tb_) 0 0 D cl_ ac a0 (kn_ D ac a0 gl) [(va_rf v0)] st (vb_i rF) stF iT jT := by
  refine ct_of (kn_ok D ac a0 gl) (plainFor_of_name (by decide +kernel)) (by simp [rf_cat, ic_cat]) (by simp) ?_
  intro p e s m args below meth c ls X hw hKs hlk hret hnm hl
  unfold xE_isExported at h
  have hl : lh_ ls 2 [(0, (va_rf v0))] := hl
  obtain ⟨z0, hz0⟩ : ∃ z : Nat, 0 = z := ⟨0, rfl⟩
  obtain ⟨z1, hz1⟩ : ∃ z : Nat, 0 = z := ⟨0, rfl⟩
  refine W.cs hz0 hz1 ?_
  have hci : z0 + iT = iT := by omega
  have hcj : z1 + jT = jT := by omega
  refine lv_iconst (v := (0 : Int32)) X.1 X.2.1 dd_xE_isExported_0 (by decide) ?_
  refine rr_istn (lv' := [(1, (.int (0 : Int32))), (0, (va_rf v0))]) X dd_xE_isExported_1 rfl hl (by decide) rfl (fun ls hl => ?_)
  exact (kb_xE_isExported_b2 X hKs hlk hret hnm) (v0, (0 : Int32)) _ _ _ _ _ _ _ _ hw (lh_pk hl [1, 0] rfl) h hci hcj
