/-! PromiseVats.shareInCount(LPromiseVats$Entity;II)I -/
theorem dd_xP_shareInCount_0 : decode prog_1_method_49_code 0 = .ok (.iload_n 2, 1) := by decide +kernel
theorem dd_xP_shareInCount_1 : decode prog_1_method_49_code 1 = .ok (.iconst 3, 1) := by decide +kernel
theorem dd_xP_shareInCount_2 : decode prog_1_method_49_code 2 = .ok (.if_icmp .ne 18, 3) := by decide +kernel
theorem dd_xP_shareInCount_5 : decode prog_1_method_49_code 5 = .ok (.aload_n 0, 1) := by decide +kernel
theorem dd_xP_shareInCount_6 : decode prog_1_method_49_code 6 = .ok (.getfield 214, 3) := by decide +kernel
theorem dd_xP_shareInCount_9 : decode prog_1_method_49_code 9 = .ok (.iload_n 1, 1) := by decide +kernel
theorem dd_xP_shareInCount_10 : decode prog_1_method_49_code 10 = .ok (.iaload, 1) := by decide +kernel
theorem dd_xP_shareInCount_11 : decode prog_1_method_49_code 11 = .ok (.ifCond .le 7, 3) := by decide +kernel
theorem dd_xP_shareInCount_14 : decode prog_1_method_49_code 14 = .ok (.iconst 1, 1) := by decide +kernel
theorem dd_xP_shareInCount_15 : decode prog_1_method_49_code 15 = .ok (.goto 4, 3) := by decide +kernel
theorem dd_xP_shareInCount_18 : decode prog_1_method_49_code 18 = .ok (.iconst 0, 1) := by decide +kernel
theorem dd_xP_shareInCount_19 : decode prog_1_method_49_code 19 = .ok (.ireturn, 1) := by decide +kernel
theorem dd_xP_shareInCount_20 : decode prog_1_method_49_code 20 = .ok (.aload_n 0, 1) := by decide +kernel
theorem dd_xP_shareInCount_21 : decode prog_1_method_49_code 21 = .ok (.getfield 219, 3) := by decide +kernel
theorem dd_xP_shareInCount_24 : decode prog_1_method_49_code 24 = .ok (.iload_n 1, 1) := by decide +kernel
theorem dd_xP_shareInCount_25 : decode prog_1_method_49_code 25 = .ok (.if_icmp .eq 5, 3) := by decide +kernel
theorem dd_xP_shareInCount_28 : decode prog_1_method_49_code 28 = .ok (.iconst 0, 1) := by decide +kernel
theorem dd_xP_shareInCount_29 : decode prog_1_method_49_code 29 = .ok (.ireturn, 1) := by decide +kernel
theorem dd_xP_shareInCount_30 : decode prog_1_method_49_code 30 = .ok (.iload_n 2, 1) := by decide +kernel
theorem dd_xP_shareInCount_31 : decode prog_1_method_49_code 31 = .ok (.tableswitch 42 4 6 #[25, 31, 37], 25) := by decide +kernel
theorem dd_xP_shareInCount_56 : decode prog_1_method_49_code 56 = .ok (.aload_n 0, 1) := by decide +kernel
theorem dd_xP_shareInCount_57 : decode prog_1_method_49_code 57 = .ok (.iconst 1, 1) := by decide +kernel
theorem dd_xP_shareInCount_58 : decode prog_1_method_49_code 58 = .ok (.invokevirtual 354, 3) := by decide +kernel
theorem dd_xP_shareInCount_61 : decode prog_1_method_49_code 61 = .ok (.ireturn, 1) := by decide +kernel
theorem dd_xP_shareInCount_62 : decode prog_1_method_49_code 62 = .ok (.aload_n 0, 1) := by decide +kernel
theorem dd_xP_shareInCount_63 : decode prog_1_method_49_code 63 = .ok (.iconst (-1), 1) := by decide +kernel
theorem dd_xP_shareInCount_64 : decode prog_1_method_49_code 64 = .ok (.invokevirtual 354, 3) := by decide +kernel
theorem dd_xP_shareInCount_67 : decode prog_1_method_49_code 67 = .ok (.ireturn, 1) := by decide +kernel
theorem dd_xP_shareInCount_68 : decode prog_1_method_49_code 68 = .ok (.aload_n 0, 1) := by decide +kernel
theorem dd_xP_shareInCount_69 : decode prog_1_method_49_code 69 = .ok (.invokestatic 357, 3) := by decide +kernel
theorem dd_xP_shareInCount_72 : decode prog_1_method_49_code 72 = .ok (.ireturn, 1) := by decide +kernel
theorem dd_xP_shareInCount_73 : decode prog_1_method_49_code 73 = .ok (.aload_n 0, 1) := by decide +kernel
theorem dd_xP_shareInCount_74 : decode prog_1_method_49_code 74 = .ok (.getfield 239, 3) := by decide +kernel
theorem dd_xP_shareInCount_77 : decode prog_1_method_49_code 77 = .ok (.ifCond .ne 15, 3) := by decide +kernel
theorem dd_xP_shareInCount_80 : decode prog_1_method_49_code 80 = .ok (.iload_n 2, 1) := by decide +kernel
theorem dd_xP_shareInCount_81 : decode prog_1_method_49_code 81 = .ok (.aload_n 0, 1) := by decide +kernel
theorem dd_xP_shareInCount_82 : decode prog_1_method_49_code 82 = .ok (.invokestatic 360, 3) := by decide +kernel
theorem dd_xP_shareInCount_85 : decode prog_1_method_49_code 85 = .ok (.if_icmp .ne 7, 3) := by decide +kernel
theorem dd_xP_shareInCount_88 : decode prog_1_method_49_code 88 = .ok (.iconst 1, 1) := by decide +kernel
theorem dd_xP_shareInCount_89 : decode prog_1_method_49_code 89 = .ok (.goto 4, 3) := by decide +kernel
theorem dd_xP_shareInCount_92 : decode prog_1_method_49_code 92 = .ok (.iconst 0, 1) := by decide +kernel
theorem dd_xP_shareInCount_93 : decode prog_1_method_49_code 93 = .ok (.ireturn, 1) := by decide +kernel
set_option maxHeartbeats 4000000 in
set_option maxRecDepth 100000 in
theorem kb_xP_shareInCount_b92 {p : Program} {l : Launch} {e : Env} {s : State} {m : MethodId} {args : Array Value} {below : List Frame} {meth : Method} {c : Code} {D : va_G} {ac : Nat → ClassId} {a0 : Nat} {gl : gl_T} {rF : Int32} {stF : st_S} {iT jT : Nat}
    (X : cx_ p s m args c prog_1_method_49_code 3 "PromiseVats" tb_ D cl_ (ty_ ac)) (hKs : kn_ D ac a0 gl s) (hlk : meth.locks = false) (hret : meth.sig.returnType = (Option.some FieldType.int)) (hnm : meth.name = "shareInCount") : wk_ p l e 2 44 s m args below meth c D cl_ ac a0 3 vb_i rF stF iT jT 92 (fun x : Unit => []) (fun x : Unit => []) (fun _ : Unit => xP_shareInCount_b92 gl) := by
  intro x st H locs cells slots i j ls hw hl h hci hcj
  have h : xP_shareInCount_b92 gl  st = some (rF, stF, i, j) := h
  unfold xP_shareInCount_b92 at h
  have hl : lh_ ls 3 [] := hl
  refine W.eq (g2 := F0 m 92 ls []) rfl ?_
  refine lv_iconst (v := (0 : Int32)) X.1 X.2.1 dd_xP_shareInCount_92 (by decide) ?_
  obtain ⟨rfl, rfl, rfl, rfl⟩ := st_r_some h
  exact rr_iret X hw hlk hret rfl hci hcj dd_xP_shareInCount_93
set_option maxHeartbeats 4000000 in
set_option maxRecDepth 100000 in
theorem kc_xP_shareInCount (l : Launch) (D : va_G) (ac : Nat → ClassId) (a0 : Nat) (gl : gl_T) (v0 : Option Nat) (v1 : Int32) (v2 : Int32) (st : st_S) (rF : Int32) (stF : st_S) (iT jT : Nat) (h : xP_shareInCount gl v0 v1 v2 st = some (rF, stF, iT, jT)) :
    ct_ l ⟨"PromiseVats", "shareInCount", "(LPromiseVats$Entity;II)I"⟩ (Cond.code ⟨"PromiseVats", "shareInCount", "(LPromiseVats$Entity;II)I"⟩ prog_1_method_49_code 3 (Option.some FieldType.int) :: tb_) 2 44 D cl_ ac a0 (kn_ D ac a0 gl) [(va_rf v0), (.int v1), (.int v2)] st (vb_i rF) stF iT jT := by
  refine ct_of (kn_ok D ac a0 gl) (plainFor_of_name (by decide +kernel)) (by simp [rf_cat, ic_cat]) (by simp) ?_
  intro p e s m args below meth c ls X hw hKs hlk hret hnm hl
  unfold xP_shareInCount at h
  have hl : lh_ ls 3 [(0, (va_rf v0)), (1, (.int v1)), (2, (.int v2))] := hl
  obtain ⟨z0, hz0⟩ : ∃ z : Nat, 0 = z := ⟨0, rfl⟩
  obtain ⟨z1, hz1⟩ : ∃ z : Nat, 0 = z := ⟨0, rfl⟩
  refine W.cs hz0 hz1 ?_
  have hci : z0 + iT = iT := by omega
  have hcj : z1 + jT = jT := by omega
  refine lv_iload_n X.1 X.2.1 dd_xP_shareInCount_0 rfl (lv_at hl.1 2 rfl) ?_
  refine lv_iconst (v := (3 : Int32)) X.1 X.2.1 dd_xP_shareInCount_1 (by decide) ?_
  by_cases hc2 : v2 = (3 : Int32)
  · rw [if_pos hc2] at h
    refine lv_icmp_ne (tgt := 20) X.1 X.2.1 dd_xP_shareInCount_2 (by decide) (fun z => absurd hc2 z) (fun _ => ?_)
    refine rr_aldn X dd_xP_shareInCount_5 rfl (lv_at hl.1 0 rfl) ?_
    obtain ⟨t1, ht1, h⟩ := st_g_some h
    refine rr_getq X hw ff_3_4_8 ht1 tw_328 (Or.inl rfl) dd_xP_shareInCount_6 ?_
    refine lv_iload_n X.1 X.2.1 dd_xP_shareInCount_9 rfl (lv_at hl.1 1 rfl) ?_
    obtain ⟨t2, ht2, h⟩ := st_g_some h
    refine rr_iald (t := 0) X hw rfl ht2 dd_xP_shareInCount_10 ?_
    by_cases hc11 : t2 ≤ 0
    · rw [if_pos hc11] at h
      refine lv_if_le (tgt := 18) X.1 X.2.1 dd_xP_shareInCount_11 (by decide) (fun _ => ?_) (fun z => absurd hc11 z)
      refine lv_iconst (v := (0 : Int32)) X.1 X.2.1 dd_xP_shareInCount_18 (by decide) ?_
      obtain ⟨rfl, rfl, rfl, rfl⟩ := st_r_some h
      exact rr_iret X hw hlk hret rfl hci hcj dd_xP_shareInCount_19
    · rw [if_neg hc11] at h
      refine lv_if_le (tgt := 18) X.1 X.2.1 dd_xP_shareInCount_11 (by decide) (fun z => absurd z hc11) (fun _ => ?_)
      refine lv_iconst (v := (1 : Int32)) X.1 X.2.1 dd_xP_shareInCount_14 (by decide) ?_
      refine lv_goto (tgt := 19) X.1 X.2.1 dd_xP_shareInCount_15 (by decide) ?_
      obtain ⟨rfl, rfl, rfl, rfl⟩ := st_r_some h
      exact rr_iret X hw hlk hret rfl hci hcj dd_xP_shareInCount_19
  · rw [if_neg hc2] at h
    refine lv_icmp_ne (tgt := 20) X.1 X.2.1 dd_xP_shareInCount_2 (by decide) (fun _ => ?_) (fun z => absurd z hc2)
    refine rr_aldn X dd_xP_shareInCount_20 rfl (lv_at hl.1 0 rfl) ?_
    obtain ⟨t3, ht3, h⟩ := st_g_some h
    refine rr_geti X hw ff_3_4_4 ht3 tw_196 (Or.inl rfl) dd_xP_shareInCount_21 ?_
    refine lv_iload_n X.1 X.2.1 dd_xP_shareInCount_24 rfl (lv_at hl.1 1 rfl) ?_
    by_cases hc25 : t3 = v1
    · rw [if_pos hc25] at h
      refine lv_icmp_eq (tgt := 30) X.1 X.2.1 dd_xP_shareInCount_25 (by decide) (fun _ => ?_) (fun z => absurd hc25 z)
      refine lv_iload_n X.1 X.2.1 dd_xP_shareInCount_30 rfl (lv_at hl.1 2 rfl) ?_
      by_cases hc31_4 : v2 = (4 : Int32)
      · rw [if_pos hc31_4] at h
        refine lv_tableIn (tgt := 56) (off := 25) X.1 X.2.1 dd_xP_shareInCount_31 (by rw [hc31_4]; decide) (by rw [hc31_4]; decide) (by rw [hc31_4]; decide) (by decide) ?_
        refine rr_aldn X dd_xP_shareInCount_56 rfl (lv_at hl.1 0 rfl) ?_
        refine lv_iconst (v := (1 : Int32)) X.1 X.2.1 dd_xP_shareInCount_57 (by decide) ?_
        obtain ⟨t12, ht12, h⟩ := st_g_some h
        obtain ⟨t4, t5, t6, t7, t8, t9, ht4, h, ei, ej⟩ := st_b_some h
        refine rr_callU (n := 1) (x := ⟨"PromiseVats$Entity", "unpaired", "(I)I"⟩) (owner := "PromiseVats$Entity") (As := [(.int (1 : Int32))]) (rest := []) X hw (kn_ok D ac a0 gl) hKs (kc_xE_unpaired l D ac a0 gl v0 (1 : Int32) _ _ _ _ _ ht4) tb_good tw_355 tw_16 tw_411 tw_358 (va_Decl.of (X.2.2.2.2.1 _ tw_356) (X.2.2.2.2.1 _ tw_355)) tw_356 se_28 ht12 (by decide +kernel) rfl (show 1 + 1 ≤ _ ∧ 8 + (4 + 11) + 21 ≤ _ from ⟨Nat.le_of_ble_eq_true rfl, Nat.le_of_ble_eq_true rfl⟩) (show z0 + t6 ≤ iT ∧ z1 + t7 ≤ jT from ⟨ar_1 hci ei, ar_1 hcj ej⟩) hl.1.1 (by simp [rf_cat, ic_cat]) rfl dd_xP_shareInCount_58 (sk := [(.int t4)]) rfl (fun H locs hw => ?_)
        have hci : z0 + t6 + t8 = iT := ar_2 hci ei
        have hcj : z1 + t7 + t9 = jT := ar_2 hcj ej
        clear ei ej
        generalize z0 + t6 = t10 at hci ⊢
        generalize z1 + t7 = t11 at hcj ⊢
        obtain ⟨rfl, rfl, rfl, rfl⟩ := st_r_some h
        exact rr_iret X hw hlk hret rfl hci hcj dd_xP_shareInCount_61
      · by_cases hc31_5 : v2 = (5 : Int32)
        · rw [if_neg hc31_4, if_pos hc31_5] at h
          refine lv_tableIn (tgt := 62) (off := 31) X.1 X.2.1 dd_xP_shareInCount_31 (by rw [hc31_5]; decide) (by rw [hc31_5]; decide) (by rw [hc31_5]; decide) (by decide) ?_
          refine rr_aldn X dd_xP_shareInCount_62 rfl (lv_at hl.1 0 rfl) ?_
          refine lv_iconst (v := (-1 : Int32)) X.1 X.2.1 dd_xP_shareInCount_63 (by decide) ?_
          obtain ⟨t21, ht21, h⟩ := st_g_some h
          obtain ⟨t13, t14, t15, t16, t17, t18, ht13, h, ei, ej⟩ := st_b_some h
          refine rr_callU (n := 1) (x := ⟨"PromiseVats$Entity", "unpaired", "(I)I"⟩) (owner := "PromiseVats$Entity") (As := [(.int (-1 : Int32))]) (rest := []) X hw (kn_ok D ac a0 gl) hKs (kc_xE_unpaired l D ac a0 gl v0 (-1 : Int32) _ _ _ _ _ ht13) tb_good tw_355 tw_16 tw_411 tw_358 (va_Decl.of (X.2.2.2.2.1 _ tw_356) (X.2.2.2.2.1 _ tw_355)) tw_356 se_28 ht21 (by decide +kernel) rfl (show 1 + 1 ≤ _ ∧ 8 + (4 + 11) + 21 ≤ _ from ⟨Nat.le_of_ble_eq_true rfl, Nat.le_of_ble_eq_true rfl⟩) (show z0 + t15 ≤ iT ∧ z1 + t16 ≤ jT from ⟨ar_1 hci ei, ar_1 hcj ej⟩) hl.1.1 (by simp [rf_cat, ic_cat]) rfl dd_xP_shareInCount_64 (sk := [(.int t13)]) rfl (fun H locs hw => ?_)
          have hci : z0 + t15 + t17 = iT := ar_2 hci ei
          have hcj : z1 + t16 + t18 = jT := ar_2 hcj ej
          clear ei ej
          generalize z0 + t15 = t19 at hci ⊢
          generalize z1 + t16 = t20 at hcj ⊢
          obtain ⟨rfl, rfl, rfl, rfl⟩ := st_r_some h
          exact rr_iret X hw hlk hret rfl hci hcj dd_xP_shareInCount_67
        · by_cases hc31_6 : v2 = (6 : Int32)
          · rw [if_neg hc31_4, if_neg hc31_5, if_pos hc31_6] at h
            refine lv_tableIn (tgt := 68) (off := 37) X.1 X.2.1 dd_xP_shareInCount_31 (by rw [hc31_6]; decide) (by rw [hc31_6]; decide) (by rw [hc31_6]; decide) (by decide) ?_
            refine rr_aldn X dd_xP_shareInCount_68 rfl (lv_at hl.1 0 rfl) ?_
            obtain ⟨t22, t23, t24, t25, t26, t27, ht22, h, ei, ej⟩ := st_b_some h
            refine rr_callS (n := 1) (As := [(va_rf v0)]) (rest := []) X hw (kn_ok D ac a0 gl) hKs (kc_xP_waitingAt l D ac a0 gl v0 _ _ _ _ _ ht22) tb_good tw_412 tw_91 tw_413 tw_414 (by decide +kernel) rfl (show 1 + 1 ≤ _ ∧ 8 + (2 + 11) + 20 ≤ _ from ⟨Nat.le_of_ble_eq_true rfl, Nat.le_of_ble_eq_true rfl⟩) (show z0 + t24 ≤ iT ∧ z1 + t25 ≤ jT from ⟨ar_1 hci ei, ar_1 hcj ej⟩) hl.1.1 (by simp [rf_cat, ic_cat]) rfl dd_xP_shareInCount_69 (sk := [(.int t22)]) rfl (fun H locs hw => ?_)
            have hci : z0 + t24 + t26 = iT := ar_2 hci ei
            have hcj : z1 + t25 + t27 = jT := ar_2 hcj ej
            clear ei ej
            generalize z0 + t24 = t28 at hci ⊢
            generalize z1 + t25 = t29 at hcj ⊢
            obtain ⟨rfl, rfl, rfl, rfl⟩ := st_r_some h
            exact rr_iret X hw hlk hret rfl hci hcj dd_xP_shareInCount_72
          · rw [if_neg hc31_4, if_neg hc31_5, if_neg hc31_6] at h
            have zn0 := lv_neT hc31_4 (show ((4 : Int32)).toInt = 4 by decide)
            have zn1 := lv_neT hc31_5 (show ((5 : Int32)).toInt = 5 by decide)
            have zn2 := lv_neT hc31_6 (show ((6 : Int32)).toInt = 6 by decide)
            refine lv_tableOut (tgt := 73) X.1 X.2.1 dd_xP_shareInCount_31 (by omega) (by decide) ?_
            refine rr_aldn X dd_xP_shareInCount_73 rfl (lv_at hl.1 0 rfl) ?_
            obtain ⟨t30, ht30, h⟩ := st_g_some h
            refine rr_geti X hw ff_3_4_5 ht30 tw_386 (Or.inl rfl) dd_xP_shareInCount_74 ?_
            by_cases hc77 : t30 = 0
            · rw [if_pos hc77] at h
              refine lv_if_ne (tgt := 92) X.1 X.2.1 dd_xP_shareInCount_77 (by decide) (fun z => absurd hc77 z) (fun _ => ?_)
              refine lv_iload_n X.1 X.2.1 dd_xP_shareInCount_80 rfl (lv_at hl.1 2 rfl) ?_
              refine rr_aldn X dd_xP_shareInCount_81 rfl (lv_at hl.1 0 rfl) ?_
              obtain ⟨t31, t32, t33, t34, t35, t36, ht31, h, ei, ej⟩ := st_b_some h
              refine rr_callS (n := 1) (As := [(va_rf v0)]) (rest := [(.int v2)]) X hw (kn_ok D ac a0 gl) hKs (kc_xP_kindOf l D ac a0 gl v0 _ _ _ _ _ ht31) tb_good tw_415 tw_91 tw_416 tw_417 (by decide +kernel) rfl (show 0 + 1 ≤ _ ∧ 8 + (2 + 11) + 0 ≤ _ from ⟨Nat.le_of_ble_eq_true rfl, Nat.le_of_ble_eq_true rfl⟩) (show z0 + t33 ≤ iT ∧ z1 + t34 ≤ jT from ⟨ar_1 hci ei, ar_1 hcj ej⟩) hl.1.1 (by simp [rf_cat, ic_cat]) rfl dd_xP_shareInCount_82 (sk := [(.int t31), (.int v2)]) rfl (fun H locs hw => ?_)
              have hci : z0 + t33 + t35 = iT := ar_2 hci ei
              have hcj : z1 + t34 + t36 = jT := ar_2 hcj ej
              clear ei ej
              generalize z0 + t33 = t37 at hci ⊢
              generalize z1 + t34 = t38 at hcj ⊢
              by_cases hc85 : v2 = t31
              · rw [if_pos hc85] at h
                refine lv_icmp_ne (tgt := 92) X.1 X.2.1 dd_xP_shareInCount_85 (by decide) (fun z => absurd hc85 z) (fun _ => ?_)
                refine lv_iconst (v := (1 : Int32)) X.1 X.2.1 dd_xP_shareInCount_88 (by decide) ?_
                refine lv_goto (tgt := 93) X.1 X.2.1 dd_xP_shareInCount_89 (by decide) ?_
                obtain ⟨rfl, rfl, rfl, rfl⟩ := st_r_some h
                exact rr_iret X hw hlk hret rfl hci hcj dd_xP_shareInCount_93
              · rw [if_neg hc85] at h
                refine lv_icmp_ne (tgt := 92) X.1 X.2.1 dd_xP_shareInCount_85 (by decide) (fun _ => ?_) (fun z => absurd z hc85)
                exact (kb_xP_shareInCount_b92 X hKs hlk hret hnm) () _ _ _ _ _ _ _ _ hw (lh_pk hl [] rfl) h hci hcj
            · rw [if_neg hc77] at h
              refine lv_if_ne (tgt := 92) X.1 X.2.1 dd_xP_shareInCount_77 (by decide) (fun _ => ?_) (fun z => absurd z hc77)
              exact (kb_xP_shareInCount_b92 X hKs hlk hret hnm) () _ _ _ _ _ _ _ _ hw (lh_pk hl [] rfl) h hci hcj
    · rw [if_neg hc25] at h
      refine lv_icmp_eq (tgt := 30) X.1 X.2.1 dd_xP_shareInCount_25 (by decide) (fun z => absurd z hc25) (fun _ => ?_)
      refine lv_iconst (v := (0 : Int32)) X.1 X.2.1 dd_xP_shareInCount_28 (by decide) ?_
      obtain ⟨rfl, rfl, rfl, rfl⟩ := st_r_some h
      exact rr_iret X hw hlk hret rfl hci hcj dd_xP_shareInCount_29
/-! PromiseVats.count(II)I -/
theorem dd_xP_count_0 : decode prog_1_method_11_code 0 = .ok (.aload_n 0, 1) := by decide +kernel
theorem dd_xP_count_1 : decode prog_1_method_11_code 1 = .ok (.iload_n 1, 1) := by decide +kernel
theorem dd_xP_count_2 : decode prog_1_method_11_code 2 = .ok (.invokevirtual 83, 3) := by decide +kernel
theorem dd_xP_count_5 : decode prog_1_method_11_code 5 = .ok (.ifCond .ne 5, 3) := by decide +kernel
theorem dd_xP_count_8 : decode prog_1_method_11_code 8 = .ok (.iconst 0, 1) := by decide +kernel
theorem dd_xP_count_9 : decode prog_1_method_11_code 9 = .ok (.ireturn, 1) := by decide +kernel
theorem dd_xP_count_10 : decode prog_1_method_11_code 10 = .ok (.iload_n 2, 1) := by decide +kernel
theorem dd_xP_count_11 : decode prog_1_method_11_code 11 = .ok (.bipush 7, 2) := by decide +kernel
theorem dd_xP_count_13 : decode prog_1_method_11_code 13 = .ok (.if_icmp .ne 13, 3) := by decide +kernel
theorem dd_xP_count_16 : decode prog_1_method_11_code 16 = .ok (.aload_n 0, 1) := by decide +kernel
theorem dd_xP_count_17 : decode prog_1_method_11_code 17 = .ok (.getfield 20, 3) := by decide +kernel
theorem dd_xP_count_20 : decode prog_1_method_11_code 20 = .ok (.iload_n 1, 1) := by decide +kernel
theorem dd_xP_count_21 : decode prog_1_method_11_code 21 = .ok (.aaload, 1) := by decide +kernel
theorem dd_xP_count_22 : decode prog_1_method_11_code 22 = .ok (.getfield 203, 3) := by decide +kernel
theorem dd_xP_count_25 : decode prog_1_method_11_code 25 = .ok (.ireturn, 1) := by decide +kernel
theorem dd_xP_count_26 : decode prog_1_method_11_code 26 = .ok (.iconst 0, 1) := by decide +kernel
theorem dd_xP_count_27 : decode prog_1_method_11_code 27 = .ok (.istore_n 3, 1) := by decide +kernel
theorem dd_xP_count_28 : decode prog_1_method_11_code 28 = .ok (.iconst 1, 1) := by decide +kernel
theorem dd_xP_count_29 : decode prog_1_method_11_code 29 = .ok (.istore 4, 2) := by decide +kernel
theorem dd_xP_count_31 : decode prog_1_method_11_code 31 = .ok (.iload 4, 2) := by decide +kernel
theorem dd_xP_count_33 : decode prog_1_method_11_code 33 = .ok (.aload_n 0, 1) := by decide +kernel
theorem dd_xP_count_34 : decode prog_1_method_11_code 34 = .ok (.getfield 32, 3) := by decide +kernel
theorem dd_xP_count_37 : decode prog_1_method_11_code 37 = .ok (.arraylength, 1) := by decide +kernel
theorem dd_xP_count_38 : decode prog_1_method_11_code 38 = .ok (.if_icmp .ge 34, 3) := by decide +kernel
theorem dd_xP_count_41 : decode prog_1_method_11_code 41 = .ok (.aload_n 0, 1) := by decide +kernel
theorem dd_xP_count_42 : decode prog_1_method_11_code 42 = .ok (.getfield 32, 3) := by decide +kernel
theorem dd_xP_count_45 : decode prog_1_method_11_code 45 = .ok (.iload 4, 2) := by decide +kernel
theorem dd_xP_count_47 : decode prog_1_method_11_code 47 = .ok (.aaload, 1) := by decide +kernel
theorem dd_xP_count_48 : decode prog_1_method_11_code 48 = .ok (.ifnull 18, 3) := by decide +kernel
theorem dd_xP_count_51 : decode prog_1_method_11_code 51 = .ok (.iload_n 3, 1) := by decide +kernel
theorem dd_xP_count_52 : decode prog_1_method_11_code 52 = .ok (.aload_n 0, 1) := by decide +kernel
theorem dd_xP_count_53 : decode prog_1_method_11_code 53 = .ok (.getfield 32, 3) := by decide +kernel
theorem dd_xP_count_56 : decode prog_1_method_11_code 56 = .ok (.iload 4, 2) := by decide +kernel
theorem dd_xP_count_58 : decode prog_1_method_11_code 58 = .ok (.aaload, 1) := by decide +kernel
theorem dd_xP_count_59 : decode prog_1_method_11_code 59 = .ok (.iload_n 1, 1) := by decide +kernel
theorem dd_xP_count_60 : decode prog_1_method_11_code 60 = .ok (.iload_n 2, 1) := by decide +kernel
theorem dd_xP_count_61 : decode prog_1_method_11_code 61 = .ok (.invokestatic 206, 3) := by decide +kernel
theorem dd_xP_count_64 : decode prog_1_method_11_code 64 = .ok (.iadd, 1) := by decide +kernel
theorem dd_xP_count_65 : decode prog_1_method_11_code 65 = .ok (.istore_n 3, 1) := by decide +kernel
theorem dd_xP_count_66 : decode prog_1_method_11_code 66 = .ok (.iinc 4 1, 3) := by decide +kernel
theorem dd_xP_count_69 : decode prog_1_method_11_code 69 = .ok (.goto (-38), 3) := by decide +kernel
theorem dd_xP_count_72 : decode prog_1_method_11_code 72 = .ok (.iload_n 3, 1) := by decide +kernel
theorem dd_xP_count_73 : decode prog_1_method_11_code 73 = .ok (.ireturn, 1) := by decide +kernel
set_option maxHeartbeats 4000000 in
set_option maxRecDepth 100000 in
theorem kb_xP_count_b66 {p : Program} {l : Launch} {e : Env} {s : State} {m : MethodId} {args : Array Value} {below : List Frame} {meth : Method} {c : Code} {D : va_G} {ac : Nat → ClassId} {a0 : Nat} {gl : gl_T} {rF : Int32} {stF : st_S} {iT jT : Nat} {rec31 : Option Nat × Int32 × Int32 × Int32 × Int32 → st_M (Int32)}
    (X : cx_ p s m args c prog_1_method_11_code 5 "PromiseVats" tb_ D cl_ (ty_ ac)) (hKs : kn_ D ac a0 gl s) (hlk : meth.locks = false) (hret : meth.sig.returnType = (Option.some FieldType.int)) (hnm : meth.name = "count") (hr31 : wk_ p l e 3 66 s m args below meth c D cl_ ac a0 5 vb_i rF stF iT jT 31 (fun x : Option Nat × Int32 × Int32 × Int32 × Int32 => [(0, (va_rf x.1)), (1, (.int x.2.1)), (2, (.int x.2.2.1)), (3, (.int x.2.2.2.1)), (4, (.int x.2.2.2.2))]) (fun x : Option Nat × Int32 × Int32 × Int32 × Int32 => []) rec31) : wk_ p l e 3 66 s m args below meth c D cl_ ac a0 5 vb_i rF stF iT jT 66 (fun x : Option Nat × Int32 × Int32 × Int32 × Int32 => [(0, (va_rf x.1)), (1, (.int x.2.1)), (2, (.int x.2.2.1)), (3, (.int x.2.2.2.1)), (4, (.int x.2.2.2.2))]) (fun x : Option Nat × Int32 × Int32 × Int32 × Int32 => []) (fun x : Option Nat × Int32 × Int32 × Int32 × Int32 => xP_count_b66 gl rec31 x.1 x.2.1 x.2.2.1 x.2.2.2.1 x.2.2.2.2) := by
  intro x st H locs cells slots i j ls hw hl h hci hcj
  obtain ⟨p0, p1, p2, p3, p4⟩ := x
  have h : xP_count_b66 gl rec31 p0 p1 p2 p3 p4 st = some (rF, stF, i, j) := h
  unfold xP_count_b66 at h
  have hl : lh_ ls 5 [(0, (va_rf p0)), (1, (.int p1)), (2, (.int p2)), (3, (.int p3)), (4, (.int p4))] := hl
  refine W.eq (g2 := F0 m 66 ls []) rfl ?_
  refine rr_iinc (k := 4) (v := (p4 + (1 : Int32))) (lv' := [(4, (.int (p4 + (1 : Int32)))), (0, (va_rf p0)), (1, (.int p1)), (2, (.int p2)), (3, (.int p3))]) X dd_xP_count_66 hl rfl (by rw [show Int32.ofInt (1) = (1 : Int32) from by decide]) (by decide) rfl (fun ls hl => ?_)
  refine lv_goto (tgt := 31) X.1 X.2.1 dd_xP_count_69 (by decide) ?_
  exact hr31 (p0, p1, p2, p3, (p4 + (1 : Int32))) _ _ _ _ _ _ _ _ hw (lh_pk hl [1, 2, 3, 4, 0] rfl) h hci hcj
set_option maxHeartbeats 4000000 in
set_option maxRecDepth 100000 in
theorem kb_xP_count_b31 {p : Program} {l : Launch} {e : Env} {s : State} {m : MethodId} {args : Array Value} {below : List Frame} {meth : Method} {c : Code} {D : va_G} {ac : Nat → ClassId} {a0 : Nat} {gl : gl_T} {rF : Int32} {stF : st_S} {iT jT : Nat}
    (X : cx_ p s m args c prog_1_method_11_code 5 "PromiseVats" tb_ D cl_ (ty_ ac)) (hKs : kn_ D ac a0 gl s) (hlk : meth.locks = false) (hret : meth.sig.returnType = (Option.some FieldType.int)) (hnm : meth.name = "count") : wk_ p l e 3 66 s m args below meth c D cl_ ac a0 5 vb_i rF stF iT jT 31 (fun x : Option Nat × Int32 × Int32 × Int32 × Int32 => [(0, (va_rf x.1)), (1, (.int x.2.1)), (2, (.int x.2.2.1)), (3, (.int x.2.2.2.1)), (4, (.int x.2.2.2.2))]) (fun x : Option Nat × Int32 × Int32 × Int32 × Int32 => []) (st_it (fun rec31 => (fun x : Option Nat × Int32 × Int32 × Int32 × Int32 => xP_count_b31 gl rec31 x.1 x.2.1 x.2.2.1 x.2.2.2.1 x.2.2.2.2)) fu_) := by
  refine wk_it ?_ _
  intro rec31 hr31 x st H locs cells slots i j ls hw hl h hci hcj
  obtain ⟨p0, p1, p2, p3, p4⟩ := x
  have h : xP_count_b31 gl rec31 p0 p1 p2 p3 p4 st = some (rF, stF, i, j) := h
  unfold xP_count_b31 at h
  have hl : lh_ ls 5 [(0, (va_rf p0)), (1, (.int p1)), (2, (.int p2)), (3, (.int p3)), (4, (.int p4))] := hl
  refine W.eq (g2 := F0 m 31 ls []) rfl ?_
  refine lv_iload X.1 X.2.1 dd_xP_count_31 (lv_at hl.1 4 rfl) ?_
  refine rr_aldn X dd_xP_count_33 rfl (lv_at hl.1 0 rfl) ?_
  obtain ⟨t13, ht13, h⟩ := st_g_some h
  refine rr_getq X hw ff_0_2 ht13 tw_64 (Or.inl rfl) dd_xP_count_34 ?_
  obtain ⟨t14, ht14, h⟩ := st_g_some h
  refine rr_alen X hw (tl_6 ac) ht14 dd_xP_count_37 ?_
  by_cases hc38 : t14 ≤ p4
  · rw [if_pos hc38] at h
    refine lv_icmp_ge (tgt := 72) X.1 X.2.1 dd_xP_count_38 (by decide) (fun _ => ?_) (fun z => absurd hc38 z)
    refine lv_iload_n X.1 X.2.1 dd_xP_count_72 rfl (lv_at hl.1 3 rfl) ?_
    obtain ⟨rfl, rfl, rfl, rfl⟩ := st_r_some h
    exact rr_iret X hw hlk hret rfl hci hcj dd_xP_count_73
  · rw [if_neg hc38] at h
    refine lv_icmp_ge (tgt := 72) X.1 X.2.1 dd_xP_count_38 (by decide) (fun z => absurd z hc38) (fun _ => ?_)
    refine rr_aldn X dd_xP_count_41 rfl (lv_at hl.1 0 rfl) ?_
    obtain ⟨t15, ht15, h⟩ := st_g_some h
    refine rr_getq X hw ff_0_2 ht15 tw_64 (Or.inl rfl) dd_xP_count_42 ?_
    refine lv_iload X.1 X.2.1 dd_xP_count_45 (lv_at hl.1 4 rfl) ?_
    obtain ⟨t16, ht16, h⟩ := st_g_some h
    refine rr_aald X hw (tq_6 ac) ht16 dd_xP_count_47 ?_
    by_cases hc48 : t16 = none
    · rw [if_pos hc48] at h
      refine rr_ifnull (tgt := 66) X dd_xP_count_48 (by decide) (fun _ => ?_) (fun z => absurd hc48 z)
      exact (kb_xP_count_b66 X hKs hlk hret hnm hr31) (p0, p1, p2, p3, p4) _ _ _ _ _ _ _ _ hw (lh_pk hl [0, 1, 2, 3, 4] rfl) h hci hcj
    · rw [if_neg hc48] at h
      refine rr_ifnull (tgt := 66) X dd_xP_count_48 (by decide) (fun z => absurd z hc48) (fun _ => ?_)
      refine lv_iload_n X.1 X.2.1 dd_xP_count_51 rfl (lv_at hl.1 3 rfl) ?_
      refine rr_aldn X dd_xP_count_52 rfl (lv_at hl.1 0 rfl) ?_
      obtain ⟨t17, ht17, h⟩ := st_g_some h
      refine rr_getq X hw ff_0_2 ht17 tw_64 (Or.inl rfl) dd_xP_count_53 ?_
      refine lv_iload X.1 X.2.1 dd_xP_count_56 (lv_at hl.1 4 rfl) ?_
      obtain ⟨t18, ht18, h⟩ := st_g_some h
      refine rr_aald X hw (tq_6 ac) ht18 dd_xP_count_58 ?_
      refine lv_iload_n X.1 X.2.1 dd_xP_count_59 rfl (lv_at hl.1 1 rfl) ?_
      refine lv_iload_n X.1 X.2.1 dd_xP_count_60 rfl (lv_at hl.1 2 rfl) ?_
      obtain ⟨t19, t20, t21, t22, t23, t24, ht19, h, ei, ej⟩ := st_b_some h
      refine rr_callS (n := 3) (As := [(va_rf t18), (.int p1), (.int p2)]) (rest := [(.int p3)]) X hw (kn_ok D ac a0 gl) hKs (kc_xP_shareInCount l D ac a0 gl t18 p1 p2 _ _ _ _ _ ht19) tb_good tw_419 tw_91 tw_420 tw_421 (by decide +kernel) rfl (show 2 + 1 ≤ _ ∧ 8 + (3 + 11) + 44 ≤ _ from ⟨Nat.le_of_ble_eq_true rfl, Nat.le_of_ble_eq_true rfl⟩) (show cells + t21 ≤ iT ∧ slots + t22 ≤ jT from ⟨ar_1 hci ei, ar_1 hcj ej⟩) hl.1.1 (by simp [rf_cat, ic_cat]) rfl dd_xP_count_61 (sk := [(.int t19), (.int p3)]) rfl (fun H locs hw => ?_)
      have hci : cells + t21 + t23 = iT := ar_2 hci ei
      have hcj : slots + t22 + t24 = jT := ar_2 hcj ej
      clear ei ej
      generalize cells + t21 = t25 at hci ⊢
      generalize slots + t22 = t26 at hcj ⊢
      refine lv_iadd X.1 X.2.1 dd_xP_count_64 ?_
      refine rr_istn (lv' := [(3, (.int (p3 + t19))), (0, (va_rf p0)), (1, (.int p1)), (2, (.int p2)), (4, (.int p4))]) X dd_xP_count_65 rfl hl (by decide) rfl (fun ls hl => ?_)
      exact (kb_xP_count_b66 X hKs hlk hret hnm hr31) (p0, p1, p2, (p3 + t19), p4) _ _ _ _ _ _ _ _ hw (lh_pk hl [1, 2, 3, 0, 4] rfl) h hci hcj
set_option maxHeartbeats 4000000 in
set_option maxRecDepth 100000 in
theorem kc_xP_count (l : Launch) (D : va_G) (ac : Nat → ClassId) (a0 : Nat) (gl : gl_T) (v0 : Option Nat) (v1 : Int32) (v2 : Int32) (st : st_S) (rF : Int32) (stF : st_S) (iT jT : Nat) (h : xP_count gl v0 v1 v2 st = some (rF, stF, iT, jT)) :
    ct_ l ⟨"PromiseVats", "count", "(II)I"⟩ (Cond.code ⟨"PromiseVats", "count", "(II)I"⟩ prog_1_method_11_code 5 (Option.some FieldType.int) :: tb_) 3 66 D cl_ ac a0 (kn_ D ac a0 gl) [(va_rf v0), (.int v1), (.int v2)] st (vb_i rF) stF iT jT := by
  refine ct_of (kn_ok D ac a0 gl) (plainFor_of_name (by decide +kernel)) (by simp [rf_cat, ic_cat]) (by simp) ?_
  intro p e s m args below meth c ls X hw hKs hlk hret hnm hl
  unfold xP_count at h
  have hl : lh_ ls 5 [(0, (va_rf v0)), (1, (.int v1)), (2, (.int v2))] := hl
  obtain ⟨z0, hz0⟩ : ∃ z : Nat, 0 = z := ⟨0, rfl⟩
  obtain ⟨z1, hz1⟩ : ∃ z : Nat, 0 = z := ⟨0, rfl⟩
  refine W.cs hz0 hz1 ?_
  have hci : z0 + iT = iT := by omega
  have hcj : z1 + jT = jT := by omega
  refine rr_aldn X dd_xP_count_0 rfl (lv_at hl.1 0 rfl) ?_
  refine lv_iload_n X.1 X.2.1 dd_xP_count_1 rfl (lv_at hl.1 1 rfl) ?_
  obtain ⟨t12, ht12, h⟩ := st_g_some h
  obtain ⟨t1, t2, t3, t4, t5, t6, ht1, h, ei, ej⟩ := st_b_some h
  refine rr_callV (n := 1) (As := [(.int v1)]) (rest := []) X hw (kn_ok D ac a0 gl) hKs (kc_xP_isVat l D ac a0 gl v0 v1 _ _ _ _ _ ht1) tb_good tw_110 tw_91 tw_111 tw_112 se_0 ht12 (by decide +kernel) rfl (show 0 + 1 ≤ _ ∧ 8 + (2 + 11) + 0 ≤ _ from ⟨Nat.le_of_ble_eq_true rfl, Nat.le_of_ble_eq_true rfl⟩) (show z0 + t3 ≤ iT ∧ z1 + t4 ≤ jT from ⟨ar_1 hci ei, ar_1 hcj ej⟩) hl.1.1 (by simp [rf_cat, ic_cat]) rfl dd_xP_count_2 (sk := [(.int t1)]) rfl (fun H locs hw => ?_)
  have hci : z0 + t3 + t5 = iT := ar_2 hci ei
  have hcj : z1 + t4 + t6 = jT := ar_2 hcj ej
  clear ei ej
  generalize z0 + t3 = t7 at hci ⊢
  generalize z1 + t4 = t8 at hcj ⊢
  by_cases hc5 : t1 = 0
  · rw [if_pos hc5] at h
    refine lv_if_ne (tgt := 10) X.1 X.2.1 dd_xP_count_5 (by decide) (fun z => absurd hc5 z) (fun _ => ?_)
    refine lv_iconst (v := (0 : Int32)) X.1 X.2.1 dd_xP_count_8 (by decide) ?_
    obtain ⟨rfl, rfl, rfl, rfl⟩ := st_r_some h
    exact rr_iret X hw hlk hret rfl hci hcj dd_xP_count_9
  · rw [if_neg hc5] at h
    refine lv_if_ne (tgt := 10) X.1 X.2.1 dd_xP_count_5 (by decide) (fun _ => ?_) (fun z => absurd z hc5)
    refine lv_iload_n X.1 X.2.1 dd_xP_count_10 rfl (lv_at hl.1 2 rfl) ?_
    refine lv_bipush (v := (7 : Int32)) X.1 X.2.1 dd_xP_count_11 (by decide) ?_
    by_cases hc13 : v2 = (7 : Int32)
    · rw [if_pos hc13] at h
      refine lv_icmp_ne (tgt := 26) X.1 X.2.1 dd_xP_count_13 (by decide) (fun z => absurd hc13 z) (fun _ => ?_)
      refine rr_aldn X dd_xP_count_16 rfl (lv_at hl.1 0 rfl) ?_
      obtain ⟨t9, ht9, h⟩ := st_g_some h
      refine rr_getq X hw ff_0_0 ht9 tw_66 (Or.inl rfl) dd_xP_count_17 ?_
      refine lv_iload_n X.1 X.2.1 dd_xP_count_20 rfl (lv_at hl.1 1 rfl) ?_
      obtain ⟨t10, ht10, h⟩ := st_g_some h
      refine rr_aald X hw (tq_4 ac) ht10 dd_xP_count_21 ?_
      obtain ⟨t11, ht11, h⟩ := st_g_some h
      refine rr_geti X hw ff_5_4 ht11 tw_418 (Or.inl rfl) dd_xP_count_22 ?_
      obtain ⟨rfl, rfl, rfl, rfl⟩ := st_r_some h
      exact rr_iret X hw hlk hret rfl hci hcj dd_xP_count_25
    · rw [if_neg hc13] at h
      refine lv_icmp_ne (tgt := 26) X.1 X.2.1 dd_xP_count_13 (by decide) (fun _ => ?_) (fun z => absurd z hc13)
      refine lv_iconst (v := (0 : Int32)) X.1 X.2.1 dd_xP_count_26 (by decide) ?_
      refine rr_istn (lv' := [(3, (.int (0 : Int32))), (0, (va_rf v0)), (1, (.int v1)), (2, (.int v2))]) X dd_xP_count_27 rfl hl (by decide) rfl (fun ls hl => ?_)
      refine lv_iconst (v := (1 : Int32)) X.1 X.2.1 dd_xP_count_28 (by decide) ?_
      refine rr_ist (lv' := [(4, (.int (1 : Int32))), (3, (.int (0 : Int32))), (0, (va_rf v0)), (1, (.int v1)), (2, (.int v2))]) X dd_xP_count_29 hl (by decide) rfl (fun ls hl => ?_)
      exact (kb_xP_count_b31 X hKs hlk hret hnm) (v0, v1, v2, (0 : Int32), (1 : Int32)) _ _ _ _ _ _ _ _ hw (lh_pk hl [2, 3, 4, 1, 0] rfl) h hci hcj
/-! PromiseVats.madeEntity(I)LPromiseVats$Entity; -/
theorem dd_xP_madeEntity_0 : decode prog_1_method_23_code 0 = .ok (.iload_n 1, 1) := by decide +kernel
theorem dd_xP_madeEntity_1 : decode prog_1_method_23_code 1 = .ok (.ifCond .lt 21, 3) := by decide +kernel
theorem dd_xP_madeEntity_4 : decode prog_1_method_23_code 4 = .ok (.iload_n 1, 1) := by decide +kernel
theorem dd_xP_madeEntity_5 : decode prog_1_method_23_code 5 = .ok (.aload_n 0, 1) := by decide +kernel
theorem dd_xP_madeEntity_6 : decode prog_1_method_23_code 6 = .ok (.getfield 32, 3) := by decide +kernel
theorem dd_xP_madeEntity_9 : decode prog_1_method_23_code 9 = .ok (.arraylength, 1) := by decide +kernel
theorem dd_xP_madeEntity_10 : decode prog_1_method_23_code 10 = .ok (.if_icmp .ge 12, 3) := by decide +kernel
theorem dd_xP_madeEntity_13 : decode prog_1_method_23_code 13 = .ok (.aload_n 0, 1) := by decide +kernel
theorem dd_xP_madeEntity_14 : decode prog_1_method_23_code 14 = .ok (.getfield 32, 3) := by decide +kernel
theorem dd_xP_madeEntity_17 : decode prog_1_method_23_code 17 = .ok (.iload_n 1, 1) := by decide +kernel
theorem dd_xP_madeEntity_18 : decode prog_1_method_23_code 18 = .ok (.aaload, 1) := by decide +kernel
theorem dd_xP_madeEntity_19 : decode prog_1_method_23_code 19 = .ok (.goto 4, 3) := by decide +kernel
theorem dd_xP_madeEntity_22 : decode prog_1_method_23_code 22 = .ok (.aconst_null, 1) := by decide +kernel
theorem dd_xP_madeEntity_23 : decode prog_1_method_23_code 23 = .ok (.areturn, 1) := by decide +kernel
set_option maxHeartbeats 4000000 in
set_option maxRecDepth 100000 in
theorem kb_xP_madeEntity_b22 {p : Program} {l : Launch} {e : Env} {s : State} {m : MethodId} {args : Array Value} {below : List Frame} {meth : Method} {c : Code} {D : va_G} {ac : Nat → ClassId} {a0 : Nat} {gl : gl_T} {rF : Option Nat} {stF : st_S} {iT jT : Nat}
    (X : cx_ p s m args c prog_1_method_23_code 2 "PromiseVats" tb_ D cl_ (ty_ ac)) (hKs : kn_ D ac a0 gl s) (hlk : meth.locks = false) (hret : meth.sig.returnType = (Option.some (FieldType.object "PromiseVats$Entity"))) (hnm : meth.name = "madeEntity") : wk_ p l e 0 0 s m args below meth c D cl_ ac a0 2 vb_q rF stF iT jT 22 (fun x : Unit => []) (fun x : Unit => []) (fun _ : Unit => xP_madeEntity_b22 gl) := by
  intro x st H locs cells slots i j ls hw hl h hci hcj
  have h : xP_madeEntity_b22 gl  st = some (rF, stF, i, j) := h
  unfold xP_madeEntity_b22 at h
  have hl : lh_ ls 2 [] := hl
  refine W.eq (g2 := F0 m 22 ls []) rfl ?_
  refine rr_null X dd_xP_madeEntity_22 ?_
  obtain ⟨rfl, rfl, rfl, rfl⟩ := st_r_some h
  exact rr_aret X hw hlk hret (Or.inl ⟨_, rfl⟩) hci hcj dd_xP_madeEntity_23
set_option maxHeartbeats 4000000 in
set_option maxRecDepth 100000 in
theorem kc_xP_madeEntity (l : Launch) (D : va_G) (ac : Nat → ClassId) (a0 : Nat) (gl : gl_T) (v0 : Option Nat) (v1 : Int32) (st : st_S) (rF : Option Nat) (stF : st_S) (iT jT : Nat) (h : xP_madeEntity gl v0 v1 st = some (rF, stF, iT, jT)) :
    ct_ l ⟨"PromiseVats", "madeEntity", "(I)LPromiseVats$Entity;"⟩ (Cond.code ⟨"PromiseVats", "madeEntity", "(I)LPromiseVats$Entity;"⟩ prog_1_method_23_code 2 (Option.some (FieldType.object "PromiseVats$Entity")) :: tb_) 0 0 D cl_ ac a0 (kn_ D ac a0 gl) [(va_rf v0), (.int v1)] st (vb_q rF) stF iT jT := by
  refine ct_of (kn_ok D ac a0 gl) (plainFor_of_name (by decide +kernel)) (by simp [rf_cat, ic_cat]) (by simp) ?_
  intro p e s m args below meth c ls X hw hKs hlk hret hnm hl
  unfold xP_madeEntity at h
  have hl : lh_ ls 2 [(0, (va_rf v0)), (1, (.int v1))] := hl
  obtain ⟨z0, hz0⟩ : ∃ z : Nat, 0 = z := ⟨0, rfl⟩
  obtain ⟨z1, hz1⟩ : ∃ z : Nat, 0 = z := ⟨0, rfl⟩
  refine W.cs hz0 hz1 ?_
  have hci : z0 + iT = iT := by omega
  have hcj : z1 + jT = jT := by omega
  refine lv_iload_n X.1 X.2.1 dd_xP_madeEntity_0 rfl (lv_at hl.1 1 rfl) ?_
  by_cases hc1 : v1 < 0
  · rw [if_pos hc1] at h
    refine lv_if_lt (tgt := 22) X.1 X.2.1 dd_xP_madeEntity_1 (by decide) (fun _ => ?_) (fun z => absurd hc1 z)
    exact (kb_xP_madeEntity_b22 X hKs hlk hret hnm) () _ _ _ _ _ _ _ _ hw (lh_pk hl [] rfl) h hci hcj
  · rw [if_neg hc1] at h
    refine lv_if_lt (tgt := 22) X.1 X.2.1 dd_xP_madeEntity_1 (by decide) (fun z => absurd z hc1) (fun _ => ?_)
    refine lv_iload_n X.1 X.2.1 dd_xP_madeEntity_4 rfl (lv_at hl.1 1 rfl) ?_
    refine rr_aldn X dd_xP_madeEntity_5 rfl (lv_at hl.1 0 rfl) ?_
    obtain ⟨t1, ht1, h⟩ := st_g_some h
    refine rr_getq X hw ff_0_2 ht1 tw_64 (Or.inl rfl) dd_xP_madeEntity_6 ?_
    obtain ⟨t2, ht2, h⟩ := st_g_some h
    refine rr_alen X hw (tl_6 ac) ht2 dd_xP_madeEntity_9 ?_
    by_cases hc10 : t2 ≤ v1
    · rw [if_pos hc10] at h
      refine lv_icmp_ge (tgt := 22) X.1 X.2.1 dd_xP_madeEntity_10 (by decide) (fun _ => ?_) (fun z => absurd hc10 z)
      exact (kb_xP_madeEntity_b22 X hKs hlk hret hnm) () _ _ _ _ _ _ _ _ hw (lh_pk hl [] rfl) h hci hcj
    · rw [if_neg hc10] at h
      refine lv_icmp_ge (tgt := 22) X.1 X.2.1 dd_xP_madeEntity_10 (by decide) (fun z => absurd z hc10) (fun _ => ?_)
      refine rr_aldn X dd_xP_madeEntity_13 rfl (lv_at hl.1 0 rfl) ?_
      obtain ⟨t3, ht3, h⟩ := st_g_some h
      refine rr_getq X hw ff_0_2 ht3 tw_64 (Or.inl rfl) dd_xP_madeEntity_14 ?_
      refine lv_iload_n X.1 X.2.1 dd_xP_madeEntity_17 rfl (lv_at hl.1 1 rfl) ?_
      obtain ⟨t4, ht4, h⟩ := st_g_some h
      refine rr_aald X hw (tq_6 ac) ht4 dd_xP_madeEntity_18 ?_
      refine lv_goto (tgt := 23) X.1 X.2.1 dd_xP_madeEntity_19 (by decide) ?_
      obtain ⟨rfl, rfl, rfl, rfl⟩ := st_r_some h
      exact rr_aret X hw hlk hret (Or.inl ⟨_, rfl⟩) hci hcj dd_xP_madeEntity_23
