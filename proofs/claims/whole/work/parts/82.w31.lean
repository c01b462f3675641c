/-! PromiseVatsModel.give(III)Z -/
theorem dd_mm_give_0 : decode prog_12_method_21_code 0 = .ok (.aload_n 0, 1) := by decide +kernel
theorem dd_mm_give_1 : decode prog_12_method_21_code 1 = .ok (.iload_n 1, 1) := by decide +kernel
theorem dd_mm_give_2 : decode prog_12_method_21_code 2 = .ok (.invokevirtual 115, 3) := by decide +kernel
theorem dd_mm_give_5 : decode prog_12_method_21_code 5 = .ok (.ifCond .eq 20, 3) := by decide +kernel
theorem dd_mm_give_8 : decode prog_12_method_21_code 8 = .ok (.aload_n 0, 1) := by decide +kernel
theorem dd_mm_give_9 : decode prog_12_method_21_code 9 = .ok (.iload_n 3, 1) := by decide +kernel
theorem dd_mm_give_10 : decode prog_12_method_21_code 10 = .ok (.invokevirtual 115, 3) := by decide +kernel
theorem dd_mm_give_13 : decode prog_12_method_21_code 13 = .ok (.ifCond .eq 12, 3) := by decide +kernel
theorem dd_mm_give_16 : decode prog_12_method_21_code 16 = .ok (.iload_n 2, 1) := by decide +kernel
theorem dd_mm_give_17 : decode prog_12_method_21_code 17 = .ok (.ifCond .lt 8, 3) := by decide +kernel
theorem dd_mm_give_20 : decode prog_12_method_21_code 20 = .ok (.iload_n 2, 1) := by decide +kernel
theorem dd_mm_give_21 : decode prog_12_method_21_code 21 = .ok (.iconst 3, 1) := by decide +kernel
theorem dd_mm_give_22 : decode prog_12_method_21_code 22 = .ok (.if_icmp .le 5, 3) := by decide +kernel
theorem dd_mm_give_25 : decode prog_12_method_21_code 25 = .ok (.iconst 0, 1) := by decide +kernel
theorem dd_mm_give_26 : decode prog_12_method_21_code 26 = .ok (.ireturn, 1) := by decide +kernel
theorem dd_mm_give_27 : decode prog_12_method_21_code 27 = .ok (.aload_n 0, 1) := by decide +kernel
theorem dd_mm_give_28 : decode prog_12_method_21_code 28 = .ok (.getfield 42, 3) := by decide +kernel
theorem dd_mm_give_31 : decode prog_12_method_21_code 31 = .ok (.iconst 4, 1) := by decide +kernel
theorem dd_mm_give_32 : decode prog_12_method_21_code 32 = .ok (.iload_n 1, 1) := by decide +kernel
theorem dd_mm_give_33 : decode prog_12_method_21_code 33 = .ok (.iconst 1, 1) := by decide +kernel
theorem dd_mm_give_34 : decode prog_12_method_21_code 34 = .ok (.iadd, 1) := by decide +kernel
theorem dd_mm_give_35 : decode prog_12_method_21_code 35 = .ok (.imul, 1) := by decide +kernel
theorem dd_mm_give_36 : decode prog_12_method_21_code 36 = .ok (.iload_n 2, 1) := by decide +kernel
theorem dd_mm_give_37 : decode prog_12_method_21_code 37 = .ok (.iadd, 1) := by decide +kernel
theorem dd_mm_give_38 : decode prog_12_method_21_code 38 = .ok (.iload_n 3, 1) := by decide +kernel
theorem dd_mm_give_39 : decode prog_12_method_21_code 39 = .ok (.iconst 1, 1) := by decide +kernel
theorem dd_mm_give_40 : decode prog_12_method_21_code 40 = .ok (.iadd, 1) := by decide +kernel
theorem dd_mm_give_41 : decode prog_12_method_21_code 41 = .ok (.iastore, 1) := by decide +kernel
theorem dd_mm_give_42 : decode prog_12_method_21_code 42 = .ok (.iload_n 1, 1) := by decide +kernel
theorem dd_mm_give_43 : decode prog_12_method_21_code 43 = .ok (.iload_n 3, 1) := by decide +kernel
theorem dd_mm_give_44 : decode prog_12_method_21_code 44 = .ok (.if_icmp .eq 35, 3) := by decide +kernel
theorem dd_mm_give_47 : decode prog_12_method_21_code 47 = .ok (.aload_n 0, 1) := by decide +kernel
theorem dd_mm_give_48 : decode prog_12_method_21_code 48 = .ok (.getfield 45, 3) := by decide +kernel
theorem dd_mm_give_51 : decode prog_12_method_21_code 51 = .ok (.iconst 4, 1) := by decide +kernel
theorem dd_mm_give_52 : decode prog_12_method_21_code 52 = .ok (.iload_n 3, 1) := by decide +kernel
theorem dd_mm_give_53 : decode prog_12_method_21_code 53 = .ok (.iconst 1, 1) := by decide +kernel
theorem dd_mm_give_54 : decode prog_12_method_21_code 54 = .ok (.iadd, 1) := by decide +kernel
theorem dd_mm_give_55 : decode prog_12_method_21_code 55 = .ok (.imul, 1) := by decide +kernel
theorem dd_mm_give_56 : decode prog_12_method_21_code 56 = .ok (.iload_n 1, 1) := by decide +kernel
theorem dd_mm_give_57 : decode prog_12_method_21_code 57 = .ok (.iadd, 1) := by decide +kernel
theorem dd_mm_give_58 : decode prog_12_method_21_code 58 = .ok (.dup2, 1) := by decide +kernel
theorem dd_mm_give_59 : decode prog_12_method_21_code 59 = .ok (.iaload, 1) := by decide +kernel
theorem dd_mm_give_60 : decode prog_12_method_21_code 60 = .ok (.iconst 1, 1) := by decide +kernel
theorem dd_mm_give_61 : decode prog_12_method_21_code 61 = .ok (.iadd, 1) := by decide +kernel
theorem dd_mm_give_62 : decode prog_12_method_21_code 62 = .ok (.iastore, 1) := by decide +kernel
theorem dd_mm_give_63 : decode prog_12_method_21_code 63 = .ok (.aload_n 0, 1) := by decide +kernel
theorem dd_mm_give_64 : decode prog_12_method_21_code 64 = .ok (.getfield 48, 3) := by decide +kernel
theorem dd_mm_give_67 : decode prog_12_method_21_code 67 = .ok (.iconst 4, 1) := by decide +kernel
theorem dd_mm_give_68 : decode prog_12_method_21_code 68 = .ok (.iload_n 3, 1) := by decide +kernel
theorem dd_mm_give_69 : decode prog_12_method_21_code 69 = .ok (.iconst 1, 1) := by decide +kernel
theorem dd_mm_give_70 : decode prog_12_method_21_code 70 = .ok (.iadd, 1) := by decide +kernel
theorem dd_mm_give_71 : decode prog_12_method_21_code 71 = .ok (.imul, 1) := by decide +kernel
theorem dd_mm_give_72 : decode prog_12_method_21_code 72 = .ok (.iload_n 1, 1) := by decide +kernel
theorem dd_mm_give_73 : decode prog_12_method_21_code 73 = .ok (.iadd, 1) := by decide +kernel
theorem dd_mm_give_74 : decode prog_12_method_21_code 74 = .ok (.dup2, 1) := by decide +kernel
theorem dd_mm_give_75 : decode prog_12_method_21_code 75 = .ok (.iaload, 1) := by decide +kernel
theorem dd_mm_give_76 : decode prog_12_method_21_code 76 = .ok (.iconst 1, 1) := by decide +kernel
theorem dd_mm_give_77 : decode prog_12_method_21_code 77 = .ok (.iadd, 1) := by decide +kernel
theorem dd_mm_give_78 : decode prog_12_method_21_code 78 = .ok (.iastore, 1) := by decide +kernel
theorem dd_mm_give_79 : decode prog_12_method_21_code 79 = .ok (.iconst 1, 1) := by decide +kernel
theorem dd_mm_give_80 : decode prog_12_method_21_code 80 = .ok (.ireturn, 1) := by decide +kernel
set_option maxHeartbeats 4000000 in
set_option maxRecDepth 100000 in
theorem kb_mm_give_b25 {p : Program} {l : Launch} {e : Env} {s : State} {m : MethodId} {args : Array Value} {below : List Frame} {meth : Method} {c : Code} {D : va_G} {ac : Nat → ClassId} {a0 : Nat} {gl : gl_T} {rF : Int32} {stF : st_S} {iT jT : Nat}
    (X : cx_ p s m args c prog_12_method_21_code 4 "PromiseVatsModel" tb_ D cl_ (ty_ ac)) (hKs : kn_ D ac a0 gl s) (hlk : meth.locks = false) (hret : meth.sig.returnType = (Option.some FieldType.boolean)) (hnm : meth.name = "give") : wk_ p l e 1 21 s m args below meth c D cl_ ac a0 4 vb_i rF stF iT jT 25 (fun x : Unit => []) (fun x : Unit => []) (fun _ : Unit => mm_give_b25 gl) := by
  intro x st H locs cells slots i j ls hw hl h hci hcj
  have h : mm_give_b25 gl  st = some (rF, stF, i, j) := h
  unfold mm_give_b25 at h
  have hl : lh_ ls 4 [] := hl
  refine W.eq (g2 := F0 m 25 ls []) rfl ?_
  refine lv_iconst (v := (0 : Int32)) X.1 X.2.1 dd_mm_give_25 (by decide) ?_
  obtain ⟨rfl, rfl, rfl, rfl⟩ := st_r_some h
  exact rr_iret X hw hlk hret (by decide) hci hcj dd_mm_give_26
set_option maxHeartbeats 4000000 in
set_option maxRecDepth 100000 in
theorem kb_mm_give_b79 {p : Program} {l : Launch} {e : Env} {s : State} {m : MethodId} {args : Array Value} {below : List Frame} {meth : Method} {c : Code} {D : va_G} {ac : Nat → ClassId} {a0 : Nat} {gl : gl_T} {rF : Int32} {stF : st_S} {iT jT : Nat}
    (X : cx_ p s m args c prog_12_method_21_code 4 "PromiseVatsModel" tb_ D cl_ (ty_ ac)) (hKs : kn_ D ac a0 gl s) (hlk : meth.locks = false) (hret : meth.sig.returnType = (Option.some FieldType.boolean)) (hnm : meth.name = "give") : wk_ p l e 1 21 s m args below meth c D cl_ ac a0 4 vb_i rF stF iT jT 79 (fun x : Unit => []) (fun x : Unit => []) (fun _ : Unit => mm_give_b79 gl) := by
  intro x st H locs cells slots i j ls hw hl h hci hcj
  have h : mm_give_b79 gl  st = some (rF, stF, i, j) := h
  unfold mm_give_b79 at h
  have hl : lh_ ls 4 [] := hl
  refine W.eq (g2 := F0 m 79 ls []) rfl ?_
  refine lv_iconst (v := (1 : Int32)) X.1 X.2.1 dd_mm_give_79 (by decide) ?_
  obtain ⟨rfl, rfl, rfl, rfl⟩ := st_r_some h
  exact rr_iret X hw hlk hret (by decide) hci hcj dd_mm_give_80
set_option maxHeartbeats 4000000 in
set_option maxRecDepth 100000 in
theorem kc_mm_give (l : Launch) (D : va_G) (ac : Nat → ClassId) (a0 : Nat) (gl : gl_T) (v0 : Option Nat) (v1 : Int32) (v2 : Int32) (v3 : Int32) (st : st_S) (rF : Int32) (stF : st_S) (iT jT : Nat) (h : mm_give gl v0 v1 v2 v3 st = some (rF, stF, iT, jT)) :
    ct_ l ⟨"PromiseVatsModel", "give", "(III)Z"⟩ (Cond.code ⟨"PromiseVatsModel", "give", "(III)Z"⟩ prog_12_method_21_code 4 (Option.some FieldType.boolean) :: tb_) 1 21 D cl_ ac a0 (kn_ D ac a0 gl) [(va_rf v0), (.int v1), (.int v2), (.int v3)] st (vb_i rF) stF iT jT := by
  refine ct_of (kn_ok D ac a0 gl) (plainFor_of_name (by decide +kernel)) (by simp [rf_cat, ic_cat]) (by simp) ?_
  intro p e s m args below meth c ls X hw hKs hlk hret hnm hl
  unfold mm_give at h
  have hl : lh_ ls 4 [(0, (va_rf v0)), (1, (.int v1)), (2, (.int v2)), (3, (.int v3))] := hl
  obtain ⟨z0, hz0⟩ : ∃ z : Nat, 0 = z := ⟨0, rfl⟩
  obtain ⟨z1, hz1⟩ : ∃ z : Nat, 0 = z := ⟨0, rfl⟩
  refine W.cs hz0 hz1 ?_
  have hci : z0 + iT = iT := by omega
  have hcj : z1 + jT = jT := by omega
  refine rr_aldn X dd_mm_give_0 rfl (lv_at hl.1 0 rfl) ?_
  refine lv_iload_n X.1 X.2.1 dd_mm_give_1 rfl (lv_at hl.1 1 rfl) ?_
  obtain ⟨t26, ht26, h⟩ := st_g_some h
  obtain ⟨t1, t2, t3, t4, t5, t6, ht1, h, ei, ej⟩ := st_b_some h
  refine rr_callV (n := 1) (As := [(.int v1)]) (rest := []) X hw (kn_ok D ac a0 gl) hKs (kc_mm_vat l D ac a0 gl v0 v1 _ _ _ _ _ ht1) tb_good tw_516 tw_469 tw_517 tw_518 se_54 ht26 (by decide +kernel) rfl (show 0 + 1 ≤ _ ∧ 8 + (2 + 11) + 0 ≤ _ from ⟨Nat.le_of_ble_eq_true rfl, Nat.le_of_ble_eq_true rfl⟩) (show z0 + t3 ≤ iT ∧ z1 + t4 ≤ jT from ⟨ar_1 hci ei, ar_1 hcj ej⟩) hl.1.1 (by simp [rf_cat, ic_cat]) rfl dd_mm_give_2 (sk := [(.int t1)]) rfl (fun H locs hw => ?_)
  have hci : z0 + t3 + t5 = iT := ar_2 hci ei
  have hcj : z1 + t4 + t6 = jT := ar_2 hcj ej
  clear ei ej
  generalize z0 + t3 = t7 at hci ⊢
  generalize z1 + t4 = t8 at hcj ⊢
  by_cases hc5 : t1 = 0
  · rw [if_pos hc5] at h
    refine lv_if_eq (tgt := 25) X.1 X.2.1 dd_mm_give_5 (by decide) (fun _ => ?_) (fun z => absurd hc5 z)
    exact (kb_mm_give_b25 X hKs hlk hret hnm) () _ _ _ _ _ _ _ _ hw (lh_pk hl [] rfl) h hci hcj
  · rw [if_neg hc5] at h
    refine lv_if_eq (tgt := 25) X.1 X.2.1 dd_mm_give_5 (by decide) (fun z => absurd z hc5) (fun _ => ?_)
    refine rr_aldn X dd_mm_give_8 rfl (lv_at hl.1 0 rfl) ?_
    refine lv_iload_n X.1 X.2.1 dd_mm_give_9 rfl (lv_at hl.1 3 rfl) ?_
    obtain ⟨t25, ht25, h⟩ := st_g_some h
    obtain ⟨t9, t10, t11, t12, t13, t14, ht9, h, ei, ej⟩ := st_b_some h
    refine rr_callV (n := 1) (As := [(.int v3)]) (rest := []) X hw (kn_ok D ac a0 gl) hKs (kc_mm_vat l D ac a0 gl v0 v3 _ _ _ _ _ ht9) tb_good tw_516 tw_469 tw_517 tw_518 se_54 ht25 (by decide +kernel) rfl (show 0 + 1 ≤ _ ∧ 8 + (2 + 11) + 0 ≤ _ from ⟨Nat.le_of_ble_eq_true rfl, Nat.le_of_ble_eq_true rfl⟩) (show t7 + t11 ≤ iT ∧ t8 + t12 ≤ jT from ⟨ar_1 hci ei, ar_1 hcj ej⟩) hl.1.1 (by simp [rf_cat, ic_cat]) rfl dd_mm_give_10 (sk := [(.int t9)]) rfl (fun H locs hw => ?_)
    have hci : t7 + t11 + t13 = iT := ar_2 hci ei
    have hcj : t8 + t12 + t14 = jT := ar_2 hcj ej
    clear ei ej
    generalize t7 + t11 = t15 at hci ⊢
    generalize t8 + t12 = t16 at hcj ⊢
    by_cases hc13 : t9 = 0
    · rw [if_pos hc13] at h
      refine lv_if_eq (tgt := 25) X.1 X.2.1 dd_mm_give_13 (by decide) (fun _ => ?_) (fun z => absurd hc13 z)
      exact (kb_mm_give_b25 X hKs hlk hret hnm) () _ _ _ _ _ _ _ _ hw (lh_pk hl [] rfl) h hci hcj
    · rw [if_neg hc13] at h
      refine lv_if_eq (tgt := 25) X.1 X.2.1 dd_mm_give_13 (by decide) (fun z => absurd z hc13) (fun _ => ?_)
      refine lv_iload_n X.1 X.2.1 dd_mm_give_16 rfl (lv_at hl.1 2 rfl) ?_
      by_cases hc17 : v2 < 0
      · rw [if_pos hc17] at h
        refine lv_if_lt (tgt := 25) X.1 X.2.1 dd_mm_give_17 (by decide) (fun _ => ?_) (fun z => absurd hc17 z)
        exact (kb_mm_give_b25 X hKs hlk hret hnm) () _ _ _ _ _ _ _ _ hw (lh_pk hl [] rfl) h hci hcj
      · rw [if_neg hc17] at h
        refine lv_if_lt (tgt := 25) X.1 X.2.1 dd_mm_give_17 (by decide) (fun z => absurd z hc17) (fun _ => ?_)
        refine lv_iload_n X.1 X.2.1 dd_mm_give_20 rfl (lv_at hl.1 2 rfl) ?_
        refine lv_iconst (v := (3 : Int32)) X.1 X.2.1 dd_mm_give_21 (by decide) ?_
        by_cases hc22 : v2 ≤ (3 : Int32)
        · rw [if_pos hc22] at h
          refine lv_icmp_le (tgt := 27) X.1 X.2.1 dd_mm_give_22 (by decide) (fun _ => ?_) (fun z => absurd hc22 z)
          refine rr_aldn X dd_mm_give_27 rfl (lv_at hl.1 0 rfl) ?_
          obtain ⟨t17, ht17, h⟩ := st_g_some h
          refine rr_getq X hw ff_10_13 ht17 tw_454 (Or.inl rfl) dd_mm_give_28 ?_
          refine lv_iconst (v := (4 : Int32)) X.1 X.2.1 dd_mm_give_31 (by decide) ?_
          refine lv_iload_n X.1 X.2.1 dd_mm_give_32 rfl (lv_at hl.1 1 rfl) ?_
          refine lv_iconst (v := (1 : Int32)) X.1 X.2.1 dd_mm_give_33 (by decide) ?_
          refine lv_iadd X.1 X.2.1 dd_mm_give_34 ?_
          refine lv_imul X.1 X.2.1 dd_mm_give_35 ?_
          refine lv_iload_n X.1 X.2.1 dd_mm_give_36 rfl (lv_at hl.1 2 rfl) ?_
          refine lv_iadd X.1 X.2.1 dd_mm_give_37 ?_
          refine lv_iload_n X.1 X.2.1 dd_mm_give_38 rfl (lv_at hl.1 3 rfl) ?_
          refine lv_iconst (v := (1 : Int32)) X.1 X.2.1 dd_mm_give_39 (by decide) ?_
          refine lv_iadd X.1 X.2.1 dd_mm_give_40 ?_
          obtain ⟨t18, hp41, h⟩ := st_w_some h
          refine rr_iast (t := 0) X hw rfl hp41 dd_mm_give_41 (fun H locs hw => ?_)
          refine lv_iload_n X.1 X.2.1 dd_mm_give_42 rfl (lv_at hl.1 1 rfl) ?_
          refine lv_iload_n X.1 X.2.1 dd_mm_give_43 rfl (lv_at hl.1 3 rfl) ?_
          by_cases hc44 : v1 = v3
          · rw [if_pos hc44] at h
            refine lv_icmp_eq (tgt := 79) X.1 X.2.1 dd_mm_give_44 (by decide) (fun _ => ?_) (fun z => absurd hc44 z)
            exact (kb_mm_give_b79 X hKs hlk hret hnm) () _ _ _ _ _ _ _ _ hw (lh_pk hl [] rfl) h hci hcj
          · rw [if_neg hc44] at h
            refine lv_icmp_eq (tgt := 79) X.1 X.2.1 dd_mm_give_44 (by decide) (fun z => absurd z hc44) (fun _ => ?_)
            refine rr_aldn X dd_mm_give_47 rfl (lv_at hl.1 0 rfl) ?_
            obtain ⟨t19, ht19, h⟩ := st_g_some h
            refine rr_getq X hw ff_10_15 ht19 tw_453 (Or.inl rfl) dd_mm_give_48 ?_
            refine lv_iconst (v := (4 : Int32)) X.1 X.2.1 dd_mm_give_51 (by decide) ?_
            refine lv_iload_n X.1 X.2.1 dd_mm_give_52 rfl (lv_at hl.1 3 rfl) ?_
            refine lv_iconst (v := (1 : Int32)) X.1 X.2.1 dd_mm_give_53 (by decide) ?_
            refine lv_iadd X.1 X.2.1 dd_mm_give_54 ?_
            refine lv_imul X.1 X.2.1 dd_mm_give_55 ?_
            refine lv_iload_n X.1 X.2.1 dd_mm_give_56 rfl (lv_at hl.1 1 rfl) ?_
            refine lv_iadd X.1 X.2.1 dd_mm_give_57 ?_
            refine lv_dup2_11 X.1 X.2.1 dd_mm_give_58 rfl (rf_cat _) ?_
            obtain ⟨t20, ht20, h⟩ := st_g_some h
            refine rr_iald (t := 0) X hw rfl ht20 dd_mm_give_59 ?_
            refine lv_iconst (v := (1 : Int32)) X.1 X.2.1 dd_mm_give_60 (by decide) ?_
            refine lv_iadd X.1 X.2.1 dd_mm_give_61 ?_
            obtain ⟨t21, hp62, h⟩ := st_w_some h
            refine rr_iast (t := 0) X hw rfl hp62 dd_mm_give_62 (fun H locs hw => ?_)
            refine rr_aldn X dd_mm_give_63 rfl (lv_at hl.1 0 rfl) ?_
            obtain ⟨t22, ht22, h⟩ := st_g_some h
            refine rr_getq X hw ff_10_16 ht22 tw_452 (Or.inl rfl) dd_mm_give_64 ?_
            refine lv_iconst (v := (4 : Int32)) X.1 X.2.1 dd_mm_give_67 (by decide) ?_
            refine lv_iload_n X.1 X.2.1 dd_mm_give_68 rfl (lv_at hl.1 3 rfl) ?_
            refine lv_iconst (v := (1 : Int32)) X.1 X.2.1 dd_mm_give_69 (by decide) ?_
            refine lv_iadd X.1 X.2.1 dd_mm_give_70 ?_
            refine lv_imul X.1 X.2.1 dd_mm_give_71 ?_
            refine lv_iload_n X.1 X.2.1 dd_mm_give_72 rfl (lv_at hl.1 1 rfl) ?_
            refine lv_iadd X.1 X.2.1 dd_mm_give_73 ?_
            refine lv_dup2_11 X.1 X.2.1 dd_mm_give_74 rfl (rf_cat _) ?_
            obtain ⟨t23, ht23, h⟩ := st_g_some h
            refine rr_iald (t := 0) X hw rfl ht23 dd_mm_give_75 ?_
            refine lv_iconst (v := (1 : Int32)) X.1 X.2.1 dd_mm_give_76 (by decide) ?_
            refine lv_iadd X.1 X.2.1 dd_mm_give_77 ?_
            obtain ⟨t24, hp78, h⟩ := st_w_some h
            refine rr_iast (t := 0) X hw rfl hp78 dd_mm_give_78 (fun H locs hw => ?_)
            exact (kb_mm_give_b79 X hKs hlk hret hnm) () _ _ _ _ _ _ _ _ hw (lh_pk hl [] rfl) h hci hcj
        · rw [if_neg hc22] at h
          refine lv_icmp_le (tgt := 27) X.1 X.2.1 dd_mm_give_22 (by decide) (fun z => absurd z hc22) (fun _ => ?_)
          exact (kb_mm_give_b25 X hKs hlk hret hnm) () _ _ _ _ _ _ _ _ hw (lh_pk hl [] rfl) h hci hcj
/-! PromiseVatsModel.inbox(I)I -/
theorem dd_mm_inbox_0 : decode prog_12_method_22_code 0 = .ok (.iconst 0, 1) := by decide +kernel
theorem dd_mm_inbox_1 : decode prog_12_method_22_code 1 = .ok (.istore_n 2, 1) := by decide +kernel
theorem dd_mm_inbox_2 : decode prog_12_method_22_code 2 = .ok (.iconst 0, 1) := by decide +kernel
theorem dd_mm_inbox_3 : decode prog_12_method_22_code 3 = .ok (.istore_n 3, 1) := by decide +kernel
theorem dd_mm_inbox_4 : decode prog_12_method_22_code 4 = .ok (.iload_n 3, 1) := by decide +kernel
theorem dd_mm_inbox_5 : decode prog_12_method_22_code 5 = .ok (.aload_n 0, 1) := by decide +kernel
theorem dd_mm_inbox_6 : decode prog_12_method_22_code 6 = .ok (.getfield 144, 3) := by decide +kernel
theorem dd_mm_inbox_9 : decode prog_12_method_22_code 9 = .ok (.if_icmp .ge 35, 3) := by decide +kernel
theorem dd_mm_inbox_12 : decode prog_12_method_22_code 12 = .ok (.aload_n 0, 1) := by decide +kernel
theorem dd_mm_inbox_13 : decode prog_12_method_22_code 13 = .ok (.iload_n 1, 1) := by decide +kernel
theorem dd_mm_inbox_14 : decode prog_12_method_22_code 14 = .ok (.invokevirtual 115, 3) := by decide +kernel
theorem dd_mm_inbox_17 : decode prog_12_method_22_code 17 = .ok (.ifCond .eq 27, 3) := by decide +kernel
theorem dd_mm_inbox_20 : decode prog_12_method_22_code 20 = .ok (.aload_n 0, 1) := by decide +kernel
theorem dd_mm_inbox_21 : decode prog_12_method_22_code 21 = .ok (.getfield 54, 3) := by decide +kernel
theorem dd_mm_inbox_24 : decode prog_12_method_22_code 24 = .ok (.iload_n 3, 1) := by decide +kernel
theorem dd_mm_inbox_25 : decode prog_12_method_22_code 25 = .ok (.iaload, 1) := by decide +kernel
theorem dd_mm_inbox_26 : decode prog_12_method_22_code 26 = .ok (.iload_n 1, 1) := by decide +kernel
theorem dd_mm_inbox_27 : decode prog_12_method_22_code 27 = .ok (.if_icmp .ne 9, 3) := by decide +kernel
theorem dd_mm_inbox_30 : decode prog_12_method_22_code 30 = .ok (.iload_n 2, 1) := by decide +kernel
theorem dd_mm_inbox_31 : decode prog_12_method_22_code 31 = .ok (.iconst 1, 1) := by decide +kernel
theorem dd_mm_inbox_32 : decode prog_12_method_22_code 32 = .ok (.iadd, 1) := by decide +kernel
theorem dd_mm_inbox_33 : decode prog_12_method_22_code 33 = .ok (.goto 4, 3) := by decide +kernel
theorem dd_mm_inbox_36 : decode prog_12_method_22_code 36 = .ok (.iload_n 2, 1) := by decide +kernel
theorem dd_mm_inbox_37 : decode prog_12_method_22_code 37 = .ok (.istore_n 2, 1) := by decide +kernel
theorem dd_mm_inbox_38 : decode prog_12_method_22_code 38 = .ok (.iinc 3 1, 3) := by decide +kernel
theorem dd_mm_inbox_41 : decode prog_12_method_22_code 41 = .ok (.goto (-37), 3) := by decide +kernel
theorem dd_mm_inbox_44 : decode prog_12_method_22_code 44 = .ok (.iload_n 2, 1) := by decide +kernel
theorem dd_mm_inbox_45 : decode prog_12_method_22_code 45 = .ok (.ireturn, 1) := by decide +kernel
set_option maxHeartbeats 4000000 in
set_option maxRecDepth 100000 in
theorem kb_mm_inbox_b37 {p : Program} {l : Launch} {e : Env} {s : State} {m : MethodId} {args : Array Value} {below : List Frame} {meth : Method} {c : Code} {D : va_G} {ac : Nat → ClassId} {a0 : Nat} {gl : gl_T} {rF : Int32} {stF : st_S} {iT jT : Nat} {rec4 : Option Nat × Int32 × Int32 × Int32 → st_M (Int32)}
    (X : cx_ p s m args c prog_12_method_22_code 4 "PromiseVatsModel" tb_ D cl_ (ty_ ac)) (hKs : kn_ D ac a0 gl s) (hlk : meth.locks = false) (hret : meth.sig.returnType = (Option.some FieldType.int)) (hnm : meth.name = "inbox") (hr4 : wk_ p l e 1 21 s m args below meth c D cl_ ac a0 4 vb_i rF stF iT jT 4 (fun x : Option Nat × Int32 × Int32 × Int32 => [(0, (va_rf x.1)), (1, (.int x.2.1)), (2, (.int x.2.2.1)), (3, (.int x.2.2.2))]) (fun x : Option Nat × Int32 × Int32 × Int32 => []) rec4) : wk_ p l e 1 21 s m args below meth c D cl_ ac a0 4 vb_i rF stF iT jT 37 (fun x : Option Nat × Int32 × Int32 × Int32 => [(0, (va_rf x.1)), (1, (.int x.2.1)), (3, (.int x.2.2.1))]) (fun x : Option Nat × Int32 × Int32 × Int32 => [(.int x.2.2.2)]) (fun x : Option Nat × Int32 × Int32 × Int32 => mm_inbox_b37 gl rec4 x.1 x.2.1 x.2.2.1 x.2.2.2) := by
  intro x st H locs cells slots i j ls hw hl h hci hcj
  obtain ⟨p0, p1, p3, q0⟩ := x
  have h : mm_inbox_b37 gl rec4 p0 p1 p3 q0 st = some (rF, stF, i, j) := h
  unfold mm_inbox_b37 at h
  have hl : lh_ ls 4 [(0, (va_rf p0)), (1, (.int p1)), (3, (.int p3))] := hl
  refine W.eq (g2 := F0 m 37 ls [(.int q0)]) rfl ?_
  refine rr_istn (lv' := [(2, (.int q0)), (0, (va_rf p0)), (1, (.int p1)), (3, (.int p3))]) X dd_mm_inbox_37 rfl hl (by decide) rfl (fun ls hl => ?_)
  refine rr_iinc (k := 3) (v := (p3 + (1 : Int32))) (lv' := [(3, (.int (p3 + (1 : Int32)))), (2, (.int q0)), (0, (va_rf p0)), (1, (.int p1))]) X dd_mm_inbox_38 hl rfl (by rw [show Int32.ofInt (1) = (1 : Int32) from by decide]) (by decide) rfl (fun ls hl => ?_)
  refine lv_goto (tgt := 4) X.1 X.2.1 dd_mm_inbox_41 (by decide) ?_
  exact hr4 (p0, p1, q0, (p3 + (1 : Int32))) _ _ _ _ _ _ _ _ hw (lh_pk hl [2, 3, 1, 0] rfl) h hci hcj
set_option maxHeartbeats 4000000 in
set_option maxRecDepth 100000 in
theorem kb_mm_inbox_b44 {p : Program} {l : Launch} {e : Env} {s : State} {m : MethodId} {args : Array Value} {below : List Frame} {meth : Method} {c : Code} {D : va_G} {ac : Nat → ClassId} {a0 : Nat} {gl : gl_T} {rF : Int32} {stF : st_S} {iT jT : Nat}
    (X : cx_ p s m args c prog_12_method_22_code 4 "PromiseVatsModel" tb_ D cl_ (ty_ ac)) (hKs : kn_ D ac a0 gl s) (hlk : meth.locks = false) (hret : meth.sig.returnType = (Option.some FieldType.int)) (hnm : meth.name = "inbox") : wk_ p l e 1 21 s m args below meth c D cl_ ac a0 4 vb_i rF stF iT jT 44 (fun x : Int32 => [(2, (.int x))]) (fun x : Int32 => []) (fun x : Int32 => mm_inbox_b44 gl x) := by
  intro x st H locs cells slots i j ls hw hl h hci hcj
  have hx : ∃ z, z = x := ⟨_, rfl⟩; obtain ⟨p2, rfl⟩ := hx
  have h : mm_inbox_b44 gl p2 st = some (rF, stF, i, j) := h
  unfold mm_inbox_b44 at h
  have hl : lh_ ls 4 [(2, (.int p2))] := hl
  refine W.eq (g2 := F0 m 44 ls []) rfl ?_
  refine lv_iload_n X.1 X.2.1 dd_mm_inbox_44 rfl (lv_at hl.1 0 rfl) ?_
  obtain ⟨rfl, rfl, rfl, rfl⟩ := st_r_some h
  exact rr_iret X hw hlk hret rfl hci hcj dd_mm_inbox_45
set_option maxHeartbeats 4000000 in
set_option maxRecDepth 100000 in
theorem kb_mm_inbox_b4 {p : Program} {l : Launch} {e : Env} {s : State} {m : MethodId} {args : Array Value} {below : List Frame} {meth : Method} {c : Code} {D : va_G} {ac : Nat → ClassId} {a0 : Nat} {gl : gl_T} {rF : Int32} {stF : st_S} {iT jT : Nat}
    (X : cx_ p s m args c prog_12_method_22_code 4 "PromiseVatsModel" tb_ D cl_ (ty_ ac)) (hKs : kn_ D ac a0 gl s) (hlk : meth.locks = false) (hret : meth.sig.returnType = (Option.some FieldType.int)) (hnm : meth.name = "inbox") : wk_ p l e 1 21 s m args below meth c D cl_ ac a0 4 vb_i rF stF iT jT 4 (fun x : Option Nat × Int32 × Int32 × Int32 => [(0, (va_rf x.1)), (1, (.int x.2.1)), (2, (.int x.2.2.1)), (3, (.int x.2.2.2))]) (fun x : Option Nat × Int32 × Int32 × Int32 => []) (st_it (fun rec4 => (fun x : Option Nat × Int32 × Int32 × Int32 => mm_inbox_b4 gl rec4 x.1 x.2.1 x.2.2.1 x.2.2.2)) fu_) := by
  refine wk_it ?_ _
  intro rec4 hr4 x st H locs cells slots i j ls hw hl h hci hcj
  obtain ⟨p0, p1, p2, p3⟩ := x
  have h : mm_inbox_b4 gl rec4 p0 p1 p2 p3 st = some (rF, stF, i, j) := h
  unfold mm_inbox_b4 at h
  have hl : lh_ ls 4 [(0, (va_rf p0)), (1, (.int p1)), (2, (.int p2)), (3, (.int p3))] := hl
  refine W.eq (g2 := F0 m 4 ls []) rfl ?_
  refine lv_iload_n X.1 X.2.1 dd_mm_inbox_4 rfl (lv_at hl.1 3 rfl) ?_
  refine rr_aldn X dd_mm_inbox_5 rfl (lv_at hl.1 0 rfl) ?_
  obtain ⟨t1, ht1, h⟩ := st_g_some h
  refine rr_geti X hw ff_10_18 ht1 tw_474 (Or.inl rfl) dd_mm_inbox_6 ?_
  by_cases hc9 : t1 ≤ p3
  · rw [if_pos hc9] at h
    refine lv_icmp_ge (tgt := 44) X.1 X.2.1 dd_mm_inbox_9 (by decide) (fun _ => ?_) (fun z => absurd hc9 z)
    exact (kb_mm_inbox_b44 X hKs hlk hret hnm) p2 _ _ _ _ _ _ _ _ hw (lh_pk hl [2] rfl) h hci hcj
  · rw [if_neg hc9] at h
    refine lv_icmp_ge (tgt := 44) X.1 X.2.1 dd_mm_inbox_9 (by decide) (fun z => absurd z hc9) (fun _ => ?_)
    refine rr_aldn X dd_mm_inbox_12 rfl (lv_at hl.1 0 rfl) ?_
    refine lv_iload_n X.1 X.2.1 dd_mm_inbox_13 rfl (lv_at hl.1 1 rfl) ?_
    obtain ⟨t12, ht12, h⟩ := st_g_some h
    obtain ⟨t2, t3, t4, t5, t6, t7, ht2, h, ei, ej⟩ := st_b_some h
    refine rr_callV (n := 1) (As := [(.int p1)]) (rest := []) X hw (kn_ok D ac a0 gl) hKs (kc_mm_vat l D ac a0 gl p0 p1 _ _ _ _ _ ht2) tb_good tw_516 tw_469 tw_517 tw_518 se_54 ht12 (by decide +kernel) rfl (show 0 + 1 ≤ _ ∧ 8 + (2 + 11) + 0 ≤ _ from ⟨Nat.le_of_ble_eq_true rfl, Nat.le_of_ble_eq_true rfl⟩) (show cells + t4 ≤ iT ∧ slots + t5 ≤ jT from ⟨ar_1 hci ei, ar_1 hcj ej⟩) hl.1.1 (by simp [rf_cat, ic_cat]) rfl dd_mm_inbox_14 (sk := [(.int t2)]) rfl (fun H locs hw => ?_)
    have hci : cells + t4 + t6 = iT := ar_2 hci ei
    have hcj : slots + t5 + t7 = jT := ar_2 hcj ej
    clear ei ej
    generalize cells + t4 = t8 at hci ⊢
    generalize slots + t5 = t9 at hcj ⊢
    by_cases hc17 : t2 = 0
    · rw [if_pos hc17] at h
      refine lv_if_eq (tgt := 44) X.1 X.2.1 dd_mm_inbox_17 (by decide) (fun _ => ?_) (fun z => absurd hc17 z)
      exact (kb_mm_inbox_b44 X hKs hlk hret hnm) p2 _ _ _ _ _ _ _ _ hw (lh_pk hl [2] rfl) h hci hcj
    · rw [if_neg hc17] at h
      refine lv_if_eq (tgt := 44) X.1 X.2.1 dd_mm_inbox_17 (by decide) (fun z => absurd z hc17) (fun _ => ?_)
      refine rr_aldn X dd_mm_inbox_20 rfl (lv_at hl.1 0 rfl) ?_
      obtain ⟨t10, ht10, h⟩ := st_g_some h
      refine rr_getq X hw ff_10_19 ht10 tw_450 (Or.inl rfl) dd_mm_inbox_21 ?_
      refine lv_iload_n X.1 X.2.1 dd_mm_inbox_24 rfl (lv_at hl.1 3 rfl) ?_
      obtain ⟨t11, ht11, h⟩ := st_g_some h
      refine rr_iald (t := 0) X hw rfl ht11 dd_mm_inbox_25 ?_
      refine lv_iload_n X.1 X.2.1 dd_mm_inbox_26 rfl (lv_at hl.1 1 rfl) ?_
      by_cases hc27 : t11 = p1
      · rw [if_pos hc27] at h
        refine lv_icmp_ne (tgt := 36) X.1 X.2.1 dd_mm_inbox_27 (by decide) (fun z => absurd hc27 z) (fun _ => ?_)
        refine lv_iload_n X.1 X.2.1 dd_mm_inbox_30 rfl (lv_at hl.1 2 rfl) ?_
        refine lv_iconst (v := (1 : Int32)) X.1 X.2.1 dd_mm_inbox_31 (by decide) ?_
        refine lv_iadd X.1 X.2.1 dd_mm_inbox_32 ?_
        refine lv_goto (tgt := 37) X.1 X.2.1 dd_mm_inbox_33 (by decide) ?_
        exact (kb_mm_inbox_b37 X hKs hlk hret hnm hr4) (p0, p1, p3, (p2 + (1 : Int32))) _ _ _ _ _ _ _ _ hw (lh_pk hl [0, 1, 3] rfl) h hci hcj
      · rw [if_neg hc27] at h
        refine lv_icmp_ne (tgt := 36) X.1 X.2.1 dd_mm_inbox_27 (by decide) (fun _ => ?_) (fun z => absurd z hc27)
        refine lv_iload_n X.1 X.2.1 dd_mm_inbox_36 rfl (lv_at hl.1 2 rfl) ?_
        exact (kb_mm_inbox_b37 X hKs hlk hret hnm hr4) (p0, p1, p3, p2) _ _ _ _ _ _ _ _ hw (lh_pk hl [0, 1, 3] rfl) h hci hcj
set_option maxHeartbeats 4000000 in
set_option maxRecDepth 100000 in
theorem kc_mm_inbox (l : Launch) (D : va_G) (ac : Nat → ClassId) (a0 : Nat) (gl : gl_T) (v0 : Option Nat) (v1 : Int32) (st : st_S) (rF : Int32) (stF : st_S) (iT jT : Nat) (h : mm_inbox gl v0 v1 st = some (rF, stF, iT, jT)) :
    ct_ l ⟨"PromiseVatsModel", "inbox", "(I)I"⟩ (Cond.code ⟨"PromiseVatsModel", "inbox", "(I)I"⟩ prog_12_method_22_code 4 (Option.some FieldType.int) :: tb_) 1 21 D cl_ ac a0 (kn_ D ac a0 gl) [(va_rf v0), (.int v1)] st (vb_i rF) stF iT jT := by
  refine ct_of (kn_ok D ac a0 gl) (plainFor_of_name (by decide +kernel)) (by simp [rf_cat, ic_cat]) (by simp) ?_
  intro p e s m args below meth c ls X hw hKs hlk hret hnm hl
  unfold mm_inbox at h
  have hl : lh_ ls 4 [(0, (va_rf v0)), (1, (.int v1))] := hl
  obtain ⟨z0, hz0⟩ : ∃ z : Nat, 0 = z := ⟨0, rfl⟩
  obtain ⟨z1, hz1⟩ : ∃ z : Nat, 0 = z := ⟨0, rfl⟩
  refine W.cs hz0 hz1 ?_
  have hci : z0 + iT = iT := by omega
  have hcj : z1 + jT = jT := by omega
  refine lv_iconst (v := (0 : Int32)) X.1 X.2.1 dd_mm_inbox_0 (by decide) ?_
  refine rr_istn (lv' := [(2, (.int (0 : Int32))), (0, (va_rf v0)), (1, (.int v1))]) X dd_mm_inbox_1 rfl hl (by decide) rfl (fun ls hl => ?_)
  refine lv_iconst (v := (0 : Int32)) X.1 X.2.1 dd_mm_inbox_2 (by decide) ?_
  refine rr_istn (lv' := [(3, (.int (0 : Int32))), (2, (.int (0 : Int32))), (0, (va_rf v0)), (1, (.int v1))]) X dd_mm_inbox_3 rfl hl (by decide) rfl (fun ls hl => ?_)
  exact (kb_mm_inbox_b4 X hKs hlk hret hnm) (v0, v1, (0 : Int32), (0 : Int32)) _ _ _ _ _ _ _ _ hw (lh_pk hl [2, 3, 1, 0] rfl) h hci hcj
/-! PromiseVatsModel.poke(II)Z -/
theorem dd_mm_poke_0 : decode prog_12_method_23_code 0 = .ok (.aload_n 0, 1) := by decide +kernel
theorem dd_mm_poke_1 : decode prog_12_method_23_code 1 = .ok (.iload_n 1, 1) := by decide +kernel
theorem dd_mm_poke_2 : decode prog_12_method_23_code 2 = .ok (.invokevirtual 115, 3) := by decide +kernel
theorem dd_mm_poke_5 : decode prog_12_method_23_code 5 = .ok (.ifCond .eq 13, 3) := by decide +kernel
theorem dd_mm_poke_8 : decode prog_12_method_23_code 8 = .ok (.aload_n 0, 1) := by decide +kernel
theorem dd_mm_poke_9 : decode prog_12_method_23_code 9 = .ok (.iload_n 1, 1) := by decide +kernel
theorem dd_mm_poke_10 : decode prog_12_method_23_code 10 = .ok (.invokevirtual 166, 3) := by decide +kernel
theorem dd_mm_poke_13 : decode prog_12_method_23_code 13 = .ok (.bipush 20, 2) := by decide +kernel
theorem dd_mm_poke_15 : decode prog_12_method_23_code 15 = .ok (.if_icmp .lt 5, 3) := by decide +kernel
theorem dd_mm_poke_18 : decode prog_12_method_23_code 18 = .ok (.iconst 0, 1) := by decide +kernel
theorem dd_mm_poke_19 : decode prog_12_method_23_code 19 = .ok (.ireturn, 1) := by decide +kernel
theorem dd_mm_poke_20 : decode prog_12_method_23_code 20 = .ok (.aload_n 0, 1) := by decide +kernel
theorem dd_mm_poke_21 : decode prog_12_method_23_code 21 = .ok (.iload_n 1, 1) := by decide +kernel
theorem dd_mm_poke_22 : decode prog_12_method_23_code 22 = .ok (.iload_n 1, 1) := by decide +kernel
theorem dd_mm_poke_23 : decode prog_12_method_23_code 23 = .ok (.iconst 1, 1) := by decide +kernel
theorem dd_mm_poke_24 : decode prog_12_method_23_code 24 = .ok (.iadd, 1) := by decide +kernel
theorem dd_mm_poke_25 : decode prog_12_method_23_code 25 = .ok (.iload_n 2, 1) := by decide +kernel
theorem dd_mm_poke_26 : decode prog_12_method_23_code 26 = .ok (.iconst 0, 1) := by decide +kernel
theorem dd_mm_poke_27 : decode prog_12_method_23_code 27 = .ok (.iconst 0, 1) := by decide +kernel
theorem dd_mm_poke_28 : decode prog_12_method_23_code 28 = .ok (.invokevirtual 160, 3) := by decide +kernel
theorem dd_mm_poke_31 : decode prog_12_method_23_code 31 = .ok (.iconst 1, 1) := by decide +kernel
theorem dd_mm_poke_32 : decode prog_12_method_23_code 32 = .ok (.ireturn, 1) := by decide +kernel
set_option maxHeartbeats 4000000 in
set_option maxRecDepth 100000 in
theorem kb_mm_poke_b18 {p : Program} {l : Launch} {e : Env} {s : State} {m : MethodId} {args : Array Value} {below : List Frame} {meth : Method} {c : Code} {D : va_G} {ac : Nat → ClassId} {a0 : Nat} {gl : gl_T} {rF : Int32} {stF : st_S} {iT jT : Nat}
    (X : cx_ p s m args c prog_12_method_23_code 3 "PromiseVatsModel" tb_ D cl_ (ty_ ac)) (hKs : kn_ D ac a0 gl s) (hlk : meth.locks = false) (hret : meth.sig.returnType = (Option.some FieldType.boolean)) (hnm : meth.name = "poke") : wk_ p l e 2 44 s m args below meth c D cl_ ac a0 3 vb_i rF stF iT jT 18 (fun x : Unit => []) (fun x : Unit => []) (fun _ : Unit => mm_poke_b18 gl) := by
  intro x st H locs cells slots i j ls hw hl h hci hcj
  have h : mm_poke_b18 gl  st = some (rF, stF, i, j) := h
  unfold mm_poke_b18 at h
  have hl : lh_ ls 3 [] := hl
  refine W.eq (g2 := F0 m 18 ls []) rfl ?_
  refine lv_iconst (v := (0 : Int32)) X.1 X.2.1 dd_mm_poke_18 (by decide) ?_
  obtain ⟨rfl, rfl, rfl, rfl⟩ := st_r_some h
  exact rr_iret X hw hlk hret (by decide) hci hcj dd_mm_poke_19
set_option maxHeartbeats 4000000 in
set_option maxRecDepth 100000 in
theorem kc_mm_poke (l : Launch) (D : va_G) (ac : Nat → ClassId) (a0 : Nat) (gl : gl_T) (v0 : Option Nat) (v1 : Int32) (v2 : Int32) (st : st_S) (rF : Int32) (stF : st_S) (iT jT : Nat) (h : mm_poke gl v0 v1 v2 st = some (rF, stF, iT, jT)) :
    ct_ l ⟨"PromiseVatsModel", "poke", "(II)Z"⟩ (Cond.code ⟨"PromiseVatsModel", "poke", "(II)Z"⟩ prog_12_method_23_code 3 (Option.some FieldType.boolean) :: tb_) 2 44 D cl_ ac a0 (kn_ D ac a0 gl) [(va_rf v0), (.int v1), (.int v2)] st (vb_i rF) stF iT jT := by
  refine ct_of (kn_ok D ac a0 gl) (plainFor_of_name (by decide +kernel)) (by simp [rf_cat, ic_cat]) (by simp) ?_
  intro p e s m args below meth c ls X hw hKs hlk hret hnm hl
  unfold mm_poke at h
  have hl : lh_ ls 3 [(0, (va_rf v0)), (1, (.int v1)), (2, (.int v2))] := hl
  obtain ⟨z0, hz0⟩ : ∃ z : Nat, 0 = z := ⟨0, rfl⟩
  obtain ⟨z1, hz1⟩ : ∃ z : Nat, 0 = z := ⟨0, rfl⟩
  refine W.cs hz0 hz1 ?_
  have hci : z0 + iT = iT := by omega
  have hcj : z1 + jT = jT := by omega
  refine rr_aldn X dd_mm_poke_0 rfl (lv_at hl.1 0 rfl) ?_
  refine lv_iload_n X.1 X.2.1 dd_mm_poke_1 rfl (lv_at hl.1 1 rfl) ?_
  obtain ⟨t27, ht27, h⟩ := st_g_some h
  obtain ⟨t1, t2, t3, t4, t5, t6, ht1, h, ei, ej⟩ := st_b_some h
  refine rr_callV (n := 1) (As := [(.int v1)]) (rest := []) X hw (kn_ok D ac a0 gl) hKs (kc_mm_vat l D ac a0 gl v0 v1 _ _ _ _ _ ht1) tb_good tw_516 tw_469 tw_517 tw_518 se_54 ht27 (by decide +kernel) rfl (show 0 + 1 ≤ _ ∧ 8 + (2 + 11) + 0 ≤ _ from ⟨Nat.le_of_ble_eq_true rfl, Nat.le_of_ble_eq_true rfl⟩) (show z0 + t3 ≤ iT ∧ z1 + t4 ≤ jT from ⟨ar_1 hci ei, ar_1 hcj ej⟩) hl.1.1 (by simp [rf_cat, ic_cat]) rfl dd_mm_poke_2 (sk := [(.int t1)]) rfl (fun H locs hw => ?_)
  have hci : z0 + t3 + t5 = iT := ar_2 hci ei
  have hcj : z1 + t4 + t6 = jT := ar_2 hcj ej
  clear ei ej
  generalize z0 + t3 = t7 at hci ⊢
  generalize z1 + t4 = t8 at hcj ⊢
  by_cases hc5 : t1 = 0
  · rw [if_pos hc5] at h
    refine lv_if_eq (tgt := 18) X.1 X.2.1 dd_mm_poke_5 (by decide) (fun _ => ?_) (fun z => absurd hc5 z)
    exact (kb_mm_poke_b18 X hKs hlk hret hnm) () _ _ _ _ _ _ _ _ hw (lh_pk hl [] rfl) h hci hcj
  · rw [if_neg hc5] at h
    refine lv_if_eq (tgt := 18) X.1 X.2.1 dd_mm_poke_5 (by decide) (fun z => absurd z hc5) (fun _ => ?_)
    refine rr_aldn X dd_mm_poke_8 rfl (lv_at hl.1 0 rfl) ?_
    refine lv_iload_n X.1 X.2.1 dd_mm_poke_9 rfl (lv_at hl.1 1 rfl) ?_
    obtain ⟨t26, ht26, h⟩ := st_g_some h
    obtain ⟨t9, t10, t11, t12, t13, t14, ht9, h, ei, ej⟩ := st_b_some h
    refine rr_callV (n := 1) (As := [(.int v1)]) (rest := []) X hw (kn_ok D ac a0 gl) hKs (kc_mm_inbox l D ac a0 gl v0 v1 _ _ _ _ _ ht9) tb_good tw_528 tw_469 tw_529 tw_530 se_57 ht26 (by decide +kernel) rfl (show 1 + 1 ≤ _ ∧ 8 + (4 + 11) + 21 ≤ _ from ⟨Nat.le_of_ble_eq_true rfl, Nat.le_of_ble_eq_true rfl⟩) (show t7 + t11 ≤ iT ∧ t8 + t12 ≤ jT from ⟨ar_1 hci ei, ar_1 hcj ej⟩) hl.1.1 (by simp [rf_cat, ic_cat]) rfl dd_mm_poke_10 (sk := [(.int t9)]) rfl (fun H locs hw => ?_)
    have hci : t7 + t11 + t13 = iT := ar_2 hci ei
    have hcj : t8 + t12 + t14 = jT := ar_2 hcj ej
    clear ei ej
    generalize t7 + t11 = t15 at hci ⊢
    generalize t8 + t12 = t16 at hcj ⊢
    refine lv_bipush (v := (20 : Int32)) X.1 X.2.1 dd_mm_poke_13 (by decide) ?_
    by_cases hc15 : t9 < (20 : Int32)
    · rw [if_pos hc15] at h
      refine lv_icmp_lt (tgt := 20) X.1 X.2.1 dd_mm_poke_15 (by decide) (fun _ => ?_) (fun z => absurd hc15 z)
      refine rr_aldn X dd_mm_poke_20 rfl (lv_at hl.1 0 rfl) ?_
      refine lv_iload_n X.1 X.2.1 dd_mm_poke_21 rfl (lv_at hl.1 1 rfl) ?_
      refine lv_iload_n X.1 X.2.1 dd_mm_poke_22 rfl (lv_at hl.1 1 rfl) ?_
      refine lv_iconst (v := (1 : Int32)) X.1 X.2.1 dd_mm_poke_23 (by decide) ?_
      refine lv_iadd X.1 X.2.1 dd_mm_poke_24 ?_
      refine lv_iload_n X.1 X.2.1 dd_mm_poke_25 rfl (lv_at hl.1 2 rfl) ?_
      refine lv_iconst (v := (0 : Int32)) X.1 X.2.1 dd_mm_poke_26 (by decide) ?_
      refine lv_iconst (v := (0 : Int32)) X.1 X.2.1 dd_mm_poke_27 (by decide) ?_
      obtain ⟨t25, ht25, h⟩ := st_g_some h
      obtain ⟨t17, t18, t19, t20, t21, t22, ht17, h, ei, ej⟩ := st_b_some h
      refine rr_callV (n := 5) (As := [(.int v1), (.int (v1 + (1 : Int32))), (.int v2), (.int (0 : Int32)), (.int (0 : Int32))]) (rest := []) X hw (kn_ok D ac a0 gl) hKs (kc_mm_rest l D ac a0 gl v0 v1 (v1 + (1 : Int32)) v2 (0 : Int32) (0 : Int32) _ _ _ _ _ ht17) tb_good tw_487 tw_469 tw_488 tw_489 se_47 ht25 (by decide +kernel) rfl (show 0 + 1 ≤ _ ∧ 8 + (6 + 11) + 0 ≤ _ from ⟨Nat.le_of_ble_eq_true rfl, Nat.le_of_ble_eq_true rfl⟩) (show t15 + t19 ≤ iT ∧ t16 + t20 ≤ jT from ⟨ar_1 hci ei, ar_1 hcj ej⟩) hl.1.1 (by simp [rf_cat, ic_cat]) rfl dd_mm_poke_28 (sk := []) rfl (fun H locs hw => ?_)
      have hci : t15 + t19 + t21 = iT := ar_2 hci ei
      have hcj : t16 + t20 + t22 = jT := ar_2 hcj ej
      clear ei ej
      generalize t15 + t19 = t23 at hci ⊢
      generalize t16 + t20 = t24 at hcj ⊢
      refine lv_iconst (v := (1 : Int32)) X.1 X.2.1 dd_mm_poke_31 (by decide) ?_
      obtain ⟨rfl, rfl, rfl, rfl⟩ := st_r_some h
      exact rr_iret X hw hlk hret (by decide) hci hcj dd_mm_poke_32
    · rw [if_neg hc15] at h
      refine lv_icmp_lt (tgt := 20) X.1 X.2.1 dd_mm_poke_15 (by decide) (fun z => absurd z hc15) (fun _ => ?_)
      exact (kb_mm_poke_b18 X hKs hlk hret hnm) () _ _ _ _ _ _ _ _ hw (lh_pk hl [] rfl) h hci hcj
