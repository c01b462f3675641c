/-! PromiseVats.findReached(I)V -/
theorem dd_xP_findReached_0 : decode prog_1_method_42_code 0 = .ok (.iconst 1, 1) := by decide +kernel
theorem dd_xP_findReached_1 : decode prog_1_method_42_code 1 = .ok (.istore_n 2, 1) := by decide +kernel
theorem dd_xP_findReached_2 : decode prog_1_method_42_code 2 = .ok (.iload_n 2, 1) := by decide +kernel
theorem dd_xP_findReached_3 : decode prog_1_method_42_code 3 = .ok (.aload_n 0, 1) := by decide +kernel
theorem dd_xP_findReached_4 : decode prog_1_method_42_code 4 = .ok (.getfield 32, 3) := by decide +kernel
theorem dd_xP_findReached_7 : decode prog_1_method_42_code 7 = .ok (.arraylength, 1) := by decide +kernel
theorem dd_xP_findReached_8 : decode prog_1_method_42_code 8 = .ok (.if_icmp .ge 28, 3) := by decide +kernel
theorem dd_xP_findReached_11 : decode prog_1_method_42_code 11 = .ok (.aload_n 0, 1) := by decide +kernel
theorem dd_xP_findReached_12 : decode prog_1_method_42_code 12 = .ok (.getfield 32, 3) := by decide +kernel
theorem dd_xP_findReached_15 : decode prog_1_method_42_code 15 = .ok (.iload_n 2, 1) := by decide +kernel
theorem dd_xP_findReached_16 : decode prog_1_method_42_code 16 = .ok (.aaload, 1) := by decide +kernel
theorem dd_xP_findReached_17 : decode prog_1_method_42_code 17 = .ok (.ifnull 13, 3) := by decide +kernel
theorem dd_xP_findReached_20 : decode prog_1_method_42_code 20 = .ok (.aload_n 0, 1) := by decide +kernel
theorem dd_xP_findReached_21 : decode prog_1_method_42_code 21 = .ok (.getfield 32, 3) := by decide +kernel
theorem dd_xP_findReached_24 : decode prog_1_method_42_code 24 = .ok (.iload_n 2, 1) := by decide +kernel
theorem dd_xP_findReached_25 : decode prog_1_method_42_code 25 = .ok (.aaload, 1) := by decide +kernel
theorem dd_xP_findReached_26 : decode prog_1_method_42_code 26 = .ok (.iconst 0, 1) := by decide +kernel
theorem dd_xP_findReached_27 : decode prog_1_method_42_code 27 = .ok (.putfield 331, 3) := by decide +kernel
theorem dd_xP_findReached_30 : decode prog_1_method_42_code 30 = .ok (.iinc 2 1, 3) := by decide +kernel
theorem dd_xP_findReached_33 : decode prog_1_method_42_code 33 = .ok (.goto (-31), 3) := by decide +kernel
theorem dd_xP_findReached_36 : decode prog_1_method_42_code 36 = .ok (.aload_n 0, 1) := by decide +kernel
theorem dd_xP_findReached_37 : decode prog_1_method_42_code 37 = .ok (.iconst 0, 1) := by decide +kernel
theorem dd_xP_findReached_38 : decode prog_1_method_42_code 38 = .ok (.putfield 334, 3) := by decide +kernel
theorem dd_xP_findReached_41 : decode prog_1_method_42_code 41 = .ok (.aload_n 0, 1) := by decide +kernel
theorem dd_xP_findReached_42 : decode prog_1_method_42_code 42 = .ok (.aload_n 0, 1) := by decide +kernel
theorem dd_xP_findReached_43 : decode prog_1_method_42_code 43 = .ok (.getfield 20, 3) := by decide +kernel
theorem dd_xP_findReached_46 : decode prog_1_method_42_code 46 = .ok (.iload_n 1, 1) := by decide +kernel
theorem dd_xP_findReached_47 : decode prog_1_method_42_code 47 = .ok (.aaload, 1) := by decide +kernel
theorem dd_xP_findReached_48 : decode prog_1_method_42_code 48 = .ok (.getfield 89, 3) := by decide +kernel
theorem dd_xP_findReached_51 : decode prog_1_method_42_code 51 = .ok (.invokevirtual 337, 3) := by decide +kernel
theorem dd_xP_findReached_54 : decode prog_1_method_42_code 54 = .ok (.aload_n 0, 1) := by decide +kernel
theorem dd_xP_findReached_55 : decode prog_1_method_42_code 55 = .ok (.iload_n 1, 1) := by decide +kernel
theorem dd_xP_findReached_56 : decode prog_1_method_42_code 56 = .ok (.invokevirtual 341, 3) := by decide +kernel
theorem dd_xP_findReached_59 : decode prog_1_method_42_code 59 = .ok (.aload_n 0, 1) := by decide +kernel
theorem dd_xP_findReached_60 : decode prog_1_method_42_code 60 = .ok (.aload_n 0, 1) := by decide +kernel
theorem dd_xP_findReached_61 : decode prog_1_method_42_code 61 = .ok (.getfield 20, 3) := by decide +kernel
theorem dd_xP_findReached_64 : decode prog_1_method_42_code 64 = .ok (.iload_n 1, 1) := by decide +kernel
theorem dd_xP_findReached_65 : decode prog_1_method_42_code 65 = .ok (.aaload, 1) := by decide +kernel
theorem dd_xP_findReached_66 : decode prog_1_method_42_code 66 = .ok (.getfield 102, 3) := by decide +kernel
theorem dd_xP_findReached_69 : decode prog_1_method_42_code 69 = .ok (.invokevirtual 344, 3) := by decide +kernel
theorem dd_xP_findReached_72 : decode prog_1_method_42_code 72 = .ok (.iconst 0, 1) := by decide +kernel
theorem dd_xP_findReached_73 : decode prog_1_method_42_code 73 = .ok (.istore_n 2, 1) := by decide +kernel
theorem dd_xP_findReached_74 : decode prog_1_method_42_code 74 = .ok (.iload_n 2, 1) := by decide +kernel
theorem dd_xP_findReached_75 : decode prog_1_method_42_code 75 = .ok (.aload_n 0, 1) := by decide +kernel
theorem dd_xP_findReached_76 : decode prog_1_method_42_code 76 = .ok (.getfield 49, 3) := by decide +kernel
theorem dd_xP_findReached_79 : decode prog_1_method_42_code 79 = .ok (.arraylength, 1) := by decide +kernel
theorem dd_xP_findReached_80 : decode prog_1_method_42_code 80 = .ok (.if_icmp .ge 40, 3) := by decide +kernel
theorem dd_xP_findReached_83 : decode prog_1_method_42_code 83 = .ok (.iload_n 2, 1) := by decide +kernel
theorem dd_xP_findReached_84 : decode prog_1_method_42_code 84 = .ok (.aload_n 0, 1) := by decide +kernel
theorem dd_xP_findReached_85 : decode prog_1_method_42_code 85 = .ok (.getfield 334, 3) := by decide +kernel
theorem dd_xP_findReached_88 : decode prog_1_method_42_code 88 = .ok (.if_icmp .ge 32, 3) := by decide +kernel
theorem dd_xP_findReached_91 : decode prog_1_method_42_code 91 = .ok (.aload_n 0, 1) := by decide +kernel
theorem dd_xP_findReached_92 : decode prog_1_method_42_code 92 = .ok (.getfield 49, 3) := by decide +kernel
theorem dd_xP_findReached_95 : decode prog_1_method_42_code 95 = .ok (.iload_n 2, 1) := by decide +kernel
theorem dd_xP_findReached_96 : decode prog_1_method_42_code 96 = .ok (.aaload, 1) := by decide +kernel
theorem dd_xP_findReached_97 : decode prog_1_method_42_code 97 = .ok (.getfield 219, 3) := by decide +kernel
theorem dd_xP_findReached_100 : decode prog_1_method_42_code 100 = .ok (.iload_n 1, 1) := by decide +kernel
theorem dd_xP_findReached_101 : decode prog_1_method_42_code 101 = .ok (.if_icmp .ne 13, 3) := by decide +kernel
theorem dd_xP_findReached_104 : decode prog_1_method_42_code 104 = .ok (.aload_n 0, 1) := by decide +kernel
theorem dd_xP_findReached_105 : decode prog_1_method_42_code 105 = .ok (.aload_n 0, 1) := by decide +kernel
theorem dd_xP_findReached_106 : decode prog_1_method_42_code 106 = .ok (.getfield 49, 3) := by decide +kernel
theorem dd_xP_findReached_109 : decode prog_1_method_42_code 109 = .ok (.iload_n 2, 1) := by decide +kernel
theorem dd_xP_findReached_110 : decode prog_1_method_42_code 110 = .ok (.aaload, 1) := by decide +kernel
theorem dd_xP_findReached_111 : decode prog_1_method_42_code 111 = .ok (.invokevirtual 348, 3) := by decide +kernel
theorem dd_xP_findReached_114 : decode prog_1_method_42_code 114 = .ok (.iinc 2 1, 3) := by decide +kernel
theorem dd_xP_findReached_117 : decode prog_1_method_42_code 117 = .ok (.goto (-43), 3) := by decide +kernel
theorem dd_xP_findReached_120 : decode prog_1_method_42_code 120 = .ok (.return_, 1) := by decide +kernel
set_option maxHeartbeats 4000000 in
set_option maxRecDepth 100000 in
theorem kb_xP_findReached_b30 {p : Program} {l : Launch} {e : Env} {s : State} {m : MethodId} {args : Array Value} {below : List Frame} {meth : Method} {c : Code} {D : va_G} {ac : Nat → ClassId} {a0 : Nat} {gl : gl_T} {rF : Unit} {stF : st_S} {iT jT : Nat} {rec2 : Option Nat × Int32 × Int32 → st_M (Unit)}
    (X : cx_ p s m args c prog_1_method_42_code 3 "PromiseVats" tb_ D cl_ (ty_ ac)) (hKs : kn_ D ac a0 gl s) (hlk : meth.locks = false) (hret : meth.sig.returnType = (Option.none : Option FieldType)) (hnm : meth.name = "findReached") (hr2 : wk_ p l e 5 110 s m args below meth c D cl_ ac a0 3 vb_u rF stF iT jT 2 (fun x : Option Nat × Int32 × Int32 => [(0, (va_rf x.1)), (1, (.int x.2.1)), (2, (.int x.2.2))]) (fun x : Option Nat × Int32 × Int32 => []) rec2) : wk_ p l e 5 110 s m args below meth c D cl_ ac a0 3 vb_u rF stF iT jT 30 (fun x : Option Nat × Int32 × Int32 => [(0, (va_rf x.1)), (1, (.int x.2.1)), (2, (.int x.2.2))]) (fun x : Option Nat × Int32 × Int32 => []) (fun x : Option Nat × Int32 × Int32 => xP_findReached_b30 gl rec2 x.1 x.2.1 x.2.2) := by
  intro x st H locs cells slots i j ls hw hl h hci hcj
  obtain ⟨p0, p1, p2⟩ := x
  have h : xP_findReached_b30 gl rec2 p0 p1 p2 st = some (rF, stF, i, j) := h
  unfold xP_findReached_b30 at h
  have hl : lh_ ls 3 [(0, (va_rf p0)), (1, (.int p1)), (2, (.int p2))] := hl
  refine W.eq (g2 := F0 m 30 ls []) rfl ?_
  refine rr_iinc (k := 2) (v := (p2 + (1 : Int32))) (lv' := [(2, (.int (p2 + (1 : Int32)))), (0, (va_rf p0)), (1, (.int p1))]) X dd_xP_findReached_30 hl rfl (by rw [show Int32.ofInt (1) = (1 : Int32) from by decide]) (by decide) rfl (fun ls hl => ?_)
  refine lv_goto (tgt := 2) X.1 X.2.1 dd_xP_findReached_33 (by decide) ?_
  exact hr2 (p0, p1, (p2 + (1 : Int32))) _ _ _ _ _ _ _ _ hw (lh_pk hl [1, 2, 0] rfl) h hci hcj
set_option maxHeartbeats 4000000 in
set_option maxRecDepth 100000 in
theorem kb_xP_findReached_b114 {p : Program} {l : Launch} {e : Env} {s : State} {m : MethodId} {args : Array Value} {below : List Frame} {meth : Method} {c : Code} {D : va_G} {ac : Nat → ClassId} {a0 : Nat} {gl : gl_T} {rF : Unit} {stF : st_S} {iT jT : Nat} {rec74 : Option Nat × Int32 × Int32 → st_M (Unit)}
    (X : cx_ p s m args c prog_1_method_42_code 3 "PromiseVats" tb_ D cl_ (ty_ ac)) (hKs : kn_ D ac a0 gl s) (hlk : meth.locks = false) (hret : meth.sig.returnType = (Option.none : Option FieldType)) (hnm : meth.name = "findReached") (hr74 : wk_ p l e 5 110 s m args below meth c D cl_ ac a0 3 vb_u rF stF iT jT 74 (fun x : Option Nat × Int32 × Int32 => [(0, (va_rf x.1)), (1, (.int x.2.1)), (2, (.int x.2.2))]) (fun x : Option Nat × Int32 × Int32 => []) rec74) : wk_ p l e 5 110 s m args below meth c D cl_ ac a0 3 vb_u rF stF iT jT 114 (fun x : Option Nat × Int32 × Int32 => [(0, (va_rf x.1)), (1, (.int x.2.1)), (2, (.int x.2.2))]) (fun x : Option Nat × Int32 × Int32 => []) (fun x : Option Nat × Int32 × Int32 => xP_findReached_b114 gl rec74 x.1 x.2.1 x.2.2) := by
  intro x st H locs cells slots i j ls hw hl h hci hcj
  obtain ⟨p0, p1, p2⟩ := x
  have h : xP_findReached_b114 gl rec74 p0 p1 p2 st = some (rF, stF, i, j) := h
  unfold xP_findReached_b114 at h
  have hl : lh_ ls 3 [(0, (va_rf p0)), (1, (.int p1)), (2, (.int p2))] := hl
  refine W.eq (g2 := F0 m 114 ls []) rfl ?_
  refine rr_iinc (k := 2) (v := (p2 + (1 : Int32))) (lv' := [(2, (.int (p2 + (1 : Int32)))), (0, (va_rf p0)), (1, (.int p1))]) X dd_xP_findReached_114 hl rfl (by rw [show Int32.ofInt (1) = (1 : Int32) from by decide]) (by decide) rfl (fun ls hl => ?_)
  refine lv_goto (tgt := 74) X.1 X.2.1 dd_xP_findReached_117 (by decide) ?_
  exact hr74 (p0, p1, (p2 + (1 : Int32))) _ _ _ _ _ _ _ _ hw (lh_pk hl [1, 2, 0] rfl) h hci hcj
set_option maxHeartbeats 4000000 in
set_option maxRecDepth 100000 in
theorem kb_xP_findReached_b74 {p : Program} {l : Launch} {e : Env} {s : State} {m : MethodId} {args : Array Value} {below : List Frame} {meth : Method} {c : Code} {D : va_G} {ac : Nat → ClassId} {a0 : Nat} {gl : gl_T} {rF : Unit} {stF : st_S} {iT jT : Nat}
    (X : cx_ p s m args c prog_1_method_42_code 3 "PromiseVats" tb_ D cl_ (ty_ ac)) (hKs : kn_ D ac a0 gl s) (hlk : meth.locks = false) (hret : meth.sig.returnType = (Option.none : Option FieldType)) (hnm : meth.name = "findReached") : wk_ p l e 5 110 s m args below meth c D cl_ ac a0 3 vb_u rF stF iT jT 74 (fun x : Option Nat × Int32 × Int32 => [(0, (va_rf x.1)), (1, (.int x.2.1)), (2, (.int x.2.2))]) (fun x : Option Nat × Int32 × Int32 => []) (st_it (fun rec74 => (fun x : Option Nat × Int32 × Int32 => xP_findReached_b74 gl rec74 x.1 x.2.1 x.2.2)) fu_) := by
  refine wk_it ?_ _
  intro rec74 hr74 x st H locs cells slots i j ls hw hl h hci hcj
  obtain ⟨p0, p1, p2⟩ := x
  have h : xP_findReached_b74 gl rec74 p0 p1 p2 st = some (rF, stF, i, j) := h
  unfold xP_findReached_b74 at h
  have hl : lh_ ls 3 [(0, (va_rf p0)), (1, (.int p1)), (2, (.int p2))] := hl
  refine W.eq (g2 := F0 m 74 ls []) rfl ?_
  refine lv_iload_n X.1 X.2.1 dd_xP_findReached_74 rfl (lv_at hl.1 2 rfl) ?_
  refine rr_aldn X dd_xP_findReached_75 rfl (lv_at hl.1 0 rfl) ?_
  obtain ⟨t42, ht42, h⟩ := st_g_some h
  refine rr_getq X hw ff_0_8 ht42 tw_56 (Or.inl rfl) dd_xP_findReached_76 ?_
  obtain ⟨t43, ht43, h⟩ := st_g_some h
  refine rr_alen X hw (tl_6 ac) ht43 dd_xP_findReached_79 ?_
  by_cases hc80 : t43 ≤ p2
  · rw [if_pos hc80] at h
    refine lv_icmp_ge (tgt := 120) X.1 X.2.1 dd_xP_findReached_80 (by decide) (fun _ => ?_) (fun z => absurd hc80 z)
    obtain ⟨rfl, rfl, rfl, rfl⟩ := st_r_some h
    exact rr_vret X hw hlk hret hci hcj dd_xP_findReached_120
  · rw [if_neg hc80] at h
    refine lv_icmp_ge (tgt := 120) X.1 X.2.1 dd_xP_findReached_80 (by decide) (fun z => absurd z hc80) (fun _ => ?_)
    refine lv_iload_n X.1 X.2.1 dd_xP_findReached_83 rfl (lv_at hl.1 2 rfl) ?_
    refine rr_aldn X dd_xP_findReached_84 rfl (lv_at hl.1 0 rfl) ?_
    obtain ⟨t44, ht44, h⟩ := st_g_some h
    refine rr_geti X hw ff_0_9 ht44 tw_352 (Or.inl rfl) dd_xP_findReached_85 ?_
    by_cases hc88 : t44 ≤ p2
    · rw [if_pos hc88] at h
      refine lv_icmp_ge (tgt := 120) X.1 X.2.1 dd_xP_findReached_88 (by decide) (fun _ => ?_) (fun z => absurd hc88 z)
      obtain ⟨rfl, rfl, rfl, rfl⟩ := st_r_some h
      exact rr_vret X hw hlk hret hci hcj dd_xP_findReached_120
    · rw [if_neg hc88] at h
      refine lv_icmp_ge (tgt := 120) X.1 X.2.1 dd_xP_findReached_88 (by decide) (fun z => absurd z hc88) (fun _ => ?_)
      refine rr_aldn X dd_xP_findReached_91 rfl (lv_at hl.1 0 rfl) ?_
      obtain ⟨t45, ht45, h⟩ := st_g_some h
      refine rr_getq X hw ff_0_8 ht45 tw_56 (Or.inl rfl) dd_xP_findReached_92 ?_
      refine lv_iload_n X.1 X.2.1 dd_xP_findReached_95 rfl (lv_at hl.1 2 rfl) ?_
      obtain ⟨t46, ht46, h⟩ := st_g_some h
      refine rr_aald X hw (tq_6 ac) ht46 dd_xP_findReached_96 ?_
      obtain ⟨t47, ht47, h⟩ := st_g_some h
      refine rr_geti X hw ff_3_4_4 ht47 tw_196 (Or.inl rfl) dd_xP_findReached_97 ?_
      refine lv_iload_n X.1 X.2.1 dd_xP_findReached_100 rfl (lv_at hl.1 1 rfl) ?_
      by_cases hc101 : t47 = p1
      · rw [if_pos hc101] at h
        refine lv_icmp_ne (tgt := 114) X.1 X.2.1 dd_xP_findReached_101 (by decide) (fun z => absurd hc101 z) (fun _ => ?_)
        refine rr_aldn X dd_xP_findReached_104 rfl (lv_at hl.1 0 rfl) ?_
        refine rr_aldn X dd_xP_findReached_105 rfl (lv_at hl.1 0 rfl) ?_
        obtain ⟨t48, ht48, h⟩ := st_g_some h
        refine rr_getq X hw ff_0_8 ht48 tw_56 (Or.inl rfl) dd_xP_findReached_106 ?_
        refine lv_iload_n X.1 X.2.1 dd_xP_findReached_109 rfl (lv_at hl.1 2 rfl) ?_
        obtain ⟨t49, ht49, h⟩ := st_g_some h
        refine rr_aald X hw (tq_6 ac) ht49 dd_xP_findReached_110 ?_
        obtain ⟨t58, ht58, h⟩ := st_g_some h
        obtain ⟨t50, t51, t52, t53, t54, t55, ht50, h, ei, ej⟩ := st_b_some h
        refine rr_callV (n := 1) (As := [(va_rf t49)]) (rest := []) X hw (kn_ok D ac a0 gl) hKs (kc_xP_reachInside l D ac a0 gl p0 t49 _ _ _ _ _ ht50) tb_good tw_395 tw_91 tw_396 tw_397 se_37 ht58 (by decide +kernel) rfl (show 4 + 1 ≤ _ ∧ 8 + (5 + 11) + 86 ≤ _ from ⟨Nat.le_of_ble_eq_true rfl, Nat.le_of_ble_eq_true rfl⟩) (show cells + t52 ≤ iT ∧ slots + t53 ≤ jT from ⟨ar_1 hci ei, ar_1 hcj ej⟩) hl.1.1 (by simp [rf_cat, ic_cat]) rfl dd_xP_findReached_111 (sk := []) rfl (fun H locs hw => ?_)
        have hci : cells + t52 + t54 = iT := ar_2 hci ei
        have hcj : slots + t53 + t55 = jT := ar_2 hcj ej
        clear ei ej
        generalize cells + t52 = t56 at hci ⊢
        generalize slots + t53 = t57 at hcj ⊢
        exact (kb_xP_findReached_b114 X hKs hlk hret hnm hr74) (p0, p1, p2) _ _ _ _ _ _ _ _ hw (lh_pk hl [0, 1, 2] rfl) h hci hcj
      · rw [if_neg hc101] at h
        refine lv_icmp_ne (tgt := 114) X.1 X.2.1 dd_xP_findReached_101 (by decide) (fun _ => ?_) (fun z => absurd z hc101)
        exact (kb_xP_findReached_b114 X hKs hlk hret hnm hr74) (p0, p1, p2) _ _ _ _ _ _ _ _ hw (lh_pk hl [0, 1, 2] rfl) h hci hcj
set_option maxHeartbeats 4000000 in
set_option maxRecDepth 100000 in
theorem kb_xP_findReached_b2 {p : Program} {l : Launch} {e : Env} {s : State} {m : MethodId} {args : Array Value} {below : List Frame} {meth : Method} {c : Code} {D : va_G} {ac : Nat → ClassId} {a0 : Nat} {gl : gl_T} {rF : Unit} {stF : st_S} {iT jT : Nat}
    (X : cx_ p s m args c prog_1_method_42_code 3 "PromiseVats" tb_ D cl_ (ty_ ac)) (hKs : kn_ D ac a0 gl s) (hlk : meth.locks = false) (hret : meth.sig.returnType = (Option.none : Option FieldType)) (hnm : meth.name = "findReached") : wk_ p l e 5 110 s m args below meth c D cl_ ac a0 3 vb_u rF stF iT jT 2 (fun x : Option Nat × Int32 × Int32 => [(0, (va_rf x.1)), (1, (.int x.2.1)), (2, (.int x.2.2))]) (fun x : Option Nat × Int32 × Int32 => []) (st_it (fun rec2 => (fun x : Option Nat × Int32 × Int32 => xP_findReached_b2 gl rec2 x.1 x.2.1 x.2.2)) fu_) := by
  refine wk_it ?_ _
  intro rec2 hr2 x st H locs cells slots i j ls hw hl h hci hcj
  obtain ⟨p0, p1, p2⟩ := x
  have h : xP_findReached_b2 gl rec2 p0 p1 p2 st = some (rF, stF, i, j) := h
  unfold xP_findReached_b2 at h
  have hl : lh_ ls 3 [(0, (va_rf p0)), (1, (.int p1)), (2, (.int p2))] := hl
  refine W.eq (g2 := F0 m 2 ls []) rfl ?_
  refine lv_iload_n X.1 X.2.1 dd_xP_findReached_2 rfl (lv_at hl.1 2 rfl) ?_
  refine rr_aldn X dd_xP_findReached_3 rfl (lv_at hl.1 0 rfl) ?_
  obtain ⟨t1, ht1, h⟩ := st_g_some h
  refine rr_getq X hw ff_0_2 ht1 tw_64 (Or.inl rfl) dd_xP_findReached_4 ?_
  obtain ⟨t2, ht2, h⟩ := st_g_some h
  refine rr_alen X hw (tl_6 ac) ht2 dd_xP_findReached_7 ?_
  by_cases hc8 : t2 ≤ p2
  · rw [if_pos hc8] at h
    refine lv_icmp_ge (tgt := 36) X.1 X.2.1 dd_xP_findReached_8 (by decide) (fun _ => ?_) (fun z => absurd hc8 z)
    refine rr_aldn X dd_xP_findReached_36 rfl (lv_at hl.1 0 rfl) ?_
    refine lv_iconst (v := (0 : Int32)) X.1 X.2.1 dd_xP_findReached_37 (by decide) ?_
    obtain ⟨t3, hp38, h⟩ := st_w_some h
    refine rr_put (ty := .int) X hw ff_0_9 hp38 tw_352 (Or.inl rfl) (by decide +kernel) rfl rfl dd_xP_findReached_38 (fun H locs hw => ?_)
    refine rr_aldn X dd_xP_findReached_41 rfl (lv_at hl.1 0 rfl) ?_
    refine rr_aldn X dd_xP_findReached_42 rfl (lv_at hl.1 0 rfl) ?_
    obtain ⟨t4, ht4, h⟩ := st_g_some h
    refine rr_getq X hw ff_0_0 ht4 tw_66 (Or.inl rfl) dd_xP_findReached_43 ?_
    refine lv_iload_n X.1 X.2.1 dd_xP_findReached_46 rfl (lv_at hl.1 1 rfl) ?_
    obtain ⟨t5, ht5, h⟩ := st_g_some h
    refine rr_aald X hw (tq_4 ac) ht5 dd_xP_findReached_47 ?_
    obtain ⟨t6, ht6, h⟩ := st_g_some h
    refine rr_getq X hw ff_5_0 ht6 tw_109 (Or.inl rfl) dd_xP_findReached_48 ?_
    obtain ⟨t36, ht36, h⟩ := st_g_some h
    obtain ⟨t7, t8, t9, t10, t11, t12, ht7, h, ei, ej⟩ := st_b_some h
    refine rr_callV (n := 1) (As := [(va_rf t6)]) (rest := []) X hw (kn_ok D ac a0 gl) hKs (kc_xP_reach l D ac a0 gl p0 t6 _ _ _ _ _ ht7) tb_good tw_374 tw_91 tw_375 tw_376 se_32 ht36 (by decide +kernel) rfl (show 0 + 1 ≤ _ ∧ 8 + (2 + 11) + 0 ≤ _ from ⟨Nat.le_of_ble_eq_true rfl, Nat.le_of_ble_eq_true rfl⟩) (show cells + t9 ≤ iT ∧ slots + t10 ≤ jT from ⟨ar_1 hci ei, ar_1 hcj ej⟩) hl.1.1 (by simp [rf_cat, ic_cat]) rfl dd_xP_findReached_51 (sk := []) rfl (fun H locs hw => ?_)
    have hci : cells + t9 + t11 = iT := ar_2 hci ei
    have hcj : slots + t10 + t12 = jT := ar_2 hcj ej
    clear ei ej
    generalize cells + t9 = t13 at hci ⊢
    generalize slots + t10 = t14 at hcj ⊢
    refine rr_aldn X dd_xP_findReached_54 rfl (lv_at hl.1 0 rfl) ?_
    refine lv_iload_n X.1 X.2.1 dd_xP_findReached_55 rfl (lv_at hl.1 1 rfl) ?_
    obtain ⟨t35, ht35, h⟩ := st_g_some h
    obtain ⟨t15, t16, t17, t18, t19, t20, ht15, h, ei, ej⟩ := st_b_some h
    refine rr_callV (n := 1) (As := [(.int p1)]) (rest := []) X hw (kn_ok D ac a0 gl) hKs (kc_xP_reachWanted l D ac a0 gl p0 p1 _ _ _ _ _ ht15) tb_good tw_391 tw_91 tw_392 tw_393 se_36 ht35 (by decide +kernel) rfl (show 3 + 1 ≤ _ ∧ 8 + (4 + 11) + 64 ≤ _ from ⟨Nat.le_of_ble_eq_true rfl, Nat.le_of_ble_eq_true rfl⟩) (show t13 + t17 ≤ iT ∧ t14 + t18 ≤ jT from ⟨ar_1 hci ei, ar_1 hcj ej⟩) hl.1.1 (by simp [rf_cat, ic_cat]) rfl dd_xP_findReached_56 (sk := []) rfl (fun H locs hw => ?_)
    have hci : t13 + t17 + t19 = iT := ar_2 hci ei
    have hcj : t14 + t18 + t20 = jT := ar_2 hcj ej
    clear ei ej
    generalize t13 + t17 = t21 at hci ⊢
    generalize t14 + t18 = t22 at hcj ⊢
    refine rr_aldn X dd_xP_findReached_59 rfl (lv_at hl.1 0 rfl) ?_
    refine rr_aldn X dd_xP_findReached_60 rfl (lv_at hl.1 0 rfl) ?_
    obtain ⟨t23, ht23, h⟩ := st_g_some h
    refine rr_getq X hw ff_0_0 ht23 tw_66 (Or.inl rfl) dd_xP_findReached_61 ?_
    refine lv_iload_n X.1 X.2.1 dd_xP_findReached_64 rfl (lv_at hl.1 1 rfl) ?_
    obtain ⟨t24, ht24, h⟩ := st_g_some h
    refine rr_aald X hw (tq_4 ac) ht24 dd_xP_findReached_65 ?_
    obtain ⟨t25, ht25, h⟩ := st_g_some h
    refine rr_getq X hw ff_5_1 ht25 tw_204 (Or.inl rfl) dd_xP_findReached_66 ?_
    obtain ⟨t34, ht34, h⟩ := st_g_some h
    obtain ⟨t26, t27, t28, t29, t30, t31, ht26, h, ei, ej⟩ := st_b_some h
    refine rr_callV (n := 1) (As := [(va_rf t25)]) (rest := []) X hw (kn_ok D ac a0 gl) hKs (kc_xP_reachCalls l D ac a0 gl p0 t25 _ _ _ _ _ ht26) tb_good tw_387 tw_91 tw_388 tw_389 se_35 ht34 (by decide +kernel) rfl (show 3 + 1 ≤ _ ∧ 8 + (3 + 11) + 64 ≤ _ from ⟨Nat.le_of_ble_eq_true rfl, Nat.le_of_ble_eq_true rfl⟩) (show t21 + t28 ≤ iT ∧ t22 + t29 ≤ jT from ⟨ar_1 hci ei, ar_1 hcj ej⟩) hl.1.1 (by simp [rf_cat, ic_cat]) rfl dd_xP_findReached_69 (sk := []) rfl (fun H locs hw => ?_)
    have hci : t21 + t28 + t30 = iT := ar_2 hci ei
    have hcj : t22 + t29 + t31 = jT := ar_2 hcj ej
    clear ei ej
    generalize t21 + t28 = t32 at hci ⊢
    generalize t22 + t29 = t33 at hcj ⊢
    refine lv_iconst (v := (0 : Int32)) X.1 X.2.1 dd_xP_findReached_72 (by decide) ?_
    refine rr_istn (lv' := [(2, (.int (0 : Int32))), (0, (va_rf p0)), (1, (.int p1))]) X dd_xP_findReached_73 rfl hl (by decide) rfl (fun ls hl => ?_)
    exact (kb_xP_findReached_b74 X hKs hlk hret hnm) (p0, p1, (0 : Int32)) _ _ _ _ _ _ _ _ hw (lh_pk hl [1, 2, 0] rfl) h hci hcj
  · rw [if_neg hc8] at h
    refine lv_icmp_ge (tgt := 36) X.1 X.2.1 dd_xP_findReached_8 (by decide) (fun z => absurd z hc8) (fun _ => ?_)
    refine rr_aldn X dd_xP_findReached_11 rfl (lv_at hl.1 0 rfl) ?_
    obtain ⟨t37, ht37, h⟩ := st_g_some h
    refine rr_getq X hw ff_0_2 ht37 tw_64 (Or.inl rfl) dd_xP_findReached_12 ?_
    refine lv_iload_n X.1 X.2.1 dd_xP_findReached_15 rfl (lv_at hl.1 2 rfl) ?_
    obtain ⟨t38, ht38, h⟩ := st_g_some h
    refine rr_aald X hw (tq_6 ac) ht38 dd_xP_findReached_16 ?_
    by_cases hc17 : t38 = none
    · rw [if_pos hc17] at h
      refine rr_ifnull (tgt := 30) X dd_xP_findReached_17 (by decide) (fun _ => ?_) (fun z => absurd hc17 z)
      exact (kb_xP_findReached_b30 X hKs hlk hret hnm hr2) (p0, p1, p2) _ _ _ _ _ _ _ _ hw (lh_pk hl [0, 1, 2] rfl) h hci hcj
    · rw [if_neg hc17] at h
      refine rr_ifnull (tgt := 30) X dd_xP_findReached_17 (by decide) (fun z => absurd z hc17) (fun _ => ?_)
      refine rr_aldn X dd_xP_findReached_20 rfl (lv_at hl.1 0 rfl) ?_
      obtain ⟨t39, ht39, h⟩ := st_g_some h
      refine rr_getq X hw ff_0_2 ht39 tw_64 (Or.inl rfl) dd_xP_findReached_21 ?_
      refine lv_iload_n X.1 X.2.1 dd_xP_findReached_24 rfl (lv_at hl.1 2 rfl) ?_
      obtain ⟨t40, ht40, h⟩ := st_g_some h
      refine rr_aald X hw (tq_6 ac) ht40 dd_xP_findReached_25 ?_
      refine lv_iconst (v := (0 : Int32)) X.1 X.2.1 dd_xP_findReached_26 (by decide) ?_
      obtain ⟨t41, hp27, h⟩ := st_w_some h
      refine rr_put (ty := .boolean) X hw ff_3_4_6 hp27 tw_353 (Or.inl rfl) (by decide +kernel) (by decide) (by decide) dd_xP_findReached_27 (fun H locs hw => ?_)
      exact (kb_xP_findReached_b30 X hKs hlk hret hnm hr2) (p0, p1, p2) _ _ _ _ _ _ _ _ hw (lh_pk hl [0, 1, 2] rfl) h hci hcj
set_option maxHeartbeats 4000000 in
set_option maxRecDepth 100000 in
theorem kc_xP_findReached (l : Launch) (D : va_G) (ac : Nat → ClassId) (a0 : Nat) (gl : gl_T) (v0 : Option Nat) (v1 : Int32) (st : st_S) (rF : Unit) (stF : st_S) (iT jT : Nat) (h : xP_findReached gl v0 v1 st = some (rF, stF, iT, jT)) :
    ct_ l ⟨"PromiseVats", "findReached", "(I)V"⟩ (Cond.code ⟨"PromiseVats", "findReached", "(I)V"⟩ prog_1_method_42_code 3 (Option.none : Option FieldType) :: tb_) 5 110 D cl_ ac a0 (kn_ D ac a0 gl) [(va_rf v0), (.int v1)] st (vb_u rF) stF iT jT := by
  refine ct_of (kn_ok D ac a0 gl) (plainFor_of_name (by decide +kernel)) (by simp [rf_cat, ic_cat]) (by simp) ?_
  intro p e s m args below meth c ls X hw hKs hlk hret hnm hl
  unfold xP_findReached at h
  have hl : lh_ ls 3 [(0, (va_rf v0)), (1, (.int v1))] := hl
  obtain ⟨z0, hz0⟩ : ∃ z : Nat, 0 = z := ⟨0, rfl⟩
  obtain ⟨z1, hz1⟩ : ∃ z : Nat, 0 = z := ⟨0, rfl⟩
  refine W.cs hz0 hz1 ?_
  have hci : z0 + iT = iT := by omega
  have hcj : z1 + jT = jT := by omega
  refine lv_iconst (v := (1 : Int32)) X.1 X.2.1 dd_xP_findReached_0 (by decide) ?_
  refine rr_istn (lv' := [(2, (.int (1 : Int32))), (0, (va_rf v0)), (1, (.int v1))]) X dd_xP_findReached_1 rfl hl (by decide) rfl (fun ls hl => ?_)
  exact (kb_xP_findReached_b2 X hKs hlk hret hnm) (v0, v1, (1 : Int32)) _ _ _ _ _ _ _ _ hw (lh_pk hl [1, 2, 0] rfl) h hci hcj
/-! PromiseVats.freeUnreached(I)I -/
theorem dd_xP_freeUnreached_0 : decode prog_1_method_47_code 0 = .ok (.iconst 0, 1) := by decide +kernel
theorem dd_xP_freeUnreached_1 : decode prog_1_method_47_code 1 = .ok (.istore_n 2, 1) := by decide +kernel
theorem dd_xP_freeUnreached_2 : decode prog_1_method_47_code 2 = .ok (.iconst 1, 1) := by decide +kernel
theorem dd_xP_freeUnreached_3 : decode prog_1_method_47_code 3 = .ok (.istore_n 3, 1) := by decide +kernel
theorem dd_xP_freeUnreached_4 : decode prog_1_method_47_code 4 = .ok (.iload_n 3, 1) := by decide +kernel
theorem dd_xP_freeUnreached_5 : decode prog_1_method_47_code 5 = .ok (.aload_n 0, 1) := by decide +kernel
theorem dd_xP_freeUnreached_6 : decode prog_1_method_47_code 6 = .ok (.getfield 32, 3) := by decide +kernel
theorem dd_xP_freeUnreached_9 : decode prog_1_method_47_code 9 = .ok (.arraylength, 1) := by decide +kernel
theorem dd_xP_freeUnreached_10 : decode prog_1_method_47_code 10 = .ok (.if_icmp .ge 56, 3) := by decide +kernel
theorem dd_xP_freeUnreached_13 : decode prog_1_method_47_code 13 = .ok (.aload_n 0, 1) := by decide +kernel
theorem dd_xP_freeUnreached_14 : decode prog_1_method_47_code 14 = .ok (.getfield 32, 3) := by decide +kernel
theorem dd_xP_freeUnreached_17 : decode prog_1_method_47_code 17 = .ok (.iload_n 3, 1) := by decide +kernel
theorem dd_xP_freeUnreached_18 : decode prog_1_method_47_code 18 = .ok (.aaload, 1) := by decide +kernel
theorem dd_xP_freeUnreached_19 : decode prog_1_method_47_code 19 = .ok (.astore 4, 2) := by decide +kernel
theorem dd_xP_freeUnreached_21 : decode prog_1_method_47_code 21 = .ok (.aload 4, 2) := by decide +kernel
theorem dd_xP_freeUnreached_23 : decode prog_1_method_47_code 23 = .ok (.ifnull 37, 3) := by decide +kernel
theorem dd_xP_freeUnreached_26 : decode prog_1_method_47_code 26 = .ok (.aload 4, 2) := by decide +kernel
theorem dd_xP_freeUnreached_28 : decode prog_1_method_47_code 28 = .ok (.getfield 219, 3) := by decide +kernel
theorem dd_xP_freeUnreached_31 : decode prog_1_method_47_code 31 = .ok (.iload_n 1, 1) := by decide +kernel
theorem dd_xP_freeUnreached_32 : decode prog_1_method_47_code 32 = .ok (.if_icmp .ne 28, 3) := by decide +kernel
theorem dd_xP_freeUnreached_35 : decode prog_1_method_47_code 35 = .ok (.aload 4, 2) := by decide +kernel
theorem dd_xP_freeUnreached_37 : decode prog_1_method_47_code 37 = .ok (.getfield 331, 3) := by decide +kernel
theorem dd_xP_freeUnreached_40 : decode prog_1_method_47_code 40 = .ok (.ifCond .ne 20, 3) := by decide +kernel
theorem dd_xP_freeUnreached_43 : decode prog_1_method_47_code 43 = .ok (.aload 4, 2) := by decide +kernel
theorem dd_xP_freeUnreached_45 : decode prog_1_method_47_code 45 = .ok (.getfield 239, 3) := by decide +kernel
theorem dd_xP_freeUnreached_48 : decode prog_1_method_47_code 48 = .ok (.ifCond .ne 12, 3) := by decide +kernel
theorem dd_xP_freeUnreached_51 : decode prog_1_method_47_code 51 = .ok (.aload 4, 2) := by decide +kernel
theorem dd_xP_freeUnreached_53 : decode prog_1_method_47_code 53 = .ok (.iconst 1, 1) := by decide +kernel
theorem dd_xP_freeUnreached_54 : decode prog_1_method_47_code 54 = .ok (.putfield 239, 3) := by decide +kernel
theorem dd_xP_freeUnreached_57 : decode prog_1_method_47_code 57 = .ok (.iinc 2 1, 3) := by decide +kernel
theorem dd_xP_freeUnreached_60 : decode prog_1_method_47_code 60 = .ok (.iinc 3 1, 3) := by decide +kernel
theorem dd_xP_freeUnreached_63 : decode prog_1_method_47_code 63 = .ok (.goto (-59), 3) := by decide +kernel
theorem dd_xP_freeUnreached_66 : decode prog_1_method_47_code 66 = .ok (.iload_n 2, 1) := by decide +kernel
theorem dd_xP_freeUnreached_67 : decode prog_1_method_47_code 67 = .ok (.ireturn, 1) := by decide +kernel
set_option maxHeartbeats 4000000 in
set_option maxRecDepth 100000 in
theorem kb_xP_freeUnreached_b60 {p : Program} {l : Launch} {e : Env} {s : State} {m : MethodId} {args : Array Value} {below : List Frame} {meth : Method} {c : Code} {D : va_G} {ac : Nat → ClassId} {a0 : Nat} {gl : gl_T} {rF : Int32} {stF : st_S} {iT jT : Nat} {rec4 : Option Nat × Int32 × Int32 × Int32 → st_M (Int32)}
    (X : cx_ p s m args c prog_1_method_47_code 5 "PromiseVats" tb_ D cl_ (ty_ ac)) (hKs : kn_ D ac a0 gl s) (hlk : meth.locks = false) (hret : meth.sig.returnType = (Option.some FieldType.int)) (hnm : meth.name = "freeUnreached") (hr4 : wk_ p l e 0 0 s m args below meth c D cl_ ac a0 5 vb_i rF stF iT jT 4 (fun x : Option Nat × Int32 × Int32 × Int32 => [(0, (va_rf x.1)), (1, (.int x.2.1)), (2, (.int x.2.2.1)), (3, (.int x.2.2.2))]) (fun x : Option Nat × Int32 × Int32 × Int32 => []) rec4) : wk_ p l e 0 0 s m args below meth c D cl_ ac a0 5 vb_i rF stF iT jT 60 (fun x : Option Nat × Int32 × Int32 × Int32 => [(0, (va_rf x.1)), (1, (.int x.2.1)), (2, (.int x.2.2.1)), (3, (.int x.2.2.2))]) (fun x : Option Nat × Int32 × Int32 × Int32 => []) (fun x : Option Nat × Int32 × Int32 × Int32 => xP_freeUnreached_b60 gl rec4 x.1 x.2.1 x.2.2.1 x.2.2.2) := by
  intro x st H locs cells slots i j ls hw hl h hci hcj
  obtain ⟨p0, p1, p2, p3⟩ := x
  have h : xP_freeUnreached_b60 gl rec4 p0 p1 p2 p3 st = some (rF, stF, i, j) := h
  unfold xP_freeUnreached_b60 at h
  have hl : lh_ ls 5 [(0, (va_rf p0)), (1, (.int p1)), (2, (.int p2)), (3, (.int p3))] := hl
  refine W.eq (g2 := F0 m 60 ls []) rfl ?_
  refine rr_iinc (k := 3) (v := (p3 + (1 : Int32))) (lv' := [(3, (.int (p3 + (1 : Int32)))), (0, (va_rf p0)), (1, (.int p1)), (2, (.int p2))]) X dd_xP_freeUnreached_60 hl rfl (by rw [show Int32.ofInt (1) = (1 : Int32) from by decide]) (by decide) rfl (fun ls hl => ?_)
  refine lv_goto (tgt := 4) X.1 X.2.1 dd_xP_freeUnreached_63 (by decide) ?_
  exact hr4 (p0, p1, p2, (p3 + (1 : Int32))) _ _ _ _ _ _ _ _ hw (lh_pk hl [1, 2, 3, 0] rfl) h hci hcj
set_option maxHeartbeats 4000000 in
set_option maxRecDepth 100000 in
theorem kb_xP_freeUnreached_b4 {p : Program} {l : Launch} {e : Env} {s : State} {m : MethodId} {args : Array Value} {below : List Frame} {meth : Method} {c : Code} {D : va_G} {ac : Nat → ClassId} {a0 : Nat} {gl : gl_T} {rF : Int32} {stF : st_S} {iT jT : Nat}
    (X : cx_ p s m args c prog_1_method_47_code 5 "PromiseVats" tb_ D cl_ (ty_ ac)) (hKs : kn_ D ac a0 gl s) (hlk : meth.locks = false) (hret : meth.sig.returnType = (Option.some FieldType.int)) (hnm : meth.name = "freeUnreached") : wk_ p l e 0 0 s m args below meth c D cl_ ac a0 5 vb_i rF stF iT jT 4 (fun x : Option Nat × Int32 × Int32 × Int32 => [(0, (va_rf x.1)), (1, (.int x.2.1)), (2, (.int x.2.2.1)), (3, (.int x.2.2.2))]) (fun x : Option Nat × Int32 × Int32 × Int32 => []) (st_it (fun rec4 => (fun x : Option Nat × Int32 × Int32 × Int32 => xP_freeUnreached_b4 gl rec4 x.1 x.2.1 x.2.2.1 x.2.2.2)) fu_) := by
  refine wk_it ?_ _
  intro rec4 hr4 x st H locs cells slots i j ls hw hl h hci hcj
  obtain ⟨p0, p1, p2, p3⟩ := x
  have h : xP_freeUnreached_b4 gl rec4 p0 p1 p2 p3 st = some (rF, stF, i, j) := h
  unfold xP_freeUnreached_b4 at h
  have hl : lh_ ls 5 [(0, (va_rf p0)), (1, (.int p1)), (2, (.int p2)), (3, (.int p3))] := hl
  refine W.eq (g2 := F0 m 4 ls []) rfl ?_
  refine lv_iload_n X.1 X.2.1 dd_xP_freeUnreached_4 rfl (lv_at hl.1 3 rfl) ?_
  refine rr_aldn X dd_xP_freeUnreached_5 rfl (lv_at hl.1 0 rfl) ?_
  obtain ⟨t1, ht1, h⟩ := st_g_some h
  refine rr_getq X hw ff_0_2 ht1 tw_64 (Or.inl rfl) dd_xP_freeUnreached_6 ?_
  obtain ⟨t2, ht2, h⟩ := st_g_some h
  refine rr_alen X hw (tl_6 ac) ht2 dd_xP_freeUnreached_9 ?_
  by_cases hc10 : t2 ≤ p3
  · rw [if_pos hc10] at h
    refine lv_icmp_ge (tgt := 66) X.1 X.2.1 dd_xP_freeUnreached_10 (by decide) (fun _ => ?_) (fun z => absurd hc10 z)
    refine lv_iload_n X.1 X.2.1 dd_xP_freeUnreached_66 rfl (lv_at hl.1 2 rfl) ?_
    obtain ⟨rfl, rfl, rfl, rfl⟩ := st_r_some h
    exact rr_iret X hw hlk hret rfl hci hcj dd_xP_freeUnreached_67
  · rw [if_neg hc10] at h
    refine lv_icmp_ge (tgt := 66) X.1 X.2.1 dd_xP_freeUnreached_10 (by decide) (fun z => absurd z hc10) (fun _ => ?_)
    refine rr_aldn X dd_xP_freeUnreached_13 rfl (lv_at hl.1 0 rfl) ?_
    obtain ⟨t3, ht3, h⟩ := st_g_some h
    refine rr_getq X hw ff_0_2 ht3 tw_64 (Or.inl rfl) dd_xP_freeUnreached_14 ?_
    refine lv_iload_n X.1 X.2.1 dd_xP_freeUnreached_17 rfl (lv_at hl.1 3 rfl) ?_
    obtain ⟨t4, ht4, h⟩ := st_g_some h
    refine rr_aald X hw (tq_6 ac) ht4 dd_xP_freeUnreached_18 ?_
    refine rr_ast (lv' := [(4, (va_rf t4)), (0, (va_rf p0)), (1, (.int p1)), (2, (.int p2)), (3, (.int p3))]) X dd_xP_freeUnreached_19 hl (by decide) rfl (fun ls hl => ?_)
    refine rr_ald X dd_xP_freeUnreached_21 (lv_at hl.1 0 rfl) ?_
    by_cases hc23 : t4 = none
    · rw [if_pos hc23] at h
      refine rr_ifnull (tgt := 60) X dd_xP_freeUnreached_23 (by decide) (fun _ => ?_) (fun z => absurd hc23 z)
      exact (kb_xP_freeUnreached_b60 X hKs hlk hret hnm hr4) (p0, p1, p2, p3) _ _ _ _ _ _ _ _ hw (lh_pk hl [1, 2, 3, 4] rfl) h hci hcj
    · rw [if_neg hc23] at h
      refine rr_ifnull (tgt := 60) X dd_xP_freeUnreached_23 (by decide) (fun z => absurd z hc23) (fun _ => ?_)
      refine rr_ald X dd_xP_freeUnreached_26 (lv_at hl.1 0 rfl) ?_
      obtain ⟨t5, ht5, h⟩ := st_g_some h
      refine rr_geti X hw ff_3_4_4 ht5 tw_196 (Or.inl rfl) dd_xP_freeUnreached_28 ?_
      refine lv_iload_n X.1 X.2.1 dd_xP_freeUnreached_31 rfl (lv_at hl.1 2 rfl) ?_
      by_cases hc32 : t5 = p1
      · rw [if_pos hc32] at h
        refine lv_icmp_ne (tgt := 60) X.1 X.2.1 dd_xP_freeUnreached_32 (by decide) (fun z => absurd hc32 z) (fun _ => ?_)
        refine rr_ald X dd_xP_freeUnreached_35 (lv_at hl.1 0 rfl) ?_
        obtain ⟨t6, ht6, h⟩ := st_g_some h
        refine rr_geti X hw ff_3_4_6 ht6 tw_353 (Or.inl rfl) dd_xP_freeUnreached_37 ?_
        by_cases hc40 : t6 = 0
        · rw [if_pos hc40] at h
          refine lv_if_ne (tgt := 60) X.1 X.2.1 dd_xP_freeUnreached_40 (by decide) (fun z => absurd hc40 z) (fun _ => ?_)
          refine rr_ald X dd_xP_freeUnreached_43 (lv_at hl.1 0 rfl) ?_
          obtain ⟨t7, ht7, h⟩ := st_g_some h
          refine rr_geti X hw ff_3_4_5 ht7 tw_386 (Or.inl rfl) dd_xP_freeUnreached_45 ?_
          by_cases hc48 : t7 = 0
          · rw [if_pos hc48] at h
            refine lv_if_ne (tgt := 60) X.1 X.2.1 dd_xP_freeUnreached_48 (by decide) (fun z => absurd hc48 z) (fun _ => ?_)
            refine rr_ald X dd_xP_freeUnreached_51 (lv_at hl.1 0 rfl) ?_
            refine lv_iconst (v := (1 : Int32)) X.1 X.2.1 dd_xP_freeUnreached_53 (by decide) ?_
            obtain ⟨t8, hp54, h⟩ := st_w_some h
            refine rr_put (ty := .boolean) X hw ff_3_4_5 hp54 tw_386 (Or.inl rfl) (by decide +kernel) (by decide) (by decide) dd_xP_freeUnreached_54 (fun H locs hw => ?_)
            refine rr_iinc (k := 3) (v := (p2 + (1 : Int32))) (lv' := [(2, (.int (p2 + (1 : Int32)))), (4, (va_rf t4)), (0, (va_rf p0)), (1, (.int p1)), (3, (.int p3))]) X dd_xP_freeUnreached_57 hl rfl (by rw [show Int32.ofInt (1) = (1 : Int32) from by decide]) (by decide) rfl (fun ls hl => ?_)
            exact (kb_xP_freeUnreached_b60 X hKs hlk hret hnm hr4) (p0, p1, (p2 + (1 : Int32)), p3) _ _ _ _ _ _ _ _ hw (lh_pk hl [2, 3, 0, 4] rfl) h hci hcj
          · rw [if_neg hc48] at h
            refine lv_if_ne (tgt := 60) X.1 X.2.1 dd_xP_freeUnreached_48 (by decide) (fun _ => ?_) (fun z => absurd z hc48)
            exact (kb_xP_freeUnreached_b60 X hKs hlk hret hnm hr4) (p0, p1, p2, p3) _ _ _ _ _ _ _ _ hw (lh_pk hl [1, 2, 3, 4] rfl) h hci hcj
        · rw [if_neg hc40] at h
          refine lv_if_ne (tgt := 60) X.1 X.2.1 dd_xP_freeUnreached_40 (by decide) (fun _ => ?_) (fun z => absurd z hc40)
          exact (kb_xP_freeUnreached_b60 X hKs hlk hret hnm hr4) (p0, p1, p2, p3) _ _ _ _ _ _ _ _ hw (lh_pk hl [1, 2, 3, 4] rfl) h hci hcj
      · rw [if_neg hc32] at h
        refine lv_icmp_ne (tgt := 60) X.1 X.2.1 dd_xP_freeUnreached_32 (by decide) (fun _ => ?_) (fun z => absurd z hc32)
        exact (kb_xP_freeUnreached_b60 X hKs hlk hret hnm hr4) (p0, p1, p2, p3) _ _ _ _ _ _ _ _ hw (lh_pk hl [1, 2, 3, 4] rfl) h hci hcj
set_option maxHeartbeats 4000000 in
set_option maxRecDepth 100000 in
theorem kc_xP_freeUnreached (l : Launch) (D : va_G) (ac : Nat → ClassId) (a0 : Nat) (gl : gl_T) (v0 : Option Nat) (v1 : Int32) (st : st_S) (rF : Int32) (stF : st_S) (iT jT : Nat) (h : xP_freeUnreached gl v0 v1 st = some (rF, stF, iT, jT)) :
    ct_ l ⟨"PromiseVats", "freeUnreached", "(I)I"⟩ (Cond.code ⟨"PromiseVats", "freeUnreached", "(I)I"⟩ prog_1_method_47_code 5 (Option.some FieldType.int) :: tb_) 0 0 D cl_ ac a0 (kn_ D ac a0 gl) [(va_rf v0), (.int v1)] st (vb_i rF) stF iT jT := by
  refine ct_of (kn_ok D ac a0 gl) (plainFor_of_name (by decide +kernel)) (by simp [rf_cat, ic_cat]) (by simp) ?_
  intro p e s m args below meth c ls X hw hKs hlk hret hnm hl
  unfold xP_freeUnreached at h
  have hl : lh_ ls 5 [(0, (va_rf v0)), (1, (.int v1))] := hl
  obtain ⟨z0, hz0⟩ : ∃ z : Nat, 0 = z := ⟨0, rfl⟩
  obtain ⟨z1, hz1⟩ : ∃ z : Nat, 0 = z := ⟨0, rfl⟩
  refine W.cs hz0 hz1 ?_
  have hci : z0 + iT = iT := by omega
  have hcj : z1 + jT = jT := by omega
  refine lv_iconst (v := (0 : Int32)) X.1 X.2.1 dd_xP_freeUnreached_0 (by decide) ?_
  refine rr_istn (lv' := [(2, (.int (0 : Int32))), (0, (va_rf v0)), (1, (.int v1))]) X dd_xP_freeUnreached_1 rfl hl (by decide) rfl (fun ls hl => ?_)
  refine lv_iconst (v := (1 : Int32)) X.1 X.2.1 dd_xP_freeUnreached_2 (by decide) ?_
  refine rr_istn (lv' := [(3, (.int (1 : Int32))), (2, (.int (0 : Int32))), (0, (va_rf v0)), (1, (.int v1))]) X dd_xP_freeUnreached_3 rfl hl (by decide) rfl (fun ls hl => ?_)
  exact (kb_xP_freeUnreached_b4 X hKs hlk hret hnm) (v0, v1, (0 : Int32), (1 : Int32)) _ _ _ _ _ _ _ _ hw (lh_pk hl [2, 3, 1, 0] rfl) h hci hcj
