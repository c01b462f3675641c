/-! PromiseVatsModel.lives(I)Z -/
theorem dd_mm_lives_0 : decode prog_12_method_4_code 0 = .ok (.aload_n 0, 1) := by decide +kernel
theorem dd_mm_lives_1 : decode prog_12_method_4_code 1 = .ok (.iload_n 1, 1) := by decide +kernel
theorem dd_mm_lives_2 : decode prog_12_method_4_code 2 = .ok (.invokevirtual 104, 3) := by decide +kernel
theorem dd_mm_lives_5 : decode prog_12_method_4_code 5 = .ok (.ifCond .eq 16, 3) := by decide +kernel
theorem dd_mm_lives_8 : decode prog_12_method_4_code 8 = .ok (.aload_n 0, 1) := by decide +kernel
theorem dd_mm_lives_9 : decode prog_12_method_4_code 9 = .ok (.getfield 23, 3) := by decide +kernel
theorem dd_mm_lives_12 : decode prog_12_method_4_code 12 = .ok (.iload_n 1, 1) := by decide +kernel
theorem dd_mm_lives_13 : decode prog_12_method_4_code 13 = .ok (.baload, 1) := by decide +kernel
theorem dd_mm_lives_14 : decode prog_12_method_4_code 14 = .ok (.ifCond .ne 7, 3) := by decide +kernel
theorem dd_mm_lives_17 : decode prog_12_method_4_code 17 = .ok (.iconst 1, 1) := by decide +kernel
theorem dd_mm_lives_18 : decode prog_12_method_4_code 18 = .ok (.goto 4, 3) := by decide +kernel
theorem dd_mm_lives_21 : decode prog_12_method_4_code 21 = .ok (.iconst 0, 1) := by decide +kernel
theorem dd_mm_lives_22 : decode prog_12_method_4_code 22 = .ok (.ireturn, 1) := by decide +kernel
set_option maxHeartbeats 4000000 in
set_option maxRecDepth 100000 in
theorem kb_mm_lives_b21 {p : Program} {l : Launch} {e : Env} {s : State} {m : MethodId} {args : Array Value} {below : List Frame} {meth : Method} {c : Code} {D : va_G} {ac : Nat → ClassId} {a0 : Nat} {gl : gl_T} {rF : Int32} {stF : st_S} {iT jT : Nat}
    (X : cx_ p s m args c prog_12_method_4_code 2 "PromiseVatsModel" tb_ D cl_ (ty_ ac)) (hKs : kn_ D ac a0 gl s) (hlk : meth.locks = false) (hret : meth.sig.returnType = (Option.some FieldType.boolean)) (hnm : meth.name = "lives") : wk_ p l e 1 21 s m args below meth c D cl_ ac a0 2 vb_i rF stF iT jT 21 (fun x : Unit => []) (fun x : Unit => []) (fun _ : Unit => mm_lives_b21 gl) := by
  intro x st H locs cells slots i j ls hw hl h hci hcj
  have h : mm_lives_b21 gl  st = some (rF, stF, i, j) := h
  unfold mm_lives_b21 at h
  have hl : lh_ ls 2 [] := hl
  refine W.eq (g2 := F0 m 21 ls []) rfl ?_
  refine lv_iconst (v := (0 : Int32)) X.1 X.2.1 dd_mm_lives_21 (by decide) ?_
  obtain ⟨rfl, rfl, rfl, rfl⟩ := st_r_some h
  exact rr_iret X hw hlk hret (by decide) hci hcj dd_mm_lives_22
set_option maxHeartbeats 4000000 in
set_option maxRecDepth 100000 in
theorem kc_mm_lives (l : Launch) (D : va_G) (ac : Nat → ClassId) (a0 : Nat) (gl : gl_T) (v0 : Option Nat) (v1 : Int32) (st : st_S) (rF : Int32) (stF : st_S) (iT jT : Nat) (h : mm_lives gl v0 v1 st = some (rF, stF, iT, jT)) :
    ct_ l ⟨"PromiseVatsModel", "lives", "(I)Z"⟩ (Cond.code ⟨"PromiseVatsModel", "lives", "(I)Z"⟩ prog_12_method_4_code 2 (Option.some FieldType.boolean) :: tb_) 1 21 D cl_ ac a0 (kn_ D ac a0 gl) [(va_rf v0), (.int v1)] st (vb_i rF) stF iT jT := by
  refine ct_of (kn_ok D ac a0 gl) (plainFor_of_name (by decide +kernel)) (by simp [rf_cat, ic_cat]) (by simp) ?_
  intro p e s m args below meth c ls X hw hKs hlk hret hnm hl
  unfold mm_lives at h
  have hl : lh_ ls 2 [(0, (va_rf v0)), (1, (.int v1))] := hl
  obtain ⟨z0, hz0⟩ : ∃ z : Nat, 0 = z := ⟨0, rfl⟩
  obtain ⟨z1, hz1⟩ : ∃ z : Nat, 0 = z := ⟨0, rfl⟩
  refine W.cs hz0 hz1 ?_
  have hci : z0 + iT = iT := by omega
  have hcj : z1 + jT = jT := by omega
  refine rr_aldn X dd_mm_lives_0 rfl (lv_at hl.1 0 rfl) ?_
  refine lv_iload_n X.1 X.2.1 dd_mm_lives_1 rfl (lv_at hl.1 1 rfl) ?_
  obtain ⟨t11, ht11, h⟩ := st_g_some h
  obtain ⟨t1, t2, t3, t4, t5, t6, ht1, h, ei, ej⟩ := st_b_some h
  refine rr_callV (n := 1) (As := [(.int v1)]) (rest := []) X hw (kn_ok D ac a0 gl) hKs (kc_mm_made l D ac a0 gl v0 v1 _ _ _ _ _ ht1) tb_good tw_551 tw_469 tw_552 tw_553 se_62 ht11 (by decide +kernel) rfl (show 0 + 1 ≤ _ ∧ 8 + (2 + 11) + 0 ≤ _ from ⟨Nat.le_of_ble_eq_true rfl, Nat.le_of_ble_eq_true rfl⟩) (show z0 + t3 ≤ iT ∧ z1 + t4 ≤ jT from ⟨ar_1 hci ei, ar_1 hcj ej⟩) hl.1.1 (by simp [rf_cat, ic_cat]) rfl dd_mm_lives_2 (sk := [(.int t1)]) rfl (fun H locs hw => ?_)
  have hci : z0 + t3 + t5 = iT := ar_2 hci ei
  have hcj : z1 + t4 + t6 = jT := ar_2 hcj ej
  clear ei ej
  generalize z0 + t3 = t7 at hci ⊢
  generalize z1 + t4 = t8 at hcj ⊢
  by_cases hc5 : t1 = 0
  · rw [if_pos hc5] at h
    refine lv_if_eq (tgt := 21) X.1 X.2.1 dd_mm_lives_5 (by decide) (fun _ => ?_) (fun z => absurd hc5 z)
    exact (kb_mm_lives_b21 X hKs hlk hret hnm) () _ _ _ _ _ _ _ _ hw (lh_pk hl [] rfl) h hci hcj
  · rw [if_neg hc5] at h
    refine lv_if_eq (tgt := 21) X.1 X.2.1 dd_mm_lives_5 (by decide) (fun z => absurd z hc5) (fun _ => ?_)
    refine rr_aldn X dd_mm_lives_8 rfl (lv_at hl.1 0 rfl) ?_
    obtain ⟨t9, ht9, h⟩ := st_g_some h
    refine rr_getq X hw ff_10_7 ht9 tw_460 (Or.inl rfl) dd_mm_lives_9 ?_
    refine lv_iload_n X.1 X.2.1 dd_mm_lives_12 rfl (lv_at hl.1 1 rfl) ?_
    obtain ⟨t10, ht10, h⟩ := st_g_some h
    refine rr_zald (t := 2) X hw rfl ht10 dd_mm_lives_13 ?_
    by_cases hc14 : t10 = 0
    · rw [if_pos hc14] at h
      refine lv_if_ne (tgt := 21) X.1 X.2.1 dd_mm_lives_14 (by decide) (fun z => absurd hc14 z) (fun _ => ?_)
      refine lv_iconst (v := (1 : Int32)) X.1 X.2.1 dd_mm_lives_17 (by decide) ?_
      refine lv_goto (tgt := 22) X.1 X.2.1 dd_mm_lives_18 (by decide) ?_
      obtain ⟨rfl, rfl, rfl, rfl⟩ := st_r_some h
      exact rr_iret X hw hlk hret (by decide) hci hcj dd_mm_lives_22
    · rw [if_neg hc14] at h
      refine lv_if_ne (tgt := 21) X.1 X.2.1 dd_mm_lives_14 (by decide) (fun _ => ?_) (fun z => absurd z hc14)
      exact (kb_mm_lives_b21 X hKs hlk hret hnm) () _ _ _ _ _ _ _ _ hw (lh_pk hl [] rfl) h hci hcj
/-! PromiseVatsModel.rooted(II)Z -/
theorem dd_mm_rooted_0 : decode prog_12_method_30_code 0 = .ok (.iload_n 2, 1) := by decide +kernel
theorem dd_mm_rooted_1 : decode prog_12_method_30_code 1 = .ok (.iload_n 1, 1) := by decide +kernel
theorem dd_mm_rooted_2 : decode prog_12_method_30_code 2 = .ok (.iconst 1, 1) := by decide +kernel
theorem dd_mm_rooted_3 : decode prog_12_method_30_code 3 = .ok (.iadd, 1) := by decide +kernel
theorem dd_mm_rooted_4 : decode prog_12_method_30_code 4 = .ok (.if_icmp .ne 7, 3) := by decide +kernel
theorem dd_mm_rooted_7 : decode prog_12_method_30_code 7 = .ok (.iconst 1, 1) := by decide +kernel
theorem dd_mm_rooted_8 : decode prog_12_method_30_code 8 = .ok (.goto 4, 3) := by decide +kernel
theorem dd_mm_rooted_11 : decode prog_12_method_30_code 11 = .ok (.iconst 0, 1) := by decide +kernel
theorem dd_mm_rooted_12 : decode prog_12_method_30_code 12 = .ok (.istore_n 3, 1) := by decide +kernel
theorem dd_mm_rooted_13 : decode prog_12_method_30_code 13 = .ok (.iconst 0, 1) := by decide +kernel
theorem dd_mm_rooted_14 : decode prog_12_method_30_code 14 = .ok (.istore 4, 2) := by decide +kernel
theorem dd_mm_rooted_16 : decode prog_12_method_30_code 16 = .ok (.iload 4, 2) := by decide +kernel
theorem dd_mm_rooted_18 : decode prog_12_method_30_code 18 = .ok (.iconst 4, 1) := by decide +kernel
theorem dd_mm_rooted_19 : decode prog_12_method_30_code 19 = .ok (.if_icmp .ge 33, 3) := by decide +kernel
theorem dd_mm_rooted_22 : decode prog_12_method_30_code 22 = .ok (.iload_n 3, 1) := by decide +kernel
theorem dd_mm_rooted_23 : decode prog_12_method_30_code 23 = .ok (.ifCond .ne 17, 3) := by decide +kernel
theorem dd_mm_rooted_26 : decode prog_12_method_30_code 26 = .ok (.aload_n 0, 1) := by decide +kernel
theorem dd_mm_rooted_27 : decode prog_12_method_30_code 27 = .ok (.getfield 45, 3) := by decide +kernel
theorem dd_mm_rooted_30 : decode prog_12_method_30_code 30 = .ok (.iconst 4, 1) := by decide +kernel
theorem dd_mm_rooted_31 : decode prog_12_method_30_code 31 = .ok (.iload_n 2, 1) := by decide +kernel
theorem dd_mm_rooted_32 : decode prog_12_method_30_code 32 = .ok (.imul, 1) := by decide +kernel
theorem dd_mm_rooted_33 : decode prog_12_method_30_code 33 = .ok (.iload 4, 2) := by decide +kernel
theorem dd_mm_rooted_35 : decode prog_12_method_30_code 35 = .ok (.iadd, 1) := by decide +kernel
theorem dd_mm_rooted_36 : decode prog_12_method_30_code 36 = .ok (.iaload, 1) := by decide +kernel
theorem dd_mm_rooted_37 : decode prog_12_method_30_code 37 = .ok (.ifCond .le 7, 3) := by decide +kernel
theorem dd_mm_rooted_40 : decode prog_12_method_30_code 40 = .ok (.iconst 1, 1) := by decide +kernel
theorem dd_mm_rooted_41 : decode prog_12_method_30_code 41 = .ok (.goto 4, 3) := by decide +kernel
theorem dd_mm_rooted_44 : decode prog_12_method_30_code 44 = .ok (.iconst 0, 1) := by decide +kernel
theorem dd_mm_rooted_45 : decode prog_12_method_30_code 45 = .ok (.istore_n 3, 1) := by decide +kernel
theorem dd_mm_rooted_46 : decode prog_12_method_30_code 46 = .ok (.iinc 4 1, 3) := by decide +kernel
theorem dd_mm_rooted_49 : decode prog_12_method_30_code 49 = .ok (.goto (-33), 3) := by decide +kernel
theorem dd_mm_rooted_52 : decode prog_12_method_30_code 52 = .ok (.iconst 0, 1) := by decide +kernel
theorem dd_mm_rooted_53 : decode prog_12_method_30_code 53 = .ok (.istore 4, 2) := by decide +kernel
theorem dd_mm_rooted_55 : decode prog_12_method_30_code 55 = .ok (.iload 4, 2) := by decide +kernel
theorem dd_mm_rooted_57 : decode prog_12_method_30_code 57 = .ok (.bipush 16, 2) := by decide +kernel
theorem dd_mm_rooted_59 : decode prog_12_method_30_code 59 = .ok (.if_icmp .ge 34, 3) := by decide +kernel
theorem dd_mm_rooted_62 : decode prog_12_method_30_code 62 = .ok (.iload_n 3, 1) := by decide +kernel
theorem dd_mm_rooted_63 : decode prog_12_method_30_code 63 = .ok (.ifCond .ne 18, 3) := by decide +kernel
theorem dd_mm_rooted_66 : decode prog_12_method_30_code 66 = .ok (.aload_n 0, 1) := by decide +kernel
theorem dd_mm_rooted_67 : decode prog_12_method_30_code 67 = .ok (.getfield 51, 3) := by decide +kernel
theorem dd_mm_rooted_70 : decode prog_12_method_30_code 70 = .ok (.bipush 16, 2) := by decide +kernel
theorem dd_mm_rooted_72 : decode prog_12_method_30_code 72 = .ok (.iload_n 2, 1) := by decide +kernel
theorem dd_mm_rooted_73 : decode prog_12_method_30_code 73 = .ok (.imul, 1) := by decide +kernel
theorem dd_mm_rooted_74 : decode prog_12_method_30_code 74 = .ok (.iload 4, 2) := by decide +kernel
theorem dd_mm_rooted_76 : decode prog_12_method_30_code 76 = .ok (.iadd, 1) := by decide +kernel
theorem dd_mm_rooted_77 : decode prog_12_method_30_code 77 = .ok (.iaload, 1) := by decide +kernel
theorem dd_mm_rooted_78 : decode prog_12_method_30_code 78 = .ok (.ifCond .le 7, 3) := by decide +kernel
theorem dd_mm_rooted_81 : decode prog_12_method_30_code 81 = .ok (.iconst 1, 1) := by decide +kernel
theorem dd_mm_rooted_82 : decode prog_12_method_30_code 82 = .ok (.goto 4, 3) := by decide +kernel
theorem dd_mm_rooted_85 : decode prog_12_method_30_code 85 = .ok (.iconst 0, 1) := by decide +kernel
theorem dd_mm_rooted_86 : decode prog_12_method_30_code 86 = .ok (.istore_n 3, 1) := by decide +kernel
theorem dd_mm_rooted_87 : decode prog_12_method_30_code 87 = .ok (.iinc 4 1, 3) := by decide +kernel
theorem dd_mm_rooted_90 : decode prog_12_method_30_code 90 = .ok (.goto (-35), 3) := by decide +kernel
theorem dd_mm_rooted_93 : decode prog_12_method_30_code 93 = .ok (.iload_n 3, 1) := by decide +kernel
theorem dd_mm_rooted_94 : decode prog_12_method_30_code 94 = .ok (.ireturn, 1) := by decide +kernel
set_option maxHeartbeats 4000000 in
set_option maxRecDepth 100000 in
theorem kb_mm_rooted_b45 {p : Program} {l : Launch} {e : Env} {s : State} {m : MethodId} {args : Array Value} {below : List Frame} {meth : Method} {c : Code} {D : va_G} {ac : Nat → ClassId} {a0 : Nat} {gl : gl_T} {rF : Int32} {stF : st_S} {iT jT : Nat} {rec16 : Option Nat × Int32 × Int32 × Int32 → st_M (Int32)}
    (X : cx_ p s m args c prog_12_method_30_code 5 "PromiseVatsModel" tb_ D cl_ (ty_ ac)) (hKs : kn_ D ac a0 gl s) (hlk : meth.locks = false) (hret : meth.sig.returnType = (Option.some FieldType.boolean)) (hnm : meth.name = "rooted") (hr16 : wk_ p l e 0 0 s m args below meth c D cl_ ac a0 5 vb_i rF stF iT jT 16 (fun x : Option Nat × Int32 × Int32 × Int32 => [(0, (va_rf x.1)), (2, (.int x.2.1)), (3, (.int x.2.2.1)), (4, (.int x.2.2.2))]) (fun x : Option Nat × Int32 × Int32 × Int32 => []) rec16) : wk_ p l e 0 0 s m args below meth c D cl_ ac a0 5 vb_i rF stF iT jT 45 (fun x : Option Nat × Int32 × Int32 × Int32 => [(0, (va_rf x.1)), (2, (.int x.2.1)), (4, (.int x.2.2.1))]) (fun x : Option Nat × Int32 × Int32 × Int32 => [(.int x.2.2.2)]) (fun x : Option Nat × Int32 × Int32 × Int32 => mm_rooted_b45 gl rec16 x.1 x.2.1 x.2.2.1 x.2.2.2) := by
  intro x st H locs cells slots i j ls hw hl h hci hcj
  obtain ⟨p0, p2, p4, q0⟩ := x
  have h : mm_rooted_b45 gl rec16 p0 p2 p4 q0 st = some (rF, stF, i, j) := h
  unfold mm_rooted_b45 at h
  have hl : lh_ ls 5 [(0, (va_rf p0)), (2, (.int p2)), (4, (.int p4))] := hl
  refine W.eq (g2 := F0 m 45 ls [(.int q0)]) rfl ?_
  refine rr_istn (lv' := [(3, (.int q0)), (0, (va_rf p0)), (2, (.int p2)), (4, (.int p4))]) X dd_mm_rooted_45 rfl hl (by decide) rfl (fun ls hl => ?_)
  refine rr_iinc (k := 3) (v := (p4 + (1 : Int32))) (lv' := [(4, (.int (p4 + (1 : Int32)))), (3, (.int q0)), (0, (va_rf p0)), (2, (.int p2))]) X dd_mm_rooted_46 hl rfl (by rw [show Int32.ofInt (1) = (1 : Int32) from by decide]) (by decide) rfl (fun ls hl => ?_)
  refine lv_goto (tgt := 16) X.1 X.2.1 dd_mm_rooted_49 (by decide) ?_
  exact hr16 (p0, p2, q0, (p4 + (1 : Int32))) _ _ _ _ _ _ _ _ hw (lh_pk hl [2, 3, 1, 0] rfl) h hci hcj
set_option maxHeartbeats 4000000 in
set_option maxRecDepth 100000 in
theorem kb_mm_rooted_b40 {p : Program} {l : Launch} {e : Env} {s : State} {m : MethodId} {args : Array Value} {below : List Frame} {meth : Method} {c : Code} {D : va_G} {ac : Nat → ClassId} {a0 : Nat} {gl : gl_T} {rF : Int32} {stF : st_S} {iT jT : Nat} {rec16 : Option Nat × Int32 × Int32 × Int32 → st_M (Int32)}
    (X : cx_ p s m args c prog_12_method_30_code 5 "PromiseVatsModel" tb_ D cl_ (ty_ ac)) (hKs : kn_ D ac a0 gl s) (hlk : meth.locks = false) (hret : meth.sig.returnType = (Option.some FieldType.boolean)) (hnm : meth.name = "rooted") (hr16 : wk_ p l e 0 0 s m args below meth c D cl_ ac a0 5 vb_i rF stF iT jT 16 (fun x : Option Nat × Int32 × Int32 × Int32 => [(0, (va_rf x.1)), (2, (.int x.2.1)), (3, (.int x.2.2.1)), (4, (.int x.2.2.2))]) (fun x : Option Nat × Int32 × Int32 × Int32 => []) rec16) : wk_ p l e 0 0 s m args below meth c D cl_ ac a0 5 vb_i rF stF iT jT 40 (fun x : Option Nat × Int32 × Int32 => [(0, (va_rf x.1)), (2, (.int x.2.1)), (4, (.int x.2.2))]) (fun x : Option Nat × Int32 × Int32 => []) (fun x : Option Nat × Int32 × Int32 => mm_rooted_b40 gl rec16 x.1 x.2.1 x.2.2) := by
  intro x st H locs cells slots i j ls hw hl h hci hcj
  obtain ⟨p0, p2, p4⟩ := x
  have h : mm_rooted_b40 gl rec16 p0 p2 p4 st = some (rF, stF, i, j) := h
  unfold mm_rooted_b40 at h
  have hl : lh_ ls 5 [(0, (va_rf p0)), (2, (.int p2)), (4, (.int p4))] := hl
  refine W.eq (g2 := F0 m 40 ls []) rfl ?_
  refine lv_iconst (v := (1 : Int32)) X.1 X.2.1 dd_mm_rooted_40 (by decide) ?_
  refine lv_goto (tgt := 45) X.1 X.2.1 dd_mm_rooted_41 (by decide) ?_
  exact (kb_mm_rooted_b45 X hKs hlk hret hnm hr16) (p0, p2, p4, (1 : Int32)) _ _ _ _ _ _ _ _ hw (lh_pk hl [0, 1, 2] rfl) h hci hcj
set_option maxHeartbeats 4000000 in
set_option maxRecDepth 100000 in
theorem kb_mm_rooted_b86 {p : Program} {l : Launch} {e : Env} {s : State} {m : MethodId} {args : Array Value} {below : List Frame} {meth : Method} {c : Code} {D : va_G} {ac : Nat → ClassId} {a0 : Nat} {gl : gl_T} {rF : Int32} {stF : st_S} {iT jT : Nat} {rec55 : Option Nat × Int32 × Int32 × Int32 → st_M (Int32)}
    (X : cx_ p s m args c prog_12_method_30_code 5 "PromiseVatsModel" tb_ D cl_ (ty_ ac)) (hKs : kn_ D ac a0 gl s) (hlk : meth.locks = false) (hret : meth.sig.returnType = (Option.some FieldType.boolean)) (hnm : meth.name = "rooted") (hr55 : wk_ p l e 0 0 s m args below meth c D cl_ ac a0 5 vb_i rF stF iT jT 55 (fun x : Option Nat × Int32 × Int32 × Int32 => [(0, (va_rf x.1)), (2, (.int x.2.1)), (3, (.int x.2.2.1)), (4, (.int x.2.2.2))]) (fun x : Option Nat × Int32 × Int32 × Int32 => []) rec55) : wk_ p l e 0 0 s m args below meth c D cl_ ac a0 5 vb_i rF stF iT jT 86 (fun x : Option Nat × Int32 × Int32 × Int32 => [(0, (va_rf x.1)), (2, (.int x.2.1)), (4, (.int x.2.2.1))]) (fun x : Option Nat × Int32 × Int32 × Int32 => [(.int x.2.2.2)]) (fun x : Option Nat × Int32 × Int32 × Int32 => mm_rooted_b86 gl rec55 x.1 x.2.1 x.2.2.1 x.2.2.2) := by
  intro x st H locs cells slots i j ls hw hl h hci hcj
  obtain ⟨p0, p2, p4, q0⟩ := x
  have h : mm_rooted_b86 gl rec55 p0 p2 p4 q0 st = some (rF, stF, i, j) := h
  unfold mm_rooted_b86 at h
  have hl : lh_ ls 5 [(0, (va_rf p0)), (2, (.int p2)), (4, (.int p4))] := hl
  refine W.eq (g2 := F0 m 86 ls [(.int q0)]) rfl ?_
  refine rr_istn (lv' := [(3, (.int q0)), (0, (va_rf p0)), (2, (.int p2)), (4, (.int p4))]) X dd_mm_rooted_86 rfl hl (by decide) rfl (fun ls hl => ?_)
  refine rr_iinc (k := 3) (v := (p4 + (1 : Int32))) (lv' := [(4, (.int (p4 + (1 : Int32)))), (3, (.int q0)), (0, (va_rf p0)), (2, (.int p2))]) X dd_mm_rooted_87 hl rfl (by rw [show Int32.ofInt (1) = (1 : Int32) from by decide]) (by decide) rfl (fun ls hl => ?_)
  refine lv_goto (tgt := 55) X.1 X.2.1 dd_mm_rooted_90 (by decide) ?_
  exact hr55 (p0, p2, q0, (p4 + (1 : Int32))) _ _ _ _ _ _ _ _ hw (lh_pk hl [2, 3, 1, 0] rfl) h hci hcj
set_option maxHeartbeats 4000000 in
set_option maxRecDepth 100000 in
theorem kb_mm_rooted_b81 {p : Program} {l : Launch} {e : Env} {s : State} {m : MethodId} {args : Array Value} {below : List Frame} {meth : Method} {c : Code} {D : va_G} {ac : Nat → ClassId} {a0 : Nat} {gl : gl_T} {rF : Int32} {stF : st_S} {iT jT : Nat} {rec55 : Option Nat × Int32 × Int32 × Int32 → st_M (Int32)}
    (X : cx_ p s m args c prog_12_method_30_code 5 "PromiseVatsModel" tb_ D cl_ (ty_ ac)) (hKs : kn_ D ac a0 gl s) (hlk : meth.locks = false) (hret : meth.sig.returnType = (Option.some FieldType.boolean)) (hnm : meth.name = "rooted") (hr55 : wk_ p l e 0 0 s m args below meth c D cl_ ac a0 5 vb_i rF stF iT jT 55 (fun x : Option Nat × Int32 × Int32 × Int32 => [(0, (va_rf x.1)), (2, (.int x.2.1)), (3, (.int x.2.2.1)), (4, (.int x.2.2.2))]) (fun x : Option Nat × Int32 × Int32 × Int32 => []) rec55) : wk_ p l e 0 0 s m args below meth c D cl_ ac a0 5 vb_i rF stF iT jT 81 (fun x : Option Nat × Int32 × Int32 => [(0, (va_rf x.1)), (2, (.int x.2.1)), (4, (.int x.2.2))]) (fun x : Option Nat × Int32 × Int32 => []) (fun x : Option Nat × Int32 × Int32 => mm_rooted_b81 gl rec55 x.1 x.2.1 x.2.2) := by
  intro x st H locs cells slots i j ls hw hl h hci hcj
  obtain ⟨p0, p2, p4⟩ := x
  have h : mm_rooted_b81 gl rec55 p0 p2 p4 st = some (rF, stF, i, j) := h
  unfold mm_rooted_b81 at h
  have hl : lh_ ls 5 [(0, (va_rf p0)), (2, (.int p2)), (4, (.int p4))] := hl
  refine W.eq (g2 := F0 m 81 ls []) rfl ?_
  refine lv_iconst (v := (1 : Int32)) X.1 X.2.1 dd_mm_rooted_81 (by decide) ?_
  refine lv_goto (tgt := 86) X.1 X.2.1 dd_mm_rooted_82 (by decide) ?_
  exact (kb_mm_rooted_b86 X hKs hlk hret hnm hr55) (p0, p2, p4, (1 : Int32)) _ _ _ _ _ _ _ _ hw (lh_pk hl [0, 1, 2] rfl) h hci hcj
set_option maxHeartbeats 4000000 in
set_option maxRecDepth 100000 in
theorem kb_mm_rooted_b55 {p : Program} {l : Launch} {e : Env} {s : State} {m : MethodId} {args : Array Value} {below : List Frame} {meth : Method} {c : Code} {D : va_G} {ac : Nat → ClassId} {a0 : Nat} {gl : gl_T} {rF : Int32} {stF : st_S} {iT jT : Nat}
    (X : cx_ p s m args c prog_12_method_30_code 5 "PromiseVatsModel" tb_ D cl_ (ty_ ac)) (hKs : kn_ D ac a0 gl s) (hlk : meth.locks = false) (hret : meth.sig.returnType = (Option.some FieldType.boolean)) (hnm : meth.name = "rooted") : wk_ p l e 0 0 s m args below meth c D cl_ ac a0 5 vb_i rF stF iT jT 55 (fun x : Option Nat × Int32 × Int32 × Int32 => [(0, (va_rf x.1)), (2, (.int x.2.1)), (3, (.int x.2.2.1)), (4, (.int x.2.2.2))]) (fun x : Option Nat × Int32 × Int32 × Int32 => []) (st_it (fun rec55 => (fun x : Option Nat × Int32 × Int32 × Int32 => mm_rooted_b55 gl rec55 x.1 x.2.1 x.2.2.1 x.2.2.2)) fu_) := by
  refine wk_it ?_ _
  intro rec55 hr55 x st H locs cells slots i j ls hw hl h hci hcj
  obtain ⟨p0, p2, p3, p4⟩ := x
  have h : mm_rooted_b55 gl rec55 p0 p2 p3 p4 st = some (rF, stF, i, j) := h
  unfold mm_rooted_b55 at h
  have hl : lh_ ls 5 [(0, (va_rf p0)), (2, (.int p2)), (3, (.int p3)), (4, (.int p4))] := hl
  refine W.eq (g2 := F0 m 55 ls []) rfl ?_
  refine lv_iload X.1 X.2.1 dd_mm_rooted_55 (lv_at hl.1 3 rfl) ?_
  refine lv_bipush (v := (16 : Int32)) X.1 X.2.1 dd_mm_rooted_57 (by decide) ?_
  by_cases hc59 : (16 : Int32) ≤ p4
  · rw [if_pos hc59] at h
    refine lv_icmp_ge (tgt := 93) X.1 X.2.1 dd_mm_rooted_59 (by decide) (fun _ => ?_) (fun z => absurd hc59 z)
    refine lv_iload_n X.1 X.2.1 dd_mm_rooted_93 rfl (lv_at hl.1 2 rfl) ?_
    obtain ⟨_, hz94, h⟩ := st_g_some h
    obtain ⟨rfl, rfl, rfl, rfl⟩ := st_r_some h
    exact rr_iret X hw hlk hret (so_z_n hz94) hci hcj dd_mm_rooted_94
  · rw [if_neg hc59] at h
    refine lv_icmp_ge (tgt := 93) X.1 X.2.1 dd_mm_rooted_59 (by decide) (fun z => absurd z hc59) (fun _ => ?_)
    refine lv_iload_n X.1 X.2.1 dd_mm_rooted_62 rfl (lv_at hl.1 2 rfl) ?_
    by_cases hc63 : p3 = 0
    · rw [if_pos hc63] at h
      refine lv_if_ne (tgt := 81) X.1 X.2.1 dd_mm_rooted_63 (by decide) (fun z => absurd hc63 z) (fun _ => ?_)
      refine rr_aldn X dd_mm_rooted_66 rfl (lv_at hl.1 0 rfl) ?_
      obtain ⟨t3, ht3, h⟩ := st_g_some h
      refine rr_getq X hw ff_10_17 ht3 tw_451 (Or.inl rfl) dd_mm_rooted_67 ?_
      refine lv_bipush (v := (16 : Int32)) X.1 X.2.1 dd_mm_rooted_70 (by decide) ?_
      refine lv_iload_n X.1 X.2.1 dd_mm_rooted_72 rfl (lv_at hl.1 1 rfl) ?_
      refine lv_imul X.1 X.2.1 dd_mm_rooted_73 ?_
      refine lv_iload X.1 X.2.1 dd_mm_rooted_74 (lv_at hl.1 3 rfl) ?_
      refine lv_iadd X.1 X.2.1 dd_mm_rooted_76 ?_
      obtain ⟨t4, ht4, h⟩ := st_g_some h
      refine rr_iald (t := 0) X hw rfl ht4 dd_mm_rooted_77 ?_
      by_cases hc78 : t4 ≤ 0
      · rw [if_pos hc78] at h
        refine lv_if_le (tgt := 85) X.1 X.2.1 dd_mm_rooted_78 (by decide) (fun _ => ?_) (fun z => absurd hc78 z)
        refine lv_iconst (v := (0 : Int32)) X.1 X.2.1 dd_mm_rooted_85 (by decide) ?_
        exact (kb_mm_rooted_b86 X hKs hlk hret hnm hr55) (p0, p2, p4, (0 : Int32)) _ _ _ _ _ _ _ _ hw (lh_pk hl [0, 1, 3] rfl) h hci hcj
      · rw [if_neg hc78] at h
        refine lv_if_le (tgt := 85) X.1 X.2.1 dd_mm_rooted_78 (by decide) (fun z => absurd z hc78) (fun _ => ?_)
        exact (kb_mm_rooted_b81 X hKs hlk hret hnm hr55) (p0, p2, p4) _ _ _ _ _ _ _ _ hw (lh_pk hl [0, 1, 3] rfl) h hci hcj
    · rw [if_neg hc63] at h
      refine lv_if_ne (tgt := 81) X.1 X.2.1 dd_mm_rooted_63 (by decide) (fun _ => ?_) (fun z => absurd z hc63)
      exact (kb_mm_rooted_b81 X hKs hlk hret hnm hr55) (p0, p2, p4) _ _ _ _ _ _ _ _ hw (lh_pk hl [0, 1, 3] rfl) h hci hcj
set_option maxHeartbeats 4000000 in
set_option maxRecDepth 100000 in
theorem kb_mm_rooted_b16 {p : Program} {l : Launch} {e : Env} {s : State} {m : MethodId} {args : Array Value} {below : List Frame} {meth : Method} {c : Code} {D : va_G} {ac : Nat → ClassId} {a0 : Nat} {gl : gl_T} {rF : Int32} {stF : st_S} {iT jT : Nat}
    (X : cx_ p s m args c prog_12_method_30_code 5 "PromiseVatsModel" tb_ D cl_ (ty_ ac)) (hKs : kn_ D ac a0 gl s) (hlk : meth.locks = false) (hret : meth.sig.returnType = (Option.some FieldType.boolean)) (hnm : meth.name = "rooted") : wk_ p l e 0 0 s m args below meth c D cl_ ac a0 5 vb_i rF stF iT jT 16 (fun x : Option Nat × Int32 × Int32 × Int32 => [(0, (va_rf x.1)), (2, (.int x.2.1)), (3, (.int x.2.2.1)), (4, (.int x.2.2.2))]) (fun x : Option Nat × Int32 × Int32 × Int32 => []) (st_it (fun rec16 => (fun x : Option Nat × Int32 × Int32 × Int32 => mm_rooted_b16 gl rec16 x.1 x.2.1 x.2.2.1 x.2.2.2)) fu_) := by
  refine wk_it ?_ _
  intro rec16 hr16 x st H locs cells slots i j ls hw hl h hci hcj
  obtain ⟨p0, p2, p3, p4⟩ := x
  have h : mm_rooted_b16 gl rec16 p0 p2 p3 p4 st = some (rF, stF, i, j) := h
  unfold mm_rooted_b16 at h
  have hl : lh_ ls 5 [(0, (va_rf p0)), (2, (.int p2)), (3, (.int p3)), (4, (.int p4))] := hl
  refine W.eq (g2 := F0 m 16 ls []) rfl ?_
  refine lv_iload X.1 X.2.1 dd_mm_rooted_16 (lv_at hl.1 3 rfl) ?_
  refine lv_iconst (v := (4 : Int32)) X.1 X.2.1 dd_mm_rooted_18 (by decide) ?_
  by_cases hc19 : (4 : Int32) ≤ p4
  · rw [if_pos hc19] at h
    refine lv_icmp_ge (tgt := 52) X.1 X.2.1 dd_mm_rooted_19 (by decide) (fun _ => ?_) (fun z => absurd hc19 z)
    refine lv_iconst (v := (0 : Int32)) X.1 X.2.1 dd_mm_rooted_52 (by decide) ?_
    refine rr_ist (lv' := [(4, (.int (0 : Int32))), (0, (va_rf p0)), (2, (.int p2)), (3, (.int p3))]) X dd_mm_rooted_53 hl (by decide) rfl (fun ls hl => ?_)
    exact (kb_mm_rooted_b55 X hKs hlk hret hnm) (p0, p2, p3, (0 : Int32)) _ _ _ _ _ _ _ _ hw (lh_pk hl [1, 2, 3, 0] rfl) h hci hcj
  · rw [if_neg hc19] at h
    refine lv_icmp_ge (tgt := 52) X.1 X.2.1 dd_mm_rooted_19 (by decide) (fun z => absurd z hc19) (fun _ => ?_)
    refine lv_iload_n X.1 X.2.1 dd_mm_rooted_22 rfl (lv_at hl.1 2 rfl) ?_
    by_cases hc23 : p3 = 0
    · rw [if_pos hc23] at h
      refine lv_if_ne (tgt := 40) X.1 X.2.1 dd_mm_rooted_23 (by decide) (fun z => absurd hc23 z) (fun _ => ?_)
      refine rr_aldn X dd_mm_rooted_26 rfl (lv_at hl.1 0 rfl) ?_
      obtain ⟨t1, ht1, h⟩ := st_g_some h
      refine rr_getq X hw ff_10_15 ht1 tw_453 (Or.inl rfl) dd_mm_rooted_27 ?_
      refine lv_iconst (v := (4 : Int32)) X.1 X.2.1 dd_mm_rooted_30 (by decide) ?_
      refine lv_iload_n X.1 X.2.1 dd_mm_rooted_31 rfl (lv_at hl.1 1 rfl) ?_
      refine lv_imul X.1 X.2.1 dd_mm_rooted_32 ?_
      refine lv_iload X.1 X.2.1 dd_mm_rooted_33 (lv_at hl.1 3 rfl) ?_
      refine lv_iadd X.1 X.2.1 dd_mm_rooted_35 ?_
      obtain ⟨t2, ht2, h⟩ := st_g_some h
      refine rr_iald (t := 0) X hw rfl ht2 dd_mm_rooted_36 ?_
      by_cases hc37 : t2 ≤ 0
      · rw [if_pos hc37] at h
        refine lv_if_le (tgt := 44) X.1 X.2.1 dd_mm_rooted_37 (by decide) (fun _ => ?_) (fun z => absurd hc37 z)
        refine lv_iconst (v := (0 : Int32)) X.1 X.2.1 dd_mm_rooted_44 (by decide) ?_
        exact (kb_mm_rooted_b45 X hKs hlk hret hnm hr16) (p0, p2, p4, (0 : Int32)) _ _ _ _ _ _ _ _ hw (lh_pk hl [0, 1, 3] rfl) h hci hcj
      · rw [if_neg hc37] at h
        refine lv_if_le (tgt := 44) X.1 X.2.1 dd_mm_rooted_37 (by decide) (fun z => absurd z hc37) (fun _ => ?_)
        exact (kb_mm_rooted_b40 X hKs hlk hret hnm hr16) (p0, p2, p4) _ _ _ _ _ _ _ _ hw (lh_pk hl [0, 1, 3] rfl) h hci hcj
    · rw [if_neg hc23] at h
      refine lv_if_ne (tgt := 40) X.1 X.2.1 dd_mm_rooted_23 (by decide) (fun _ => ?_) (fun z => absurd z hc23)
      exact (kb_mm_rooted_b40 X hKs hlk hret hnm hr16) (p0, p2, p4) _ _ _ _ _ _ _ _ hw (lh_pk hl [0, 1, 3] rfl) h hci hcj
set_option maxHeartbeats 4000000 in
set_option maxRecDepth 100000 in
theorem kb_mm_rooted_b12 {p : Program} {l : Launch} {e : Env} {s : State} {m : MethodId} {args : Array Value} {below : List Frame} {meth : Method} {c : Code} {D : va_G} {ac : Nat → ClassId} {a0 : Nat} {gl : gl_T} {rF : Int32} {stF : st_S} {iT jT : Nat}
    (X : cx_ p s m args c prog_12_method_30_code 5 "PromiseVatsModel" tb_ D cl_ (ty_ ac)) (hKs : kn_ D ac a0 gl s) (hlk : meth.locks = false) (hret : meth.sig.returnType = (Option.some FieldType.boolean)) (hnm : meth.name = "rooted") : wk_ p l e 0 0 s m args below meth c D cl_ ac a0 5 vb_i rF stF iT jT 12 (fun x : Option Nat × Int32 × Int32 => [(0, (va_rf x.1)), (2, (.int x.2.1))]) (fun x : Option Nat × Int32 × Int32 => [(.int x.2.2)]) (fun x : Option Nat × Int32 × Int32 => mm_rooted_b12 gl x.1 x.2.1 x.2.2) := by
  intro x st H locs cells slots i j ls hw hl h hci hcj
  obtain ⟨p0, p2, q0⟩ := x
  have h : mm_rooted_b12 gl p0 p2 q0 st = some (rF, stF, i, j) := h
  unfold mm_rooted_b12 at h
  have hl : lh_ ls 5 [(0, (va_rf p0)), (2, (.int p2))] := hl
  refine W.eq (g2 := F0 m 12 ls [(.int q0)]) rfl ?_
  refine rr_istn (lv' := [(3, (.int q0)), (0, (va_rf p0)), (2, (.int p2))]) X dd_mm_rooted_12 rfl hl (by decide) rfl (fun ls hl => ?_)
  refine lv_iconst (v := (0 : Int32)) X.1 X.2.1 dd_mm_rooted_13 (by decide) ?_
  refine rr_ist (lv' := [(4, (.int (0 : Int32))), (3, (.int q0)), (0, (va_rf p0)), (2, (.int p2))]) X dd_mm_rooted_14 hl (by decide) rfl (fun ls hl => ?_)
  exact (kb_mm_rooted_b16 X hKs hlk hret hnm) (p0, p2, q0, (0 : Int32)) _ _ _ _ _ _ _ _ hw (lh_pk hl [2, 3, 1, 0] rfl) h hci hcj
set_option maxHeartbeats 4000000 in
set_option maxRecDepth 100000 in
theorem kc_mm_rooted (l : Launch) (D : va_G) (ac : Nat → ClassId) (a0 : Nat) (gl : gl_T) (v0 : Option Nat) (v1 : Int32) (v2 : Int32) (st : st_S) (rF : Int32) (stF : st_S) (iT jT : Nat) (h : mm_rooted gl v0 v1 v2 st = some (rF, stF, iT, jT)) :
    ct_ l ⟨"PromiseVatsModel", "rooted", "(II)Z"⟩ (Cond.code ⟨"PromiseVatsModel", "rooted", "(II)Z"⟩ prog_12_method_30_code 5 (Option.some FieldType.boolean) :: tb_) 0 0 D cl_ ac a0 (kn_ D ac a0 gl) [(va_rf v0), (.int v1), (.int v2)] st (vb_i rF) stF iT jT := by
  refine ct_of (kn_ok D ac a0 gl) (plainFor_of_name (by decide +kernel)) (by simp [rf_cat, ic_cat]) (by simp) ?_
  intro p e s m args below meth c ls X hw hKs hlk hret hnm hl
  unfold mm_rooted at h
  have hl : lh_ ls 5 [(0, (va_rf v0)), (1, (.int v1)), (2, (.int v2))] := hl
  obtain ⟨z0, hz0⟩ : ∃ z : Nat, 0 = z := ⟨0, rfl⟩
  obtain ⟨z1, hz1⟩ : ∃ z : Nat, 0 = z := ⟨0, rfl⟩
  refine W.cs hz0 hz1 ?_
  have hci : z0 + iT = iT := by omega
  have hcj : z1 + jT = jT := by omega
  refine lv_iload_n X.1 X.2.1 dd_mm_rooted_0 rfl (lv_at hl.1 2 rfl) ?_
  refine lv_iload_n X.1 X.2.1 dd_mm_rooted_1 rfl (lv_at hl.1 1 rfl) ?_
  refine lv_iconst (v := (1 : Int32)) X.1 X.2.1 dd_mm_rooted_2 (by decide) ?_
  refine lv_iadd X.1 X.2.1 dd_mm_rooted_3 ?_
  by_cases hc4 : v2 = (v1 + (1 : Int32))
  · rw [if_pos hc4] at h
    refine lv_icmp_ne (tgt := 11) X.1 X.2.1 dd_mm_rooted_4 (by decide) (fun z => absurd hc4 z) (fun _ => ?_)
    refine lv_iconst (v := (1 : Int32)) X.1 X.2.1 dd_mm_rooted_7 (by decide) ?_
    refine lv_goto (tgt := 12) X.1 X.2.1 dd_mm_rooted_8 (by decide) ?_
    exact (kb_mm_rooted_b12 X hKs hlk hret hnm) (v0, v2, (1 : Int32)) _ _ _ _ _ _ _ _ hw (lh_pk hl [0, 2] rfl) h hci hcj
  · rw [if_neg hc4] at h
    refine lv_icmp_ne (tgt := 11) X.1 X.2.1 dd_mm_rooted_4 (by decide) (fun _ => ?_) (fun z => absurd z hc4)
    refine lv_iconst (v := (0 : Int32)) X.1 X.2.1 dd_mm_rooted_11 (by decide) ?_
    exact (kb_mm_rooted_b12 X hKs hlk hret hnm) (v0, v2, (0 : Int32)) _ _ _ _ _ _ _ _ hw (lh_pk hl [0, 2] rfl) h hci hcj
/-! PromiseVatsModel.mark(I)V -/
theorem dd_mm_mark_0 : decode prog_12_method_29_code 0 = .ok (.iload_n 1, 1) := by decide +kernel
theorem dd_mm_mark_1 : decode prog_12_method_29_code 1 = .ok (.ifCond .eq 12, 3) := by decide +kernel
theorem dd_mm_mark_4 : decode prog_12_method_29_code 4 = .ok (.aload_n 0, 1) := by decide +kernel
theorem dd_mm_mark_5 : decode prog_12_method_29_code 5 = .ok (.getfield 33, 3) := by decide +kernel
theorem dd_mm_mark_8 : decode prog_12_method_29_code 8 = .ok (.iload_n 1, 1) := by decide +kernel
theorem dd_mm_mark_9 : decode prog_12_method_29_code 9 = .ok (.baload, 1) := by decide +kernel
theorem dd_mm_mark_10 : decode prog_12_method_29_code 10 = .ok (.ifCond .eq 4, 3) := by decide +kernel
theorem dd_mm_mark_13 : decode prog_12_method_29_code 13 = .ok (.return_, 1) := by decide +kernel
theorem dd_mm_mark_14 : decode prog_12_method_29_code 14 = .ok (.aload_n 0, 1) := by decide +kernel
theorem dd_mm_mark_15 : decode prog_12_method_29_code 15 = .ok (.getfield 33, 3) := by decide +kernel
theorem dd_mm_mark_18 : decode prog_12_method_29_code 18 = .ok (.iload_n 1, 1) := by decide +kernel
theorem dd_mm_mark_19 : decode prog_12_method_29_code 19 = .ok (.iconst 1, 1) := by decide +kernel
theorem dd_mm_mark_20 : decode prog_12_method_29_code 20 = .ok (.bastore, 1) := by decide +kernel
theorem dd_mm_mark_21 : decode prog_12_method_29_code 21 = .ok (.aload_n 0, 1) := by decide +kernel
theorem dd_mm_mark_22 : decode prog_12_method_29_code 22 = .ok (.iconst 1, 1) := by decide +kernel
theorem dd_mm_mark_23 : decode prog_12_method_29_code 23 = .ok (.putfield 189, 3) := by decide +kernel
theorem dd_mm_mark_26 : decode prog_12_method_29_code 26 = .ok (.return_, 1) := by decide +kernel
set_option maxHeartbeats 4000000 in
set_option maxRecDepth 100000 in
theorem kc_mm_mark (l : Launch) (D : va_G) (ac : Nat → ClassId) (a0 : Nat) (gl : gl_T) (v0 : Option Nat) (v1 : Int32) (st : st_S) (rF : Unit) (stF : st_S) (iT jT : Nat) (h : mm_mark gl v0 v1 st = some (rF, stF, iT, jT)) :
    ct_ l ⟨"PromiseVatsModel", "mark", "(I)V"⟩ (Cond.code ⟨"PromiseVatsModel", "mark", "(I)V"⟩ prog_12_method_29_code 2 (Option.none : Option FieldType) :: tb_) 0 0 D cl_ ac a0 (kn_ D ac a0 gl) [(va_rf v0), (.int v1)] st (vb_u rF) stF iT jT := by
  refine ct_of (kn_ok D ac a0 gl) (plainFor_of_name (by decide +kernel)) (by simp [rf_cat, ic_cat]) (by simp) ?_
  intro p e s m args below meth c ls X hw hKs hlk hret hnm hl
  unfold mm_mark at h
  have hl : lh_ ls 2 [(0, (va_rf v0)), (1, (.int v1))] := hl
  obtain ⟨z0, hz0⟩ : ∃ z : Nat, 0 = z := ⟨0, rfl⟩
  obtain ⟨z1, hz1⟩ : ∃ z : Nat, 0 = z := ⟨0, rfl⟩
  refine W.cs hz0 hz1 ?_
  have hci : z0 + iT = iT := by omega
  have hcj : z1 + jT = jT := by omega
  refine lv_iload_n X.1 X.2.1 dd_mm_mark_0 rfl (lv_at hl.1 1 rfl) ?_
  by_cases hc1 : v1 = 0
  · rw [if_pos hc1] at h
    refine lv_if_eq (tgt := 13) X.1 X.2.1 dd_mm_mark_1 (by decide) (fun _ => ?_) (fun z => absurd hc1 z)
    obtain ⟨rfl, rfl, rfl, rfl⟩ := st_r_some h
    exact rr_vret X hw hlk hret hci hcj dd_mm_mark_13
  · rw [if_neg hc1] at h
    refine lv_if_eq (tgt := 13) X.1 X.2.1 dd_mm_mark_1 (by decide) (fun z => absurd z hc1) (fun _ => ?_)
    refine rr_aldn X dd_mm_mark_4 rfl (lv_at hl.1 0 rfl) ?_
    obtain ⟨t1, ht1, h⟩ := st_g_some h
    refine rr_getq X hw ff_10_10 ht1 tw_457 (Or.inl rfl) dd_mm_mark_5 ?_
    refine lv_iload_n X.1 X.2.1 dd_mm_mark_8 rfl (lv_at hl.1 1 rfl) ?_
    obtain ⟨t2, ht2, h⟩ := st_g_some h
    refine rr_zald (t := 2) X hw rfl ht2 dd_mm_mark_9 ?_
    by_cases hc10 : t2 = 0
    · rw [if_pos hc10] at h
      refine lv_if_eq (tgt := 14) X.1 X.2.1 dd_mm_mark_10 (by decide) (fun _ => ?_) (fun z => absurd hc10 z)
      refine rr_aldn X dd_mm_mark_14 rfl (lv_at hl.1 0 rfl) ?_
      obtain ⟨t3, ht3, h⟩ := st_g_some h
      refine rr_getq X hw ff_10_10 ht3 tw_457 (Or.inl rfl) dd_mm_mark_15 ?_
      refine lv_iload_n X.1 X.2.1 dd_mm_mark_18 rfl (lv_at hl.1 1 rfl) ?_
      refine lv_iconst (v := (1 : Int32)) X.1 X.2.1 dd_mm_mark_19 (by decide) ?_
      obtain ⟨_, hz20, h⟩ := st_g_some h
      obtain ⟨t4, hp20, h⟩ := st_w_some h
      refine rr_zast (t := 2) X hw rfl hz20 hp20 dd_mm_mark_20 (fun H locs hw => ?_)
      refine rr_aldn X dd_mm_mark_21 rfl (lv_at hl.1 0 rfl) ?_
      refine lv_iconst (v := (1 : Int32)) X.1 X.2.1 dd_mm_mark_22 (by decide) ?_
      obtain ⟨t5, hp23, h⟩ := st_w_some h
      refine rr_put (ty := .boolean) X hw ff_10_14 hp23 tw_555 (Or.inl rfl) (by decide +kernel) (by decide) (by decide) dd_mm_mark_23 (fun H locs hw => ?_)
      obtain ⟨rfl, rfl, rfl, rfl⟩ := st_r_some h
      exact rr_vret X hw hlk hret hci hcj dd_mm_mark_26
    · rw [if_neg hc10] at h
      refine lv_if_eq (tgt := 14) X.1 X.2.1 dd_mm_mark_10 (by decide) (fun z => absurd z hc10) (fun _ => ?_)
      obtain ⟨rfl, rfl, rfl, rfl⟩ := st_r_some h
      exact rr_vret X hw hlk hret hci hcj dd_mm_mark_13
