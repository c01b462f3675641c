/-! PromiseVatsModel.oldest(I)I -/
theorem dd_mm_oldest_0 : decode prog_12_method_11_code 0 = .ok (.iconst 0, 1) := by decide +kernel
theorem dd_mm_oldest_1 : decode prog_12_method_11_code 1 = .ok (.istore_n 2, 1) := by decide +kernel
theorem dd_mm_oldest_2 : decode prog_12_method_11_code 2 = .ok (.iload_n 2, 1) := by decide +kernel
theorem dd_mm_oldest_3 : decode prog_12_method_11_code 3 = .ok (.aload_n 0, 1) := by decide +kernel
theorem dd_mm_oldest_4 : decode prog_12_method_11_code 4 = .ok (.getfield 108, 3) := by decide +kernel
theorem dd_mm_oldest_7 : decode prog_12_method_11_code 7 = .ok (.if_icmp .ge 22, 3) := by decide +kernel
theorem dd_mm_oldest_10 : decode prog_12_method_11_code 10 = .ok (.aload_n 0, 1) := by decide +kernel
theorem dd_mm_oldest_11 : decode prog_12_method_11_code 11 = .ok (.getfield 69, 3) := by decide +kernel
theorem dd_mm_oldest_14 : decode prog_12_method_11_code 14 = .ok (.iload_n 2, 1) := by decide +kernel
theorem dd_mm_oldest_15 : decode prog_12_method_11_code 15 = .ok (.baload, 1) := by decide +kernel
theorem dd_mm_oldest_16 : decode prog_12_method_11_code 16 = .ok (.bipush 16, 2) := by decide +kernel
theorem dd_mm_oldest_18 : decode prog_12_method_11_code 18 = .ok (.irem, 1) := by decide +kernel
theorem dd_mm_oldest_19 : decode prog_12_method_11_code 19 = .ok (.iload_n 1, 1) := by decide +kernel
theorem dd_mm_oldest_20 : decode prog_12_method_11_code 20 = .ok (.if_icmp .eq 9, 3) := by decide +kernel
theorem dd_mm_oldest_23 : decode prog_12_method_11_code 23 = .ok (.iinc 2 1, 3) := by decide +kernel
theorem dd_mm_oldest_26 : decode prog_12_method_11_code 26 = .ok (.goto (-24), 3) := by decide +kernel
theorem dd_mm_oldest_29 : decode prog_12_method_11_code 29 = .ok (.iload_n 2, 1) := by decide +kernel
theorem dd_mm_oldest_30 : decode prog_12_method_11_code 30 = .ok (.aload_n 0, 1) := by decide +kernel
theorem dd_mm_oldest_31 : decode prog_12_method_11_code 31 = .ok (.getfield 108, 3) := by decide +kernel
theorem dd_mm_oldest_34 : decode prog_12_method_11_code 34 = .ok (.if_icmp .ge 7, 3) := by decide +kernel
theorem dd_mm_oldest_37 : decode prog_12_method_11_code 37 = .ok (.iload_n 2, 1) := by decide +kernel
theorem dd_mm_oldest_38 : decode prog_12_method_11_code 38 = .ok (.goto 4, 3) := by decide +kernel
theorem dd_mm_oldest_41 : decode prog_12_method_11_code 41 = .ok (.iconst (-1), 1) := by decide +kernel
theorem dd_mm_oldest_42 : decode prog_12_method_11_code 42 = .ok (.ireturn, 1) := by decide +kernel
set_option maxHeartbeats 4000000 in
set_option maxRecDepth 100000 in
theorem kb_mm_oldest_b29 {p : Program} {l : Launch} {e : Env} {s : State} {m : MethodId} {args : Array Value} {below : List Frame} {meth : Method} {c : Code} {D : va_G} {ac : Nat → ClassId} {a0 : Nat} {gl : gl_T} {rF : Int32} {stF : st_S} {iT jT : Nat}
    (X : cx_ p s m args c prog_12_method_11_code 3 "PromiseVatsModel" tb_ D cl_ (ty_ ac)) (hKs : kn_ D ac a0 gl s) (hlk : meth.locks = false) (hret : meth.sig.returnType = (Option.some FieldType.int)) (hnm : meth.name = "oldest") : wk_ p l e 0 0 s m args below meth c D cl_ ac a0 3 vb_i rF stF iT jT 29 (fun x : Option Nat × Int32 => [(0, (va_rf x.1)), (2, (.int x.2))]) (fun x : Option Nat × Int32 => []) (fun x : Option Nat × Int32 => mm_oldest_b29 gl x.1 x.2) := by
  intro x st H locs cells slots i j ls hw hl h hci hcj
  obtain ⟨p0, p2⟩ := x
  have h : mm_oldest_b29 gl p0 p2 st = some (rF, stF, i, j) := h
  unfold mm_oldest_b29 at h
  have hl : lh_ ls 3 [(0, (va_rf p0)), (2, (.int p2))] := hl
  refine W.eq (g2 := F0 m 29 ls []) rfl ?_
  refine lv_iload_n X.1 X.2.1 dd_mm_oldest_29 rfl (lv_at hl.1 1 rfl) ?_
  refine rr_aldn X dd_mm_oldest_30 rfl (lv_at hl.1 0 rfl) ?_
  obtain ⟨t4, ht4, h⟩ := st_g_some h
  refine rr_geti X hw ff_10_24 ht4 tw_468 (Or.inl rfl) dd_mm_oldest_31 ?_
  by_cases hc34 : t4 ≤ p2
  · rw [if_pos hc34] at h
    refine lv_icmp_ge (tgt := 41) X.1 X.2.1 dd_mm_oldest_34 (by decide) (fun _ => ?_) (fun z => absurd hc34 z)
    refine lv_iconst (v := (-1 : Int32)) X.1 X.2.1 dd_mm_oldest_41 (by decide) ?_
    obtain ⟨rfl, rfl, rfl, rfl⟩ := st_r_some h
    exact rr_iret X hw hlk hret rfl hci hcj dd_mm_oldest_42
  · rw [if_neg hc34] at h
    refine lv_icmp_ge (tgt := 41) X.1 X.2.1 dd_mm_oldest_34 (by decide) (fun z => absurd z hc34) (fun _ => ?_)
    refine lv_iload_n X.1 X.2.1 dd_mm_oldest_37 rfl (lv_at hl.1 1 rfl) ?_
    refine lv_goto (tgt := 42) X.1 X.2.1 dd_mm_oldest_38 (by decide) ?_
    obtain ⟨rfl, rfl, rfl, rfl⟩ := st_r_some h
    exact rr_iret X hw hlk hret rfl hci hcj dd_mm_oldest_42
set_option maxHeartbeats 4000000 in
set_option maxRecDepth 100000 in
theorem kb_mm_oldest_b2 {p : Program} {l : Launch} {e : Env} {s : State} {m : MethodId} {args : Array Value} {below : List Frame} {meth : Method} {c : Code} {D : va_G} {ac : Nat → ClassId} {a0 : Nat} {gl : gl_T} {rF : Int32} {stF : st_S} {iT jT : Nat}
    (X : cx_ p s m args c prog_12_method_11_code 3 "PromiseVatsModel" tb_ D cl_ (ty_ ac)) (hKs : kn_ D ac a0 gl s) (hlk : meth.locks = false) (hret : meth.sig.returnType = (Option.some FieldType.int)) (hnm : meth.name = "oldest") : wk_ p l e 0 0 s m args below meth c D cl_ ac a0 3 vb_i rF stF iT jT 2 (fun x : Option Nat × Int32 × Int32 => [(0, (va_rf x.1)), (1, (.int x.2.1)), (2, (.int x.2.2))]) (fun x : Option Nat × Int32 × Int32 => []) (st_it (fun rec2 => (fun x : Option Nat × Int32 × Int32 => mm_oldest_b2 gl rec2 x.1 x.2.1 x.2.2)) fu_) := by
  refine wk_it ?_ _
  intro rec2 hr2 x st H locs cells slots i j ls hw hl h hci hcj
  obtain ⟨p0, p1, p2⟩ := x
  have h : mm_oldest_b2 gl rec2 p0 p1 p2 st = some (rF, stF, i, j) := h
  unfold mm_oldest_b2 at h
  have hl : lh_ ls 3 [(0, (va_rf p0)), (1, (.int p1)), (2, (.int p2))] := hl
  refine W.eq (g2 := F0 m 2 ls []) rfl ?_
  refine lv_iload_n X.1 X.2.1 dd_mm_oldest_2 rfl (lv_at hl.1 2 rfl) ?_
  refine rr_aldn X dd_mm_oldest_3 rfl (lv_at hl.1 0 rfl) ?_
  obtain ⟨t1, ht1, h⟩ := st_g_some h
  refine rr_geti X hw ff_10_24 ht1 tw_468 (Or.inl rfl) dd_mm_oldest_4 ?_
  by_cases hc7 : t1 ≤ p2
  · rw [if_pos hc7] at h
    refine lv_icmp_ge (tgt := 29) X.1 X.2.1 dd_mm_oldest_7 (by decide) (fun _ => ?_) (fun z => absurd hc7 z)
    exact (kb_mm_oldest_b29 X hKs hlk hret hnm) (p0, p2) _ _ _ _ _ _ _ _ hw (lh_pk hl [0, 2] rfl) h hci hcj
  · rw [if_neg hc7] at h
    refine lv_icmp_ge (tgt := 29) X.1 X.2.1 dd_mm_oldest_7 (by decide) (fun z => absurd z hc7) (fun _ => ?_)
    refine rr_aldn X dd_mm_oldest_10 rfl (lv_at hl.1 0 rfl) ?_
    obtain ⟨t2, ht2, h⟩ := st_g_some h
    refine rr_getq X hw ff_10_25 ht2 tw_445 (Or.inl rfl) dd_mm_oldest_11 ?_
    refine lv_iload_n X.1 X.2.1 dd_mm_oldest_14 rfl (lv_at hl.1 2 rfl) ?_
    obtain ⟨t3, ht3, h⟩ := st_g_some h
    refine rr_bald (t := 1) X hw rfl ht3 dd_mm_oldest_15 ?_
    refine lv_bipush (v := (16 : Int32)) X.1 X.2.1 dd_mm_oldest_16 (by decide) ?_
    refine lv_irem X.1 X.2.1 dd_mm_oldest_18 (by decide) ?_
    refine lv_iload_n X.1 X.2.1 dd_mm_oldest_19 rfl (lv_at hl.1 1 rfl) ?_
    by_cases hc20 : (t3 - t3 / (16 : Int32) * (16 : Int32)) = p1
    · rw [if_pos hc20] at h
      refine lv_icmp_eq (tgt := 29) X.1 X.2.1 dd_mm_oldest_20 (by decide) (fun _ => ?_) (fun z => absurd hc20 z)
      exact (kb_mm_oldest_b29 X hKs hlk hret hnm) (p0, p2) _ _ _ _ _ _ _ _ hw (lh_pk hl [0, 2] rfl) h hci hcj
    · rw [if_neg hc20] at h
      refine lv_icmp_eq (tgt := 29) X.1 X.2.1 dd_mm_oldest_20 (by decide) (fun z => absurd z hc20) (fun _ => ?_)
      refine rr_iinc (k := 2) (v := (p2 + (1 : Int32))) (lv' := [(2, (.int (p2 + (1 : Int32)))), (0, (va_rf p0)), (1, (.int p1))]) X dd_mm_oldest_23 hl rfl (by rw [show Int32.ofInt (1) = (1 : Int32) from by decide]) (by decide) rfl (fun ls hl => ?_)
      refine lv_goto (tgt := 2) X.1 X.2.1 dd_mm_oldest_26 (by decide) ?_
      exact hr2 (p0, p1, (p2 + (1 : Int32))) _ _ _ _ _ _ _ _ hw (lh_pk hl [1, 2, 0] rfl) h hci hcj
set_option maxHeartbeats 4000000 in
set_option maxRecDepth 100000 in
theorem kc_mm_oldest (l : Launch) (D : va_G) (ac : Nat → ClassId) (a0 : Nat) (gl : gl_T) (v0 : Option Nat) (v1 : Int32) (st : st_S) (rF : Int32) (stF : st_S) (iT jT : Nat) (h : mm_oldest gl v0 v1 st = some (rF, stF, iT, jT)) :
    ct_ l ⟨"PromiseVatsModel", "oldest", "(I)I"⟩ (Cond.code ⟨"PromiseVatsModel", "oldest", "(I)I"⟩ prog_12_method_11_code 3 (Option.some FieldType.int) :: tb_) 0 0 D cl_ ac a0 (kn_ D ac a0 gl) [(va_rf v0), (.int v1)] st (vb_i rF) stF iT jT := by
  refine ct_of (kn_ok D ac a0 gl) (plainFor_of_name (by decide +kernel)) (by simp [rf_cat, ic_cat]) (by simp) ?_
  intro p e s m args below meth c ls X hw hKs hlk hret hnm hl
  unfold mm_oldest at h
  have hl : lh_ ls 3 [(0, (va_rf v0)), (1, (.int v1))] := hl
  obtain ⟨z0, hz0⟩ : ∃ z : Nat, 0 = z := ⟨0, rfl⟩
  obtain ⟨z1, hz1⟩ : ∃ z : Nat, 0 = z := ⟨0, rfl⟩
  refine W.cs hz0 hz1 ?_
  have hci : z0 + iT = iT := by omega
  have hcj : z1 + jT = jT := by omega
  refine lv_iconst (v := (0 : Int32)) X.1 X.2.1 dd_mm_oldest_0 (by decide) ?_
  refine rr_istn (lv' := [(2, (.int (0 : Int32))), (0, (va_rf v0)), (1, (.int v1))]) X dd_mm_oldest_1 rfl hl (by decide) rfl (fun ls hl => ?_)
  exact (kb_mm_oldest_b2 X hKs hlk hret hnm) (v0, v1, (0 : Int32)) _ _ _ _ _ _ _ _ hw (lh_pk hl [1, 2, 0] rfl) h hci hcj
/-! PromiseVatsModel.unmail(I)V -/
theorem dd_mm_unmail_0 : decode prog_12_method_12_code 0 = .ok (.aload_n 0, 1) := by decide +kernel
theorem dd_mm_unmail_1 : decode prog_12_method_12_code 1 = .ok (.dup, 1) := by decide +kernel
theorem dd_mm_unmail_2 : decode prog_12_method_12_code 2 = .ok (.getfield 108, 3) := by decide +kernel
theorem dd_mm_unmail_5 : decode prog_12_method_12_code 5 = .ok (.iconst 1, 1) := by decide +kernel
theorem dd_mm_unmail_6 : decode prog_12_method_12_code 6 = .ok (.isub, 1) := by decide +kernel
theorem dd_mm_unmail_7 : decode prog_12_method_12_code 7 = .ok (.putfield 108, 3) := by decide +kernel
theorem dd_mm_unmail_10 : decode prog_12_method_12_code 10 = .ok (.iload_n 1, 1) := by decide +kernel
theorem dd_mm_unmail_11 : decode prog_12_method_12_code 11 = .ok (.istore_n 2, 1) := by decide +kernel
theorem dd_mm_unmail_12 : decode prog_12_method_12_code 12 = .ok (.iload_n 2, 1) := by decide +kernel
theorem dd_mm_unmail_13 : decode prog_12_method_12_code 13 = .ok (.aload_n 0, 1) := by decide +kernel
theorem dd_mm_unmail_14 : decode prog_12_method_12_code 14 = .ok (.getfield 108, 3) := by decide +kernel
theorem dd_mm_unmail_17 : decode prog_12_method_12_code 17 = .ok (.if_icmp .ge 79, 3) := by decide +kernel
theorem dd_mm_unmail_20 : decode prog_12_method_12_code 20 = .ok (.aload_n 0, 1) := by decide +kernel
theorem dd_mm_unmail_21 : decode prog_12_method_12_code 21 = .ok (.getfield 69, 3) := by decide +kernel
theorem dd_mm_unmail_24 : decode prog_12_method_12_code 24 = .ok (.iload_n 2, 1) := by decide +kernel
theorem dd_mm_unmail_25 : decode prog_12_method_12_code 25 = .ok (.aload_n 0, 1) := by decide +kernel
theorem dd_mm_unmail_26 : decode prog_12_method_12_code 26 = .ok (.getfield 69, 3) := by decide +kernel
theorem dd_mm_unmail_29 : decode prog_12_method_12_code 29 = .ok (.iload_n 2, 1) := by decide +kernel
theorem dd_mm_unmail_30 : decode prog_12_method_12_code 30 = .ok (.iconst 1, 1) := by decide +kernel
theorem dd_mm_unmail_31 : decode prog_12_method_12_code 31 = .ok (.iadd, 1) := by decide +kernel
theorem dd_mm_unmail_32 : decode prog_12_method_12_code 32 = .ok (.baload, 1) := by decide +kernel
theorem dd_mm_unmail_33 : decode prog_12_method_12_code 33 = .ok (.bastore, 1) := by decide +kernel
theorem dd_mm_unmail_34 : decode prog_12_method_12_code 34 = .ok (.aload_n 0, 1) := by decide +kernel
theorem dd_mm_unmail_35 : decode prog_12_method_12_code 35 = .ok (.getfield 72, 3) := by decide +kernel
theorem dd_mm_unmail_38 : decode prog_12_method_12_code 38 = .ok (.iload_n 2, 1) := by decide +kernel
theorem dd_mm_unmail_39 : decode prog_12_method_12_code 39 = .ok (.aload_n 0, 1) := by decide +kernel
theorem dd_mm_unmail_40 : decode prog_12_method_12_code 40 = .ok (.getfield 72, 3) := by decide +kernel
theorem dd_mm_unmail_43 : decode prog_12_method_12_code 43 = .ok (.iload_n 2, 1) := by decide +kernel
theorem dd_mm_unmail_44 : decode prog_12_method_12_code 44 = .ok (.iconst 1, 1) := by decide +kernel
theorem dd_mm_unmail_45 : decode prog_12_method_12_code 45 = .ok (.iadd, 1) := by decide +kernel
theorem dd_mm_unmail_46 : decode prog_12_method_12_code 46 = .ok (.saload, 1) := by decide +kernel
theorem dd_mm_unmail_47 : decode prog_12_method_12_code 47 = .ok (.sastore, 1) := by decide +kernel
theorem dd_mm_unmail_48 : decode prog_12_method_12_code 48 = .ok (.aload_n 0, 1) := by decide +kernel
theorem dd_mm_unmail_49 : decode prog_12_method_12_code 49 = .ok (.getfield 76, 3) := by decide +kernel
theorem dd_mm_unmail_52 : decode prog_12_method_12_code 52 = .ok (.iload_n 2, 1) := by decide +kernel
theorem dd_mm_unmail_53 : decode prog_12_method_12_code 53 = .ok (.aload_n 0, 1) := by decide +kernel
theorem dd_mm_unmail_54 : decode prog_12_method_12_code 54 = .ok (.getfield 76, 3) := by decide +kernel
theorem dd_mm_unmail_57 : decode prog_12_method_12_code 57 = .ok (.iload_n 2, 1) := by decide +kernel
theorem dd_mm_unmail_58 : decode prog_12_method_12_code 58 = .ok (.iconst 1, 1) := by decide +kernel
theorem dd_mm_unmail_59 : decode prog_12_method_12_code 59 = .ok (.iadd, 1) := by decide +kernel
theorem dd_mm_unmail_60 : decode prog_12_method_12_code 60 = .ok (.iaload, 1) := by decide +kernel
theorem dd_mm_unmail_61 : decode prog_12_method_12_code 61 = .ok (.iastore, 1) := by decide +kernel
theorem dd_mm_unmail_62 : decode prog_12_method_12_code 62 = .ok (.aload_n 0, 1) := by decide +kernel
theorem dd_mm_unmail_63 : decode prog_12_method_12_code 63 = .ok (.getfield 79, 3) := by decide +kernel
theorem dd_mm_unmail_66 : decode prog_12_method_12_code 66 = .ok (.iload_n 2, 1) := by decide +kernel
theorem dd_mm_unmail_67 : decode prog_12_method_12_code 67 = .ok (.aload_n 0, 1) := by decide +kernel
theorem dd_mm_unmail_68 : decode prog_12_method_12_code 68 = .ok (.getfield 79, 3) := by decide +kernel
theorem dd_mm_unmail_71 : decode prog_12_method_12_code 71 = .ok (.iload_n 2, 1) := by decide +kernel
theorem dd_mm_unmail_72 : decode prog_12_method_12_code 72 = .ok (.iconst 1, 1) := by decide +kernel
theorem dd_mm_unmail_73 : decode prog_12_method_12_code 73 = .ok (.iadd, 1) := by decide +kernel
theorem dd_mm_unmail_74 : decode prog_12_method_12_code 74 = .ok (.saload, 1) := by decide +kernel
theorem dd_mm_unmail_75 : decode prog_12_method_12_code 75 = .ok (.sastore, 1) := by decide +kernel
theorem dd_mm_unmail_76 : decode prog_12_method_12_code 76 = .ok (.aload_n 0, 1) := by decide +kernel
theorem dd_mm_unmail_77 : decode prog_12_method_12_code 77 = .ok (.getfield 82, 3) := by decide +kernel
theorem dd_mm_unmail_80 : decode prog_12_method_12_code 80 = .ok (.iload_n 2, 1) := by decide +kernel
theorem dd_mm_unmail_81 : decode prog_12_method_12_code 81 = .ok (.aload_n 0, 1) := by decide +kernel
theorem dd_mm_unmail_82 : decode prog_12_method_12_code 82 = .ok (.getfield 82, 3) := by decide +kernel
theorem dd_mm_unmail_85 : decode prog_12_method_12_code 85 = .ok (.iload_n 2, 1) := by decide +kernel
theorem dd_mm_unmail_86 : decode prog_12_method_12_code 86 = .ok (.iconst 1, 1) := by decide +kernel
theorem dd_mm_unmail_87 : decode prog_12_method_12_code 87 = .ok (.iadd, 1) := by decide +kernel
theorem dd_mm_unmail_88 : decode prog_12_method_12_code 88 = .ok (.saload, 1) := by decide +kernel
theorem dd_mm_unmail_89 : decode prog_12_method_12_code 89 = .ok (.sastore, 1) := by decide +kernel
theorem dd_mm_unmail_90 : decode prog_12_method_12_code 90 = .ok (.iinc 2 1, 3) := by decide +kernel
theorem dd_mm_unmail_93 : decode prog_12_method_12_code 93 = .ok (.goto (-81), 3) := by decide +kernel
theorem dd_mm_unmail_96 : decode prog_12_method_12_code 96 = .ok (.return_, 1) := by decide +kernel
set_option maxHeartbeats 4000000 in
set_option maxRecDepth 100000 in
theorem kb_mm_unmail_b12 {p : Program} {l : Launch} {e : Env} {s : State} {m : MethodId} {args : Array Value} {below : List Frame} {meth : Method} {c : Code} {D : va_G} {ac : Nat → ClassId} {a0 : Nat} {gl : gl_T} {rF : Unit} {stF : st_S} {iT jT : Nat}
    (X : cx_ p s m args c prog_12_method_12_code 3 "PromiseVatsModel" tb_ D cl_ (ty_ ac)) (hKs : kn_ D ac a0 gl s) (hlk : meth.locks = false) (hret : meth.sig.returnType = (Option.none : Option FieldType)) (hnm : meth.name = "unmail") : wk_ p l e 0 0 s m args below meth c D cl_ ac a0 3 vb_u rF stF iT jT 12 (fun x : Option Nat × Int32 => [(0, (va_rf x.1)), (2, (.int x.2))]) (fun x : Option Nat × Int32 => []) (st_it (fun rec12 => (fun x : Option Nat × Int32 => mm_unmail_b12 gl rec12 x.1 x.2)) fu_) := by
  refine wk_it ?_ _
  intro rec12 hr12 x st H locs cells slots i j ls hw hl h hci hcj
  obtain ⟨p0, p2⟩ := x
  have h : mm_unmail_b12 gl rec12 p0 p2 st = some (rF, stF, i, j) := h
  unfold mm_unmail_b12 at h
  have hl : lh_ ls 3 [(0, (va_rf p0)), (2, (.int p2))] := hl
  refine W.eq (g2 := F0 m 12 ls []) rfl ?_
  refine lv_iload_n X.1 X.2.1 dd_mm_unmail_12 rfl (lv_at hl.1 1 rfl) ?_
  refine rr_aldn X dd_mm_unmail_13 rfl (lv_at hl.1 0 rfl) ?_
  obtain ⟨t3, ht3, h⟩ := st_g_some h
  refine rr_geti X hw ff_10_24 ht3 tw_468 (Or.inl rfl) dd_mm_unmail_14 ?_
  by_cases hc17 : t3 ≤ p2
  · rw [if_pos hc17] at h
    refine lv_icmp_ge (tgt := 96) X.1 X.2.1 dd_mm_unmail_17 (by decide) (fun _ => ?_) (fun z => absurd hc17 z)
    obtain ⟨rfl, rfl, rfl, rfl⟩ := st_r_some h
    exact rr_vret X hw hlk hret hci hcj dd_mm_unmail_96
  · rw [if_neg hc17] at h
    refine lv_icmp_ge (tgt := 96) X.1 X.2.1 dd_mm_unmail_17 (by decide) (fun z => absurd z hc17) (fun _ => ?_)
    refine rr_aldn X dd_mm_unmail_20 rfl (lv_at hl.1 0 rfl) ?_
    obtain ⟨t4, ht4, h⟩ := st_g_some h
    refine rr_getq X hw ff_10_25 ht4 tw_445 (Or.inl rfl) dd_mm_unmail_21 ?_
    refine lv_iload_n X.1 X.2.1 dd_mm_unmail_24 rfl (lv_at hl.1 1 rfl) ?_
    refine rr_aldn X dd_mm_unmail_25 rfl (lv_at hl.1 0 rfl) ?_
    obtain ⟨t5, ht5, h⟩ := st_g_some h
    refine rr_getq X hw ff_10_25 ht5 tw_445 (Or.inl rfl) dd_mm_unmail_26 ?_
    refine lv_iload_n X.1 X.2.1 dd_mm_unmail_29 rfl (lv_at hl.1 1 rfl) ?_
    refine lv_iconst (v := (1 : Int32)) X.1 X.2.1 dd_mm_unmail_30 (by decide) ?_
    refine lv_iadd X.1 X.2.1 dd_mm_unmail_31 ?_
    obtain ⟨t6, ht6, h⟩ := st_g_some h
    refine rr_bald (t := 1) X hw rfl ht6 dd_mm_unmail_32 ?_
    obtain ⟨t7, hp33, h⟩ := st_w_some h
    refine rr_bast (t := 1) X hw rfl hp33 dd_mm_unmail_33 (fun H locs hw => ?_)
    refine rr_aldn X dd_mm_unmail_34 rfl (lv_at hl.1 0 rfl) ?_
    obtain ⟨t8, ht8, h⟩ := st_g_some h
    refine rr_getq X hw ff_10_26 ht8 tw_444 (Or.inl rfl) dd_mm_unmail_35 ?_
    refine lv_iload_n X.1 X.2.1 dd_mm_unmail_38 rfl (lv_at hl.1 1 rfl) ?_
    refine rr_aldn X dd_mm_unmail_39 rfl (lv_at hl.1 0 rfl) ?_
    obtain ⟨t9, ht9, h⟩ := st_g_some h
    refine rr_getq X hw ff_10_26 ht9 tw_444 (Or.inl rfl) dd_mm_unmail_40 ?_
    refine lv_iload_n X.1 X.2.1 dd_mm_unmail_43 rfl (lv_at hl.1 1 rfl) ?_
    refine lv_iconst (v := (1 : Int32)) X.1 X.2.1 dd_mm_unmail_44 (by decide) ?_
    refine lv_iadd X.1 X.2.1 dd_mm_unmail_45 ?_
    obtain ⟨t10, ht10, h⟩ := st_g_some h
    refine rr_sald (t := 3) X hw rfl ht10 dd_mm_unmail_46 ?_
    obtain ⟨t11, hp47, h⟩ := st_w_some h
    refine rr_sast (t := 3) X hw rfl hp47 dd_mm_unmail_47 (fun H locs hw => ?_)
    refine rr_aldn X dd_mm_unmail_48 rfl (lv_at hl.1 0 rfl) ?_
    obtain ⟨t12, ht12, h⟩ := st_g_some h
    refine rr_getq X hw ff_10_27 ht12 tw_443 (Or.inl rfl) dd_mm_unmail_49 ?_
    refine lv_iload_n X.1 X.2.1 dd_mm_unmail_52 rfl (lv_at hl.1 1 rfl) ?_
    refine rr_aldn X dd_mm_unmail_53 rfl (lv_at hl.1 0 rfl) ?_
    obtain ⟨t13, ht13, h⟩ := st_g_some h
    refine rr_getq X hw ff_10_27 ht13 tw_443 (Or.inl rfl) dd_mm_unmail_54 ?_
    refine lv_iload_n X.1 X.2.1 dd_mm_unmail_57 rfl (lv_at hl.1 1 rfl) ?_
    refine lv_iconst (v := (1 : Int32)) X.1 X.2.1 dd_mm_unmail_58 (by decide) ?_
    refine lv_iadd X.1 X.2.1 dd_mm_unmail_59 ?_
    obtain ⟨t14, ht14, h⟩ := st_g_some h
    refine rr_iald (t := 0) X hw rfl ht14 dd_mm_unmail_60 ?_
    obtain ⟨t15, hp61, h⟩ := st_w_some h
    refine rr_iast (t := 0) X hw rfl hp61 dd_mm_unmail_61 (fun H locs hw => ?_)
    refine rr_aldn X dd_mm_unmail_62 rfl (lv_at hl.1 0 rfl) ?_
    obtain ⟨t16, ht16, h⟩ := st_g_some h
    refine rr_getq X hw ff_10_28 ht16 tw_442 (Or.inl rfl) dd_mm_unmail_63 ?_
    refine lv_iload_n X.1 X.2.1 dd_mm_unmail_66 rfl (lv_at hl.1 1 rfl) ?_
    refine rr_aldn X dd_mm_unmail_67 rfl (lv_at hl.1 0 rfl) ?_
    obtain ⟨t17, ht17, h⟩ := st_g_some h
    refine rr_getq X hw ff_10_28 ht17 tw_442 (Or.inl rfl) dd_mm_unmail_68 ?_
    refine lv_iload_n X.1 X.2.1 dd_mm_unmail_71 rfl (lv_at hl.1 1 rfl) ?_
    refine lv_iconst (v := (1 : Int32)) X.1 X.2.1 dd_mm_unmail_72 (by decide) ?_
    refine lv_iadd X.1 X.2.1 dd_mm_unmail_73 ?_
    obtain ⟨t18, ht18, h⟩ := st_g_some h
    refine rr_sald (t := 3) X hw rfl ht18 dd_mm_unmail_74 ?_
    obtain ⟨t19, hp75, h⟩ := st_w_some h
    refine rr_sast (t := 3) X hw rfl hp75 dd_mm_unmail_75 (fun H locs hw => ?_)
    refine rr_aldn X dd_mm_unmail_76 rfl (lv_at hl.1 0 rfl) ?_
    obtain ⟨t20, ht20, h⟩ := st_g_some h
    refine rr_getq X hw ff_10_29 ht20 tw_441 (Or.inl rfl) dd_mm_unmail_77 ?_
    refine lv_iload_n X.1 X.2.1 dd_mm_unmail_80 rfl (lv_at hl.1 1 rfl) ?_
    refine rr_aldn X dd_mm_unmail_81 rfl (lv_at hl.1 0 rfl) ?_
    obtain ⟨t21, ht21, h⟩ := st_g_some h
    refine rr_getq X hw ff_10_29 ht21 tw_441 (Or.inl rfl) dd_mm_unmail_82 ?_
    refine lv_iload_n X.1 X.2.1 dd_mm_unmail_85 rfl (lv_at hl.1 1 rfl) ?_
    refine lv_iconst (v := (1 : Int32)) X.1 X.2.1 dd_mm_unmail_86 (by decide) ?_
    refine lv_iadd X.1 X.2.1 dd_mm_unmail_87 ?_
    obtain ⟨t22, ht22, h⟩ := st_g_some h
    refine rr_sald (t := 3) X hw rfl ht22 dd_mm_unmail_88 ?_
    obtain ⟨t23, hp89, h⟩ := st_w_some h
    refine rr_sast (t := 3) X hw rfl hp89 dd_mm_unmail_89 (fun H locs hw => ?_)
    refine rr_iinc (k := 1) (v := (p2 + (1 : Int32))) (lv' := [(2, (.int (p2 + (1 : Int32)))), (0, (va_rf p0))]) X dd_mm_unmail_90 hl rfl (by rw [show Int32.ofInt (1) = (1 : Int32) from by decide]) (by decide) rfl (fun ls hl => ?_)
    refine lv_goto (tgt := 12) X.1 X.2.1 dd_mm_unmail_93 (by decide) ?_
    exact hr12 (p0, (p2 + (1 : Int32))) _ _ _ _ _ _ _ _ hw (lh_pk hl [1, 0] rfl) h hci hcj
set_option maxHeartbeats 4000000 in
set_option maxRecDepth 100000 in
theorem kc_mm_unmail (l : Launch) (D : va_G) (ac : Nat → ClassId) (a0 : Nat) (gl : gl_T) (v0 : Option Nat) (v1 : Int32) (st : st_S) (rF : Unit) (stF : st_S) (iT jT : Nat) (h : mm_unmail gl v0 v1 st = some (rF, stF, iT, jT)) :
    ct_ l ⟨"PromiseVatsModel", "unmail", "(I)V"⟩ (Cond.code ⟨"PromiseVatsModel", "unmail", "(I)V"⟩ prog_12_method_12_code 3 (Option.none : Option FieldType) :: tb_) 0 0 D cl_ ac a0 (kn_ D ac a0 gl) [(va_rf v0), (.int v1)] st (vb_u rF) stF iT jT := by
  refine ct_of (kn_ok D ac a0 gl) (plainFor_of_name (by decide +kernel)) (by simp [rf_cat, ic_cat]) (by simp) ?_
  intro p e s m args below meth c ls X hw hKs hlk hret hnm hl
  unfold mm_unmail at h
  have hl : lh_ ls 3 [(0, (va_rf v0)), (1, (.int v1))] := hl
  obtain ⟨z0, hz0⟩ : ∃ z : Nat, 0 = z := ⟨0, rfl⟩
  obtain ⟨z1, hz1⟩ : ∃ z : Nat, 0 = z := ⟨0, rfl⟩
  refine W.cs hz0 hz1 ?_
  have hci : z0 + iT = iT := by omega
  have hcj : z1 + jT = jT := by omega
  refine rr_aldn X dd_mm_unmail_0 rfl (lv_at hl.1 0 rfl) ?_
  refine lv_dup X.1 X.2.1 dd_mm_unmail_1 (rf_cat _) ?_
  obtain ⟨t1, ht1, h⟩ := st_g_some h
  refine rr_geti X hw ff_10_24 ht1 tw_468 (Or.inl rfl) dd_mm_unmail_2 ?_
  refine lv_iconst (v := (1 : Int32)) X.1 X.2.1 dd_mm_unmail_5 (by decide) ?_
  refine lv_isub X.1 X.2.1 dd_mm_unmail_6 ?_
  obtain ⟨t2, hp7, h⟩ := st_w_some h
  refine rr_put (ty := .int) X hw ff_10_24 hp7 tw_468 (Or.inl rfl) (by decide +kernel) rfl rfl dd_mm_unmail_7 (fun H locs hw => ?_)
  refine lv_iload_n X.1 X.2.1 dd_mm_unmail_10 rfl (lv_at hl.1 1 rfl) ?_
  refine rr_istn (lv' := [(2, (.int v1)), (0, (va_rf v0)), (1, (.int v1))]) X dd_mm_unmail_11 rfl hl (by decide) rfl (fun ls hl => ?_)
  exact (kb_mm_unmail_b12 X hKs hlk hret hnm) (v0, v1) _ _ _ _ _ _ _ _ hw (lh_pk hl [1, 0] rfl) h hci hcj
/-! PromiseVatsModel.post(IIIIII)V -/
theorem dd_mm_post_0 : decode prog_12_method_7_code 0 = .ok (.aload_n 0, 1) := by decide +kernel
theorem dd_mm_post_1 : decode prog_12_method_7_code 1 = .ok (.getfield 69, 3) := by decide +kernel
theorem dd_mm_post_4 : decode prog_12_method_7_code 4 = .ok (.aload_n 0, 1) := by decide +kernel
theorem dd_mm_post_5 : decode prog_12_method_7_code 5 = .ok (.getfield 108, 3) := by decide +kernel
theorem dd_mm_post_8 : decode prog_12_method_7_code 8 = .ok (.bipush 16, 2) := by decide +kernel
theorem dd_mm_post_10 : decode prog_12_method_7_code 10 = .ok (.iload_n 1, 1) := by decide +kernel
theorem dd_mm_post_11 : decode prog_12_method_7_code 11 = .ok (.imul, 1) := by decide +kernel
theorem dd_mm_post_12 : decode prog_12_method_7_code 12 = .ok (.iload_n 2, 1) := by decide +kernel
theorem dd_mm_post_13 : decode prog_12_method_7_code 13 = .ok (.iadd, 1) := by decide +kernel
theorem dd_mm_post_14 : decode prog_12_method_7_code 14 = .ok (.i2b, 1) := by decide +kernel
theorem dd_mm_post_15 : decode prog_12_method_7_code 15 = .ok (.bastore, 1) := by decide +kernel
theorem dd_mm_post_16 : decode prog_12_method_7_code 16 = .ok (.aload_n 0, 1) := by decide +kernel
theorem dd_mm_post_17 : decode prog_12_method_7_code 17 = .ok (.getfield 72, 3) := by decide +kernel
theorem dd_mm_post_20 : decode prog_12_method_7_code 20 = .ok (.aload_n 0, 1) := by decide +kernel
theorem dd_mm_post_21 : decode prog_12_method_7_code 21 = .ok (.getfield 108, 3) := by decide +kernel
theorem dd_mm_post_24 : decode prog_12_method_7_code 24 = .ok (.iload_n 3, 1) := by decide +kernel
theorem dd_mm_post_25 : decode prog_12_method_7_code 25 = .ok (.i2s, 1) := by decide +kernel
theorem dd_mm_post_26 : decode prog_12_method_7_code 26 = .ok (.sastore, 1) := by decide +kernel
theorem dd_mm_post_27 : decode prog_12_method_7_code 27 = .ok (.aload_n 0, 1) := by decide +kernel
theorem dd_mm_post_28 : decode prog_12_method_7_code 28 = .ok (.getfield 76, 3) := by decide +kernel
theorem dd_mm_post_31 : decode prog_12_method_7_code 31 = .ok (.aload_n 0, 1) := by decide +kernel
theorem dd_mm_post_32 : decode prog_12_method_7_code 32 = .ok (.getfield 108, 3) := by decide +kernel
theorem dd_mm_post_35 : decode prog_12_method_7_code 35 = .ok (.iload 4, 2) := by decide +kernel
theorem dd_mm_post_37 : decode prog_12_method_7_code 37 = .ok (.iastore, 1) := by decide +kernel
theorem dd_mm_post_38 : decode prog_12_method_7_code 38 = .ok (.aload_n 0, 1) := by decide +kernel
theorem dd_mm_post_39 : decode prog_12_method_7_code 39 = .ok (.getfield 79, 3) := by decide +kernel
theorem dd_mm_post_42 : decode prog_12_method_7_code 42 = .ok (.aload_n 0, 1) := by decide +kernel
theorem dd_mm_post_43 : decode prog_12_method_7_code 43 = .ok (.getfield 108, 3) := by decide +kernel
theorem dd_mm_post_46 : decode prog_12_method_7_code 46 = .ok (.iload 5, 2) := by decide +kernel
theorem dd_mm_post_48 : decode prog_12_method_7_code 48 = .ok (.i2s, 1) := by decide +kernel
theorem dd_mm_post_49 : decode prog_12_method_7_code 49 = .ok (.sastore, 1) := by decide +kernel
theorem dd_mm_post_50 : decode prog_12_method_7_code 50 = .ok (.aload_n 0, 1) := by decide +kernel
theorem dd_mm_post_51 : decode prog_12_method_7_code 51 = .ok (.getfield 82, 3) := by decide +kernel
theorem dd_mm_post_54 : decode prog_12_method_7_code 54 = .ok (.aload_n 0, 1) := by decide +kernel
theorem dd_mm_post_55 : decode prog_12_method_7_code 55 = .ok (.getfield 108, 3) := by decide +kernel
theorem dd_mm_post_58 : decode prog_12_method_7_code 58 = .ok (.iload 6, 2) := by decide +kernel
theorem dd_mm_post_60 : decode prog_12_method_7_code 60 = .ok (.i2s, 1) := by decide +kernel
theorem dd_mm_post_61 : decode prog_12_method_7_code 61 = .ok (.sastore, 1) := by decide +kernel
theorem dd_mm_post_62 : decode prog_12_method_7_code 62 = .ok (.aload_n 0, 1) := by decide +kernel
theorem dd_mm_post_63 : decode prog_12_method_7_code 63 = .ok (.dup, 1) := by decide +kernel
theorem dd_mm_post_64 : decode prog_12_method_7_code 64 = .ok (.getfield 108, 3) := by decide +kernel
theorem dd_mm_post_67 : decode prog_12_method_7_code 67 = .ok (.iconst 1, 1) := by decide +kernel
theorem dd_mm_post_68 : decode prog_12_method_7_code 68 = .ok (.iadd, 1) := by decide +kernel
theorem dd_mm_post_69 : decode prog_12_method_7_code 69 = .ok (.putfield 108, 3) := by decide +kernel
theorem dd_mm_post_72 : decode prog_12_method_7_code 72 = .ok (.return_, 1) := by decide +kernel
set_option maxHeartbeats 4000000 in
set_option maxRecDepth 100000 in
theorem kc_mm_post (l : Launch) (D : va_G) (ac : Nat → ClassId) (a0 : Nat) (gl : gl_T) (v0 : Option Nat) (v1 : Int32) (v2 : Int32) (v3 : Int32) (v4 : Int32) (v5 : Int32) (v6 : Int32) (st : st_S) (rF : Unit) (stF : st_S) (iT jT : Nat) (h : mm_post gl v0 v1 v2 v3 v4 v5 v6 st = some (rF, stF, iT, jT)) :
    ct_ l ⟨"PromiseVatsModel", "post", "(IIIIII)V"⟩ (Cond.code ⟨"PromiseVatsModel", "post", "(IIIIII)V"⟩ prog_12_method_7_code 7 (Option.none : Option FieldType) :: tb_) 0 0 D cl_ ac a0 (kn_ D ac a0 gl) [(va_rf v0), (.int v1), (.int v2), (.int v3), (.int v4), (.int v5), (.int v6)] st (vb_u rF) stF iT jT := by
  refine ct_of (kn_ok D ac a0 gl) (plainFor_of_name (by decide +kernel)) (by simp [rf_cat, ic_cat]) (by simp) ?_
  intro p e s m args below meth c ls X hw hKs hlk hret hnm hl
  unfold mm_post at h
  have hl : lh_ ls 7 [(0, (va_rf v0)), (1, (.int v1)), (2, (.int v2)), (3, (.int v3)), (4, (.int v4)), (5, (.int v5)), (6, (.int v6))] := hl
  obtain ⟨z0, hz0⟩ : ∃ z : Nat, 0 = z := ⟨0, rfl⟩
  obtain ⟨z1, hz1⟩ : ∃ z : Nat, 0 = z := ⟨0, rfl⟩
  refine W.cs hz0 hz1 ?_
  have hci : z0 + iT = iT := by omega
  have hcj : z1 + jT = jT := by omega
  refine rr_aldn X dd_mm_post_0 rfl (lv_at hl.1 0 rfl) ?_
  obtain ⟨t1, ht1, h⟩ := st_g_some h
  refine rr_getq X hw ff_10_25 ht1 tw_445 (Or.inl rfl) dd_mm_post_1 ?_
  refine rr_aldn X dd_mm_post_4 rfl (lv_at hl.1 0 rfl) ?_
  obtain ⟨t2, ht2, h⟩ := st_g_some h
  refine rr_geti X hw ff_10_24 ht2 tw_468 (Or.inl rfl) dd_mm_post_5 ?_
  refine lv_bipush (v := (16 : Int32)) X.1 X.2.1 dd_mm_post_8 (by decide) ?_
  refine lv_iload_n X.1 X.2.1 dd_mm_post_10 rfl (lv_at hl.1 1 rfl) ?_
  refine lv_imul X.1 X.2.1 dd_mm_post_11 ?_
  refine lv_iload_n X.1 X.2.1 dd_mm_post_12 rfl (lv_at hl.1 2 rfl) ?_
  refine lv_iadd X.1 X.2.1 dd_mm_post_13 ?_
  refine lv_i2b (v := ((((16 : Int32) * v1) + v2).toInt8.toInt32)) X.1 X.2.1 dd_mm_post_14 rfl ?_
  obtain ⟨t3, hp15, h⟩ := st_w_some h
  refine rr_bast (t := 1) X hw rfl hp15 dd_mm_post_15 (fun H locs hw => ?_)
  refine rr_aldn X dd_mm_post_16 rfl (lv_at hl.1 0 rfl) ?_
  obtain ⟨t4, ht4, h⟩ := st_g_some h
  refine rr_getq X hw ff_10_26 ht4 tw_444 (Or.inl rfl) dd_mm_post_17 ?_
  refine rr_aldn X dd_mm_post_20 rfl (lv_at hl.1 0 rfl) ?_
  obtain ⟨t5, ht5, h⟩ := st_g_some h
  refine rr_geti X hw ff_10_24 ht5 tw_468 (Or.inl rfl) dd_mm_post_21 ?_
  refine lv_iload_n X.1 X.2.1 dd_mm_post_24 rfl (lv_at hl.1 3 rfl) ?_
  refine lv_i2s (v := (v3.toInt16.toInt32)) X.1 X.2.1 dd_mm_post_25 rfl ?_
  obtain ⟨t6, hp26, h⟩ := st_w_some h
  refine rr_sast (t := 3) X hw rfl hp26 dd_mm_post_26 (fun H locs hw => ?_)
  refine rr_aldn X dd_mm_post_27 rfl (lv_at hl.1 0 rfl) ?_
  obtain ⟨t7, ht7, h⟩ := st_g_some h
  refine rr_getq X hw ff_10_27 ht7 tw_443 (Or.inl rfl) dd_mm_post_28 ?_
  refine rr_aldn X dd_mm_post_31 rfl (lv_at hl.1 0 rfl) ?_
  obtain ⟨t8, ht8, h⟩ := st_g_some h
  refine rr_geti X hw ff_10_24 ht8 tw_468 (Or.inl rfl) dd_mm_post_32 ?_
  refine lv_iload X.1 X.2.1 dd_mm_post_35 (lv_at hl.1 4 rfl) ?_
  obtain ⟨t9, hp37, h⟩ := st_w_some h
  refine rr_iast (t := 0) X hw rfl hp37 dd_mm_post_37 (fun H locs hw => ?_)
  refine rr_aldn X dd_mm_post_38 rfl (lv_at hl.1 0 rfl) ?_
  obtain ⟨t10, ht10, h⟩ := st_g_some h
  refine rr_getq X hw ff_10_28 ht10 tw_442 (Or.inl rfl) dd_mm_post_39 ?_
  refine rr_aldn X dd_mm_post_42 rfl (lv_at hl.1 0 rfl) ?_
  obtain ⟨t11, ht11, h⟩ := st_g_some h
  refine rr_geti X hw ff_10_24 ht11 tw_468 (Or.inl rfl) dd_mm_post_43 ?_
  refine lv_iload X.1 X.2.1 dd_mm_post_46 (lv_at hl.1 5 rfl) ?_
  refine lv_i2s (v := (v5.toInt16.toInt32)) X.1 X.2.1 dd_mm_post_48 rfl ?_
  obtain ⟨t12, hp49, h⟩ := st_w_some h
  refine rr_sast (t := 3) X hw rfl hp49 dd_mm_post_49 (fun H locs hw => ?_)
  refine rr_aldn X dd_mm_post_50 rfl (lv_at hl.1 0 rfl) ?_
  obtain ⟨t13, ht13, h⟩ := st_g_some h
  refine rr_getq X hw ff_10_29 ht13 tw_441 (Or.inl rfl) dd_mm_post_51 ?_
  refine rr_aldn X dd_mm_post_54 rfl (lv_at hl.1 0 rfl) ?_
  obtain ⟨t14, ht14, h⟩ := st_g_some h
  refine rr_geti X hw ff_10_24 ht14 tw_468 (Or.inl rfl) dd_mm_post_55 ?_
  refine lv_iload X.1 X.2.1 dd_mm_post_58 (lv_at hl.1 6 rfl) ?_
  refine lv_i2s (v := (v6.toInt16.toInt32)) X.1 X.2.1 dd_mm_post_60 rfl ?_
  obtain ⟨t15, hp61, h⟩ := st_w_some h
  refine rr_sast (t := 3) X hw rfl hp61 dd_mm_post_61 (fun H locs hw => ?_)
  refine rr_aldn X dd_mm_post_62 rfl (lv_at hl.1 0 rfl) ?_
  refine lv_dup X.1 X.2.1 dd_mm_post_63 (rf_cat _) ?_
  obtain ⟨t16, ht16, h⟩ := st_g_some h
  refine rr_geti X hw ff_10_24 ht16 tw_468 (Or.inl rfl) dd_mm_post_64 ?_
  refine lv_iconst (v := (1 : Int32)) X.1 X.2.1 dd_mm_post_67 (by decide) ?_
  refine lv_iadd X.1 X.2.1 dd_mm_post_68 ?_
  obtain ⟨t17, hp69, h⟩ := st_w_some h
  refine rr_put (ty := .int) X hw ff_10_24 hp69 tw_468 (Or.inl rfl) (by decide +kernel) rfl rfl dd_mm_post_69 (fun H locs hw => ?_)
  obtain ⟨rfl, rfl, rfl, rfl⟩ := st_r_some h
  exact rr_vret X hw hlk hret hci hcj dd_mm_post_72
