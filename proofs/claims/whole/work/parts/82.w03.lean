/-! PromiseVats.isProgram(I)Z -/
theorem dd_xP_isProgram_0 : decode prog_1_method_20_code 0 = .ok (.iload_n 0, 1) := by decide +kernel
theorem dd_xP_isProgram_1 : decode prog_1_method_20_code 1 = .ok (.ifCond .lt 13, 3) := by decide +kernel
theorem dd_xP_isProgram_4 : decode prog_1_method_20_code 4 = .ok (.iload_n 0, 1) := by decide +kernel
theorem dd_xP_isProgram_5 : decode prog_1_method_20_code 5 = .ok (.bipush 8, 2) := by decide +kernel
theorem dd_xP_isProgram_7 : decode prog_1_method_20_code 7 = .ok (.if_icmp .ge 7, 3) := by decide +kernel
theorem dd_xP_isProgram_10 : decode prog_1_method_20_code 10 = .ok (.iconst 1, 1) := by decide +kernel
theorem dd_xP_isProgram_11 : decode prog_1_method_20_code 11 = .ok (.goto 4, 3) := by decide +kernel
theorem dd_xP_isProgram_14 : decode prog_1_method_20_code 14 = .ok (.iconst 0, 1) := by decide +kernel
theorem dd_xP_isProgram_15 : decode prog_1_method_20_code 15 = .ok (.ireturn, 1) := by decide +kernel
set_option maxHeartbeats 4000000 in
set_option maxRecDepth 100000 in
theorem kb_xP_isProgram_b14 {p : Program} {l : Launch} {e : Env} {s : State} {m : MethodId} {args : Array Value} {below : List Frame} {meth : Method} {c : Code} {D : va_G} {ac : Nat → ClassId} {a0 : Nat} {gl : gl_T} {rF : Int32} {stF : st_S} {iT jT : Nat}
    (X : cx_ p s m args c prog_1_method_20_code 1 "PromiseVats" tb_ D cl_ (ty_ ac)) (hKs : kn_ D ac a0 gl s) (hlk : meth.locks = false) (hret : meth.sig.returnType = (Option.some FieldType.boolean)) (hnm : meth.name = "isProgram") : wk_ p l e 0 0 s m args below meth c D cl_ ac a0 1 vb_i rF stF iT jT 14 (fun x : Unit => []) (fun x : Unit => []) (fun _ : Unit => xP_isProgram_b14 gl) := by
  intro x st H locs cells slots i j ls hw hl h hci hcj
  have h : xP_isProgram_b14 gl  st = some (rF, stF, i, j) := h
  unfold xP_isProgram_b14 at h
  have hl : lh_ ls 1 [] := hl
  refine W.eq (g2 := F0 m 14 ls []) rfl ?_
  refine lv_iconst (v := (0 : Int32)) X.1 X.2.1 dd_xP_isProgram_14 (by decide) ?_
  obtain ⟨rfl, rfl, rfl, rfl⟩ := st_r_some h
  exact rr_iret X hw hlk hret (by decide) hci hcj dd_xP_isProgram_15
set_option maxHeartbeats 4000000 in
set_option maxRecDepth 100000 in
theorem kc_xP_isProgram (l : Launch) (D : va_G) (ac : Nat → ClassId) (a0 : Nat) (gl : gl_T) (v0 : Int32) (st : st_S) (rF : Int32) (stF : st_S) (iT jT : Nat) (h : xP_isProgram gl v0 st = some (rF, stF, iT, jT)) :
    ct_ l ⟨"PromiseVats", "isProgram", "(I)Z"⟩ (Cond.code ⟨"PromiseVats", "isProgram", "(I)Z"⟩ prog_1_method_20_code 1 (Option.some FieldType.boolean) :: tb_) 0 0 D cl_ ac a0 (kn_ D ac a0 gl) [(.int v0)] st (vb_i rF) stF iT jT := by
  refine ct_of (kn_ok D ac a0 gl) (plainFor_of_name (by decide +kernel)) (by simp [rf_cat, ic_cat]) (by simp) ?_
  intro p e s m args below meth c ls X hw hKs hlk hret hnm hl
  unfold xP_isProgram at h
  have hl : lh_ ls 1 [(0, (.int v0))] := hl
  obtain ⟨z0, hz0⟩ : ∃ z : Nat, 0 = z := ⟨0, rfl⟩
  obtain ⟨z1, hz1⟩ : ∃ z : Nat, 0 = z := ⟨0, rfl⟩
  refine W.cs hz0 hz1 ?_
  have hci : z0 + iT = iT := by omega
  have hcj : z1 + jT = jT := by omega
  refine lv_iload_n X.1 X.2.1 dd_xP_isProgram_0 rfl (lv_at hl.1 0 rfl) ?_
  by_cases hc1 : v0 < 0
  · rw [if_pos hc1] at h
    refine lv_if_lt (tgt := 14) X.1 X.2.1 dd_xP_isProgram_1 (by decide) (fun _ => ?_) (fun z => absurd hc1 z)
    exact (kb_xP_isProgram_b14 X hKs hlk hret hnm) () _ _ _ _ _ _ _ _ hw (lh_pk hl [] rfl) h hci hcj
  · rw [if_neg hc1] at h
    refine lv_if_lt (tgt := 14) X.1 X.2.1 dd_xP_isProgram_1 (by decide) (fun z => absurd z hc1) (fun _ => ?_)
    refine lv_iload_n X.1 X.2.1 dd_xP_isProgram_4 rfl (lv_at hl.1 0 rfl) ?_
    refine lv_bipush (v := (8 : Int32)) X.1 X.2.1 dd_xP_isProgram_5 (by decide) ?_
    by_cases hc7 : (8 : Int32) ≤ v0
    · rw [if_pos hc7] at h
      refine lv_icmp_ge (tgt := 14) X.1 X.2.1 dd_xP_isProgram_7 (by decide) (fun _ => ?_) (fun z => absurd hc7 z)
      exact (kb_xP_isProgram_b14 X hKs hlk hret hnm) () _ _ _ _ _ _ _ _ hw (lh_pk hl [] rfl) h hci hcj
    · rw [if_neg hc7] at h
      refine lv_icmp_ge (tgt := 14) X.1 X.2.1 dd_xP_isProgram_7 (by decide) (fun z => absurd z hc7) (fun _ => ?_)
      refine lv_iconst (v := (1 : Int32)) X.1 X.2.1 dd_xP_isProgram_10 (by decide) ?_
      refine lv_goto (tgt := 15) X.1 X.2.1 dd_xP_isProgram_11 (by decide) ?_
      obtain ⟨rfl, rfl, rfl, rfl⟩ := st_r_some h
      exact rr_iret X hw hlk hret (by decide) hci hcj dd_xP_isProgram_15
/-! PromiseVats.isSlot(I)Z -/
theorem dd_xP_isSlot_0 : decode prog_1_method_21_code 0 = .ok (.iload_n 0, 1) := by decide +kernel
theorem dd_xP_isSlot_1 : decode prog_1_method_21_code 1 = .ok (.ifCond .lt 12, 3) := by decide +kernel
theorem dd_xP_isSlot_4 : decode prog_1_method_21_code 4 = .ok (.iload_n 0, 1) := by decide +kernel
theorem dd_xP_isSlot_5 : decode prog_1_method_21_code 5 = .ok (.iconst 4, 1) := by decide +kernel
theorem dd_xP_isSlot_6 : decode prog_1_method_21_code 6 = .ok (.if_icmp .ge 7, 3) := by decide +kernel
theorem dd_xP_isSlot_9 : decode prog_1_method_21_code 9 = .ok (.iconst 1, 1) := by decide +kernel
theorem dd_xP_isSlot_10 : decode prog_1_method_21_code 10 = .ok (.goto 4, 3) := by decide +kernel
theorem dd_xP_isSlot_13 : decode prog_1_method_21_code 13 = .ok (.iconst 0, 1) := by decide +kernel
theorem dd_xP_isSlot_14 : decode prog_1_method_21_code 14 = .ok (.ireturn, 1) := by decide +kernel
set_option maxHeartbeats 4000000 in
set_option maxRecDepth 100000 in
theorem kb_xP_isSlot_b13 {p : Program} {l : Launch} {e : Env} {s : State} {m : MethodId} {args : Array Value} {below : List Frame} {meth : Method} {c : Code} {D : va_G} {ac : Nat → ClassId} {a0 : Nat} {gl : gl_T} {rF : Int32} {stF : st_S} {iT jT : Nat}
    (X : cx_ p s m args c prog_1_method_21_code 1 "PromiseVats" tb_ D cl_ (ty_ ac)) (hKs : kn_ D ac a0 gl s) (hlk : meth.locks = false) (hret : meth.sig.returnType = (Option.some FieldType.boolean)) (hnm : meth.name = "isSlot") : wk_ p l e 0 0 s m args below meth c D cl_ ac a0 1 vb_i rF stF iT jT 13 (fun x : Unit => []) (fun x : Unit => []) (fun _ : Unit => xP_isSlot_b13 gl) := by
  intro x st H locs cells slots i j ls hw hl h hci hcj
  have h : xP_isSlot_b13 gl  st = some (rF, stF, i, j) := h
  unfold xP_isSlot_b13 at h
  have hl : lh_ ls 1 [] := hl
  refine W.eq (g2 := F0 m 13 ls []) rfl ?_
  refine lv_iconst (v := (0 : Int32)) X.1 X.2.1 dd_xP_isSlot_13 (by decide) ?_
  obtain ⟨rfl, rfl, rfl, rfl⟩ := st_r_some h
  exact rr_iret X hw hlk hret (by decide) hci hcj dd_xP_isSlot_14
set_option maxHeartbeats 4000000 in
set_option maxRecDepth 100000 in
theorem kc_xP_isSlot (l : Launch) (D : va_G) (ac : Nat → ClassId) (a0 : Nat) (gl : gl_T) (v0 : Int32) (st : st_S) (rF : Int32) (stF : st_S) (iT jT : Nat) (h : xP_isSlot gl v0 st = some (rF, stF, iT, jT)) :
    ct_ l ⟨"PromiseVats", "isSlot", "(I)Z"⟩ (Cond.code ⟨"PromiseVats", "isSlot", "(I)Z"⟩ prog_1_method_21_code 1 (Option.some FieldType.boolean) :: tb_) 0 0 D cl_ ac a0 (kn_ D ac a0 gl) [(.int v0)] st (vb_i rF) stF iT jT := by
  refine ct_of (kn_ok D ac a0 gl) (plainFor_of_name (by decide +kernel)) (by simp [rf_cat, ic_cat]) (by simp) ?_
  intro p e s m args below meth c ls X hw hKs hlk hret hnm hl
  unfold xP_isSlot at h
  have hl : lh_ ls 1 [(0, (.int v0))] := hl
  obtain ⟨z0, hz0⟩ : ∃ z : Nat, 0 = z := ⟨0, rfl⟩
  obtain ⟨z1, hz1⟩ : ∃ z : Nat, 0 = z := ⟨0, rfl⟩
  refine W.cs hz0 hz1 ?_
  have hci : z0 + iT = iT := by omega
  have hcj : z1 + jT = jT := by omega
  refine lv_iload_n X.1 X.2.1 dd_xP_isSlot_0 rfl (lv_at hl.1 0 rfl) ?_
  by_cases hc1 : v0 < 0
  · rw [if_pos hc1] at h
    refine lv_if_lt (tgt := 13) X.1 X.2.1 dd_xP_isSlot_1 (by decide) (fun _ => ?_) (fun z => absurd hc1 z)
    exact (kb_xP_isSlot_b13 X hKs hlk hret hnm) () _ _ _ _ _ _ _ _ hw (lh_pk hl [] rfl) h hci hcj
  · rw [if_neg hc1] at h
    refine lv_if_lt (tgt := 13) X.1 X.2.1 dd_xP_isSlot_1 (by decide) (fun z => absurd z hc1) (fun _ => ?_)
    refine lv_iload_n X.1 X.2.1 dd_xP_isSlot_4 rfl (lv_at hl.1 0 rfl) ?_
    refine lv_iconst (v := (4 : Int32)) X.1 X.2.1 dd_xP_isSlot_5 (by decide) ?_
    by_cases hc6 : (4 : Int32) ≤ v0
    · rw [if_pos hc6] at h
      refine lv_icmp_ge (tgt := 13) X.1 X.2.1 dd_xP_isSlot_6 (by decide) (fun _ => ?_) (fun z => absurd hc6 z)
      exact (kb_xP_isSlot_b13 X hKs hlk hret hnm) () _ _ _ _ _ _ _ _ hw (lh_pk hl [] rfl) h hci hcj
    · rw [if_neg hc6] at h
      refine lv_icmp_ge (tgt := 13) X.1 X.2.1 dd_xP_isSlot_6 (by decide) (fun z => absurd z hc6) (fun _ => ?_)
      refine lv_iconst (v := (1 : Int32)) X.1 X.2.1 dd_xP_isSlot_9 (by decide) ?_
      refine lv_goto (tgt := 14) X.1 X.2.1 dd_xP_isSlot_10 (by decide) ?_
      obtain ⟨rfl, rfl, rfl, rfl⟩ := st_r_some h
      exact rr_iret X hw hlk hret (by decide) hci hcj dd_xP_isSlot_14
/-! PromiseVats.isInstruction(II)Z -/
theorem dd_xP_isInstruction_0 : decode prog_1_method_22_code 0 = .ok (.iload_n 0, 1) := by decide +kernel
theorem dd_xP_isInstruction_1 : decode prog_1_method_22_code 1 = .ok (.tableswitch 65 3 8 #[39, 39, 65, 44, 39, 49], 39) := by decide +kernel
theorem dd_xP_isInstruction_40 : decode prog_1_method_22_code 40 = .ok (.iload_n 1, 1) := by decide +kernel
theorem dd_xP_isInstruction_41 : decode prog_1_method_22_code 41 = .ok (.invokestatic 86, 3) := by decide +kernel
theorem dd_xP_isInstruction_44 : decode prog_1_method_22_code 44 = .ok (.ireturn, 1) := by decide +kernel
theorem dd_xP_isInstruction_45 : decode prog_1_method_22_code 45 = .ok (.iload_n 1, 1) := by decide +kernel
theorem dd_xP_isInstruction_46 : decode prog_1_method_22_code 46 = .ok (.invokestatic 65, 3) := by decide +kernel
theorem dd_xP_isInstruction_49 : decode prog_1_method_22_code 49 = .ok (.ireturn, 1) := by decide +kernel
theorem dd_xP_isInstruction_50 : decode prog_1_method_22_code 50 = .ok (.iload_n 1, 1) := by decide +kernel
theorem dd_xP_isInstruction_51 : decode prog_1_method_22_code 51 = .ok (.ifCond .lt 13, 3) := by decide +kernel
theorem dd_xP_isInstruction_54 : decode prog_1_method_22_code 54 = .ok (.iload_n 1, 1) := by decide +kernel
theorem dd_xP_isInstruction_55 : decode prog_1_method_22_code 55 = .ok (.bipush 8, 2) := by decide +kernel
theorem dd_xP_isInstruction_57 : decode prog_1_method_22_code 57 = .ok (.if_icmp .ge 7, 3) := by decide +kernel
theorem dd_xP_isInstruction_60 : decode prog_1_method_22_code 60 = .ok (.iconst 1, 1) := by decide +kernel
theorem dd_xP_isInstruction_61 : decode prog_1_method_22_code 61 = .ok (.goto 4, 3) := by decide +kernel
theorem dd_xP_isInstruction_64 : decode prog_1_method_22_code 64 = .ok (.iconst 0, 1) := by decide +kernel
theorem dd_xP_isInstruction_65 : decode prog_1_method_22_code 65 = .ok (.ireturn, 1) := by decide +kernel
theorem dd_xP_isInstruction_66 : decode prog_1_method_22_code 66 = .ok (.iload_n 0, 1) := by decide +kernel
theorem dd_xP_isInstruction_67 : decode prog_1_method_22_code 67 = .ok (.ifCond .lt 13, 3) := by decide +kernel
theorem dd_xP_isInstruction_70 : decode prog_1_method_22_code 70 = .ok (.iload_n 0, 1) := by decide +kernel
theorem dd_xP_isInstruction_71 : decode prog_1_method_22_code 71 = .ok (.bipush 10, 2) := by decide +kernel
theorem dd_xP_isInstruction_73 : decode prog_1_method_22_code 73 = .ok (.if_icmp .gt 7, 3) := by decide +kernel
theorem dd_xP_isInstruction_76 : decode prog_1_method_22_code 76 = .ok (.iconst 1, 1) := by decide +kernel
theorem dd_xP_isInstruction_77 : decode prog_1_method_22_code 77 = .ok (.goto 4, 3) := by decide +kernel
theorem dd_xP_isInstruction_80 : decode prog_1_method_22_code 80 = .ok (.iconst 0, 1) := by decide +kernel
theorem dd_xP_isInstruction_81 : decode prog_1_method_22_code 81 = .ok (.ireturn, 1) := by decide +kernel
set_option maxHeartbeats 4000000 in
set_option maxRecDepth 100000 in
theorem kb_xP_isInstruction_b40 {p : Program} {l : Launch} {e : Env} {s : State} {m : MethodId} {args : Array Value} {below : List Frame} {meth : Method} {c : Code} {D : va_G} {ac : Nat → ClassId} {a0 : Nat} {gl : gl_T} {rF : Int32} {stF : st_S} {iT jT : Nat}
    (X : cx_ p s m args c prog_1_method_22_code 2 "PromiseVats" tb_ D cl_ (ty_ ac)) (hKs : kn_ D ac a0 gl s) (hlk : meth.locks = false) (hret : meth.sig.returnType = (Option.some FieldType.boolean)) (hnm : meth.name = "isInstruction") : wk_ p l e 1 20 s m args below meth c D cl_ ac a0 2 vb_i rF stF iT jT 40 (fun x : Int32 => [(1, (.int x))]) (fun x : Int32 => []) (fun x : Int32 => xP_isInstruction_b40 gl x) := by
  intro x st H locs cells slots i j ls hw hl h hci hcj
  have hx : ∃ z, z = x := ⟨_, rfl⟩; obtain ⟨p1, rfl⟩ := hx
  have h : xP_isInstruction_b40 gl p1 st = some (rF, stF, i, j) := h
  unfold xP_isInstruction_b40 at h
  have hl : lh_ ls 2 [(1, (.int p1))] := hl
  refine W.eq (g2 := F0 m 40 ls []) rfl ?_
  refine lv_iload_n X.1 X.2.1 dd_xP_isInstruction_40 rfl (lv_at hl.1 0 rfl) ?_
  obtain ⟨t9, t10, t11, t12, t13, t14, ht9, h, ei, ej⟩ := st_b_some h
  refine rr_callS (n := 1) (As := [(.int p1)]) (rest := []) X hw (kn_ok D ac a0 gl) hKs (kc_xP_isSlot l D ac a0 gl p1 _ _ _ _ _ ht9) tb_good tw_95 tw_91 tw_96 tw_97 (by decide +kernel) rfl (show 0 + 1 ≤ _ ∧ 8 + (1 + 11) + 0 ≤ _ from ⟨Nat.le_of_ble_eq_true rfl, Nat.le_of_ble_eq_true rfl⟩) (show cells + t11 ≤ iT ∧ slots + t12 ≤ jT from ⟨ar_1 hci ei, ar_1 hcj ej⟩) hl.1.1 (by simp [rf_cat, ic_cat]) rfl dd_xP_isInstruction_41 (sk := [(.int t9)]) rfl (fun H locs hw => ?_)
  have hci : cells + t11 + t13 = iT := ar_2 hci ei
  have hcj : slots + t12 + t14 = jT := ar_2 hcj ej
  clear ei ej
  generalize cells + t11 = t15 at hci ⊢
  generalize slots + t12 = t16 at hcj ⊢
  obtain ⟨_, hz44, h⟩ := st_g_some h
  obtain ⟨rfl, rfl, rfl, rfl⟩ := st_r_some h
  exact rr_iret X hw hlk hret (so_z_n hz44) hci hcj dd_xP_isInstruction_44
set_option maxHeartbeats 4000000 in
set_option maxRecDepth 100000 in
theorem kb_xP_isInstruction_b64 {p : Program} {l : Launch} {e : Env} {s : State} {m : MethodId} {args : Array Value} {below : List Frame} {meth : Method} {c : Code} {D : va_G} {ac : Nat → ClassId} {a0 : Nat} {gl : gl_T} {rF : Int32} {stF : st_S} {iT jT : Nat}
    (X : cx_ p s m args c prog_1_method_22_code 2 "PromiseVats" tb_ D cl_ (ty_ ac)) (hKs : kn_ D ac a0 gl s) (hlk : meth.locks = false) (hret : meth.sig.returnType = (Option.some FieldType.boolean)) (hnm : meth.name = "isInstruction") : wk_ p l e 1 20 s m args below meth c D cl_ ac a0 2 vb_i rF stF iT jT 64 (fun x : Unit => []) (fun x : Unit => []) (fun _ : Unit => xP_isInstruction_b64 gl) := by
  intro x st H locs cells slots i j ls hw hl h hci hcj
  have h : xP_isInstruction_b64 gl  st = some (rF, stF, i, j) := h
  unfold xP_isInstruction_b64 at h
  have hl : lh_ ls 2 [] := hl
  refine W.eq (g2 := F0 m 64 ls []) rfl ?_
  refine lv_iconst (v := (0 : Int32)) X.1 X.2.1 dd_xP_isInstruction_64 (by decide) ?_
  obtain ⟨rfl, rfl, rfl, rfl⟩ := st_r_some h
  exact rr_iret X hw hlk hret (by decide) hci hcj dd_xP_isInstruction_65
set_option maxHeartbeats 4000000 in
set_option maxRecDepth 100000 in
theorem kb_xP_isInstruction_b80 {p : Program} {l : Launch} {e : Env} {s : State} {m : MethodId} {args : Array Value} {below : List Frame} {meth : Method} {c : Code} {D : va_G} {ac : Nat → ClassId} {a0 : Nat} {gl : gl_T} {rF : Int32} {stF : st_S} {iT jT : Nat}
    (X : cx_ p s m args c prog_1_method_22_code 2 "PromiseVats" tb_ D cl_ (ty_ ac)) (hKs : kn_ D ac a0 gl s) (hlk : meth.locks = false) (hret : meth.sig.returnType = (Option.some FieldType.boolean)) (hnm : meth.name = "isInstruction") : wk_ p l e 1 20 s m args below meth c D cl_ ac a0 2 vb_i rF stF iT jT 80 (fun x : Unit => []) (fun x : Unit => []) (fun _ : Unit => xP_isInstruction_b80 gl) := by
  intro x st H locs cells slots i j ls hw hl h hci hcj
  have h : xP_isInstruction_b80 gl  st = some (rF, stF, i, j) := h
  unfold xP_isInstruction_b80 at h
  have hl : lh_ ls 2 [] := hl
  refine W.eq (g2 := F0 m 80 ls []) rfl ?_
  refine lv_iconst (v := (0 : Int32)) X.1 X.2.1 dd_xP_isInstruction_80 (by decide) ?_
  obtain ⟨rfl, rfl, rfl, rfl⟩ := st_r_some h
  exact rr_iret X hw hlk hret (by decide) hci hcj dd_xP_isInstruction_81
set_option maxHeartbeats 4000000 in
set_option maxRecDepth 100000 in
theorem kb_xP_isInstruction_b66 {p : Program} {l : Launch} {e : Env} {s : State} {m : MethodId} {args : Array Value} {below : List Frame} {meth : Method} {c : Code} {D : va_G} {ac : Nat → ClassId} {a0 : Nat} {gl : gl_T} {rF : Int32} {stF : st_S} {iT jT : Nat}
    (X : cx_ p s m args c prog_1_method_22_code 2 "PromiseVats" tb_ D cl_ (ty_ ac)) (hKs : kn_ D ac a0 gl s) (hlk : meth.locks = false) (hret : meth.sig.returnType = (Option.some FieldType.boolean)) (hnm : meth.name = "isInstruction") : wk_ p l e 1 20 s m args below meth c D cl_ ac a0 2 vb_i rF stF iT jT 66 (fun x : Int32 => [(0, (.int x))]) (fun x : Int32 => []) (fun x : Int32 => xP_isInstruction_b66 gl x) := by
  intro x st H locs cells slots i j ls hw hl h hci hcj
  have hx : ∃ z, z = x := ⟨_, rfl⟩; obtain ⟨p0, rfl⟩ := hx
  have h : xP_isInstruction_b66 gl p0 st = some (rF, stF, i, j) := h
  unfold xP_isInstruction_b66 at h
  have hl : lh_ ls 2 [(0, (.int p0))] := hl
  refine W.eq (g2 := F0 m 66 ls []) rfl ?_
  refine lv_iload_n X.1 X.2.1 dd_xP_isInstruction_66 rfl (lv_at hl.1 0 rfl) ?_
  by_cases hc67 : p0 < 0
  · rw [if_pos hc67] at h
    refine lv_if_lt (tgt := 80) X.1 X.2.1 dd_xP_isInstruction_67 (by decide) (fun _ => ?_) (fun z => absurd hc67 z)
    exact (kb_xP_isInstruction_b80 X hKs hlk hret hnm) () _ _ _ _ _ _ _ _ hw (lh_pk hl [] rfl) h hci hcj
  · rw [if_neg hc67] at h
    refine lv_if_lt (tgt := 80) X.1 X.2.1 dd_xP_isInstruction_67 (by decide) (fun z => absurd z hc67) (fun _ => ?_)
    refine lv_iload_n X.1 X.2.1 dd_xP_isInstruction_70 rfl (lv_at hl.1 0 rfl) ?_
    refine lv_bipush (v := (10 : Int32)) X.1 X.2.1 dd_xP_isInstruction_71 (by decide) ?_
    by_cases hc73 : (10 : Int32) < p0
    · rw [if_pos hc73] at h
      refine lv_icmp_gt (tgt := 80) X.1 X.2.1 dd_xP_isInstruction_73 (by decide) (fun _ => ?_) (fun z => absurd hc73 z)
      exact (kb_xP_isInstruction_b80 X hKs hlk hret hnm) () _ _ _ _ _ _ _ _ hw (lh_pk hl [] rfl) h hci hcj
    · rw [if_neg hc73] at h
      refine lv_icmp_gt (tgt := 80) X.1 X.2.1 dd_xP_isInstruction_73 (by decide) (fun z => absurd z hc73) (fun _ => ?_)
      refine lv_iconst (v := (1 : Int32)) X.1 X.2.1 dd_xP_isInstruction_76 (by decide) ?_
      refine lv_goto (tgt := 81) X.1 X.2.1 dd_xP_isInstruction_77 (by decide) ?_
      obtain ⟨rfl, rfl, rfl, rfl⟩ := st_r_some h
      exact rr_iret X hw hlk hret (by decide) hci hcj dd_xP_isInstruction_81
set_option maxHeartbeats 4000000 in
set_option maxRecDepth 100000 in
theorem kc_xP_isInstruction (l : Launch) (D : va_G) (ac : Nat → ClassId) (a0 : Nat) (gl : gl_T) (v0 : Int32) (v1 : Int32) (st : st_S) (rF : Int32) (stF : st_S) (iT jT : Nat) (h : xP_isInstruction gl v0 v1 st = some (rF, stF, iT, jT)) :
    ct_ l ⟨"PromiseVats", "isInstruction", "(II)Z"⟩ (Cond.code ⟨"PromiseVats", "isInstruction", "(II)Z"⟩ prog_1_method_22_code 2 (Option.some FieldType.boolean) :: tb_) 1 20 D cl_ ac a0 (kn_ D ac a0 gl) [(.int v0), (.int v1)] st (vb_i rF) stF iT jT := by
  refine ct_of (kn_ok D ac a0 gl) (plainFor_of_name (by decide +kernel)) (by simp [rf_cat, ic_cat]) (by simp) ?_
  intro p e s m args below meth c ls X hw hKs hlk hret hnm hl
  unfold xP_isInstruction at h
  have hl : lh_ ls 2 [(0, (.int v0)), (1, (.int v1))] := hl
  obtain ⟨z0, hz0⟩ : ∃ z : Nat, 0 = z := ⟨0, rfl⟩
  obtain ⟨z1, hz1⟩ : ∃ z : Nat, 0 = z := ⟨0, rfl⟩
  refine W.cs hz0 hz1 ?_
  have hci : z0 + iT = iT := by omega
  have hcj : z1 + jT = jT := by omega
  refine lv_iload_n X.1 X.2.1 dd_xP_isInstruction_0 rfl (lv_at hl.1 0 rfl) ?_
  by_cases hc1_3 : v0 = (3 : Int32)
  · rw [if_pos hc1_3] at h
    refine lv_tableIn (tgt := 40) (off := 39) X.1 X.2.1 dd_xP_isInstruction_1 (by rw [hc1_3]; decide) (by rw [hc1_3]; decide) (by rw [hc1_3]; decide) (by decide) ?_
    exact (kb_xP_isInstruction_b40 X hKs hlk hret hnm) v1 _ _ _ _ _ _ _ _ hw (lh_pk hl [1] rfl) h hci hcj
  · by_cases hc1_4 : v0 = (4 : Int32)
    · rw [if_neg hc1_3, if_pos hc1_4] at h
      refine lv_tableIn (tgt := 40) (off := 39) X.1 X.2.1 dd_xP_isInstruction_1 (by rw [hc1_4]; decide) (by rw [hc1_4]; decide) (by rw [hc1_4]; decide) (by decide) ?_
      exact (kb_xP_isInstruction_b40 X hKs hlk hret hnm) v1 _ _ _ _ _ _ _ _ hw (lh_pk hl [1] rfl) h hci hcj
    · by_cases hc1_5 : v0 = (5 : Int32)
      · rw [if_neg hc1_3, if_neg hc1_4, if_pos hc1_5] at h
        refine lv_tableIn (tgt := 66) (off := 65) X.1 X.2.1 dd_xP_isInstruction_1 (by rw [hc1_5]; decide) (by rw [hc1_5]; decide) (by rw [hc1_5]; decide) (by decide) ?_
        exact (kb_xP_isInstruction_b66 X hKs hlk hret hnm) v0 _ _ _ _ _ _ _ _ hw (lh_pk hl [0] rfl) h hci hcj
      · by_cases hc1_6 : v0 = (6 : Int32)
        · rw [if_neg hc1_3, if_neg hc1_4, if_neg hc1_5, if_pos hc1_6] at h
          refine lv_tableIn (tgt := 45) (off := 44) X.1 X.2.1 dd_xP_isInstruction_1 (by rw [hc1_6]; decide) (by rw [hc1_6]; decide) (by rw [hc1_6]; decide) (by decide) ?_
          refine lv_iload_n X.1 X.2.1 dd_xP_isInstruction_45 rfl (lv_at hl.1 1 rfl) ?_
          obtain ⟨t1, t2, t3, t4, t5, t6, ht1, h, ei, ej⟩ := st_b_some h
          refine rr_callS (n := 1) (As := [(.int v1)]) (rest := []) X hw (kn_ok D ac a0 gl) hKs (kc_xP_isProgram l D ac a0 gl v1 _ _ _ _ _ ht1) tb_good tw_92 tw_91 tw_93 tw_94 (by decide +kernel) rfl (show 0 + 1 ≤ _ ∧ 8 + (1 + 11) + 0 ≤ _ from ⟨Nat.le_of_ble_eq_true rfl, Nat.le_of_ble_eq_true rfl⟩) (show z0 + t3 ≤ iT ∧ z1 + t4 ≤ jT from ⟨ar_1 hci ei, ar_1 hcj ej⟩) hl.1.1 (by simp [rf_cat, ic_cat]) rfl dd_xP_isInstruction_46 (sk := [(.int t1)]) rfl (fun H locs hw => ?_)
          have hci : z0 + t3 + t5 = iT := ar_2 hci ei
          have hcj : z1 + t4 + t6 = jT := ar_2 hcj ej
          clear ei ej
          generalize z0 + t3 = t7 at hci ⊢
          generalize z1 + t4 = t8 at hcj ⊢
          obtain ⟨_, hz49, h⟩ := st_g_some h
          obtain ⟨rfl, rfl, rfl, rfl⟩ := st_r_some h
          exact rr_iret X hw hlk hret (so_z_n hz49) hci hcj dd_xP_isInstruction_49
        · by_cases hc1_7 : v0 = (7 : Int32)
          · rw [if_neg hc1_3, if_neg hc1_4, if_neg hc1_5, if_neg hc1_6, if_pos hc1_7] at h
            refine lv_tableIn (tgt := 40) (off := 39) X.1 X.2.1 dd_xP_isInstruction_1 (by rw [hc1_7]; decide) (by rw [hc1_7]; decide) (by rw [hc1_7]; decide) (by decide) ?_
            exact (kb_xP_isInstruction_b40 X hKs hlk hret hnm) v1 _ _ _ _ _ _ _ _ hw (lh_pk hl [1] rfl) h hci hcj
          · by_cases hc1_8 : v0 = (8 : Int32)
            · rw [if_neg hc1_3, if_neg hc1_4, if_neg hc1_5, if_neg hc1_6, if_neg hc1_7, if_pos hc1_8] at h
              refine lv_tableIn (tgt := 50) (off := 49) X.1 X.2.1 dd_xP_isInstruction_1 (by rw [hc1_8]; decide) (by rw [hc1_8]; decide) (by rw [hc1_8]; decide) (by decide) ?_
              refine lv_iload_n X.1 X.2.1 dd_xP_isInstruction_50 rfl (lv_at hl.1 1 rfl) ?_
              by_cases hc51 : v1 < 0
              · rw [if_pos hc51] at h
                refine lv_if_lt (tgt := 64) X.1 X.2.1 dd_xP_isInstruction_51 (by decide) (fun _ => ?_) (fun z => absurd hc51 z)
                exact (kb_xP_isInstruction_b64 X hKs hlk hret hnm) () _ _ _ _ _ _ _ _ hw (lh_pk hl [] rfl) h hci hcj
              · rw [if_neg hc51] at h
                refine lv_if_lt (tgt := 64) X.1 X.2.1 dd_xP_isInstruction_51 (by decide) (fun z => absurd z hc51) (fun _ => ?_)
                refine lv_iload_n X.1 X.2.1 dd_xP_isInstruction_54 rfl (lv_at hl.1 1 rfl) ?_
                refine lv_bipush (v := (8 : Int32)) X.1 X.2.1 dd_xP_isInstruction_55 (by decide) ?_
                by_cases hc57 : (8 : Int32) ≤ v1
                · rw [if_pos hc57] at h
                  refine lv_icmp_ge (tgt := 64) X.1 X.2.1 dd_xP_isInstruction_57 (by decide) (fun _ => ?_) (fun z => absurd hc57 z)
                  exact (kb_xP_isInstruction_b64 X hKs hlk hret hnm) () _ _ _ _ _ _ _ _ hw (lh_pk hl [] rfl) h hci hcj
                · rw [if_neg hc57] at h
                  refine lv_icmp_ge (tgt := 64) X.1 X.2.1 dd_xP_isInstruction_57 (by decide) (fun z => absurd z hc57) (fun _ => ?_)
                  refine lv_iconst (v := (1 : Int32)) X.1 X.2.1 dd_xP_isInstruction_60 (by decide) ?_
                  refine lv_goto (tgt := 65) X.1 X.2.1 dd_xP_isInstruction_61 (by decide) ?_
                  obtain ⟨rfl, rfl, rfl, rfl⟩ := st_r_some h
                  exact rr_iret X hw hlk hret (by decide) hci hcj dd_xP_isInstruction_65
            · rw [if_neg hc1_3, if_neg hc1_4, if_neg hc1_5, if_neg hc1_6, if_neg hc1_7, if_neg hc1_8] at h
              have zn0 := lv_neT hc1_3 (show ((3 : Int32)).toInt = 3 by decide)
              have zn1 := lv_neT hc1_4 (show ((4 : Int32)).toInt = 4 by decide)
              have zn2 := lv_neT hc1_5 (show ((5 : Int32)).toInt = 5 by decide)
              have zn3 := lv_neT hc1_6 (show ((6 : Int32)).toInt = 6 by decide)
              have zn4 := lv_neT hc1_7 (show ((7 : Int32)).toInt = 7 by decide)
              have zn5 := lv_neT hc1_8 (show ((8 : Int32)).toInt = 8 by decide)
              refine lv_tableOut (tgt := 66) X.1 X.2.1 dd_xP_isInstruction_1 (by omega) (by decide) ?_
              exact (kb_xP_isInstruction_b66 X hKs hlk hret hnm) v0 _ _ _ _ _ _ _ _ hw (lh_pk hl [0] rfl) h hci hcj
/-! PromiseVats.code(III)Z -/
theorem dd_xP_code_0 : decode prog_1_method_2_code 0 = .ok (.iload_n 1, 1) := by decide +kernel
theorem dd_xP_code_1 : decode prog_1_method_2_code 1 = .ok (.invokestatic 65, 3) := by decide +kernel
theorem dd_xP_code_4 : decode prog_1_method_2_code 4 = .ok (.ifCond .eq 11, 3) := by decide +kernel
theorem dd_xP_code_7 : decode prog_1_method_2_code 7 = .ok (.iload_n 2, 1) := by decide +kernel
theorem dd_xP_code_8 : decode prog_1_method_2_code 8 = .ok (.iload_n 3, 1) := by decide +kernel
theorem dd_xP_code_9 : decode prog_1_method_2_code 9 = .ok (.invokestatic 69, 3) := by decide +kernel
theorem dd_xP_code_12 : decode prog_1_method_2_code 12 = .ok (.ifCond .ne 5, 3) := by decide +kernel
theorem dd_xP_code_15 : decode prog_1_method_2_code 15 = .ok (.iconst 0, 1) := by decide +kernel
theorem dd_xP_code_16 : decode prog_1_method_2_code 16 = .ok (.ireturn, 1) := by decide +kernel
theorem dd_xP_code_17 : decode prog_1_method_2_code 17 = .ok (.aload_n 0, 1) := by decide +kernel
theorem dd_xP_code_18 : decode prog_1_method_2_code 18 = .ok (.getfield 26, 3) := by decide +kernel
theorem dd_xP_code_21 : decode prog_1_method_2_code 21 = .ok (.iload_n 1, 1) := by decide +kernel
theorem dd_xP_code_22 : decode prog_1_method_2_code 22 = .ok (.aaload, 1) := by decide +kernel
theorem dd_xP_code_23 : decode prog_1_method_2_code 23 = .ok (.astore 4, 2) := by decide +kernel
theorem dd_xP_code_25 : decode prog_1_method_2_code 25 = .ok (.aload 4, 2) := by decide +kernel
theorem dd_xP_code_27 : decode prog_1_method_2_code 27 = .ok (.getfield 73, 3) := by decide +kernel
theorem dd_xP_code_30 : decode prog_1_method_2_code 30 = .ok (.bipush 8, 2) := by decide +kernel
theorem dd_xP_code_32 : decode prog_1_method_2_code 32 = .ok (.if_icmp .lt 5, 3) := by decide +kernel
theorem dd_xP_code_35 : decode prog_1_method_2_code 35 = .ok (.iconst 0, 1) := by decide +kernel
theorem dd_xP_code_36 : decode prog_1_method_2_code 36 = .ok (.ireturn, 1) := by decide +kernel
theorem dd_xP_code_37 : decode prog_1_method_2_code 37 = .ok (.aload 4, 2) := by decide +kernel
theorem dd_xP_code_39 : decode prog_1_method_2_code 39 = .ok (.getfield 76, 3) := by decide +kernel
theorem dd_xP_code_42 : decode prog_1_method_2_code 42 = .ok (.aload 4, 2) := by decide +kernel
theorem dd_xP_code_44 : decode prog_1_method_2_code 44 = .ok (.getfield 73, 3) := by decide +kernel
theorem dd_xP_code_47 : decode prog_1_method_2_code 47 = .ok (.iload_n 2, 1) := by decide +kernel
theorem dd_xP_code_48 : decode prog_1_method_2_code 48 = .ok (.iastore, 1) := by decide +kernel
theorem dd_xP_code_49 : decode prog_1_method_2_code 49 = .ok (.aload 4, 2) := by decide +kernel
theorem dd_xP_code_51 : decode prog_1_method_2_code 51 = .ok (.getfield 80, 3) := by decide +kernel
theorem dd_xP_code_54 : decode prog_1_method_2_code 54 = .ok (.aload 4, 2) := by decide +kernel
theorem dd_xP_code_56 : decode prog_1_method_2_code 56 = .ok (.getfield 73, 3) := by decide +kernel
theorem dd_xP_code_59 : decode prog_1_method_2_code 59 = .ok (.iload_n 3, 1) := by decide +kernel
theorem dd_xP_code_60 : decode prog_1_method_2_code 60 = .ok (.iastore, 1) := by decide +kernel
theorem dd_xP_code_61 : decode prog_1_method_2_code 61 = .ok (.aload 4, 2) := by decide +kernel
theorem dd_xP_code_63 : decode prog_1_method_2_code 63 = .ok (.dup, 1) := by decide +kernel
theorem dd_xP_code_64 : decode prog_1_method_2_code 64 = .ok (.getfield 73, 3) := by decide +kernel
theorem dd_xP_code_67 : decode prog_1_method_2_code 67 = .ok (.iconst 1, 1) := by decide +kernel
theorem dd_xP_code_68 : decode prog_1_method_2_code 68 = .ok (.iadd, 1) := by decide +kernel
theorem dd_xP_code_69 : decode prog_1_method_2_code 69 = .ok (.putfield 73, 3) := by decide +kernel
theorem dd_xP_code_72 : decode prog_1_method_2_code 72 = .ok (.iconst 1, 1) := by decide +kernel
theorem dd_xP_code_73 : decode prog_1_method_2_code 73 = .ok (.ireturn, 1) := by decide +kernel
set_option maxHeartbeats 4000000 in
set_option maxRecDepth 100000 in
theorem kb_xP_code_b15 {p : Program} {l : Launch} {e : Env} {s : State} {m : MethodId} {args : Array Value} {below : List Frame} {meth : Method} {c : Code} {D : va_G} {ac : Nat → ClassId} {a0 : Nat} {gl : gl_T} {rF : Int32} {stF : st_S} {iT jT : Nat}
    (X : cx_ p s m args c prog_1_method_2_code 5 "PromiseVats" tb_ D cl_ (ty_ ac)) (hKs : kn_ D ac a0 gl s) (hlk : meth.locks = false) (hret : meth.sig.returnType = (Option.some FieldType.boolean)) (hnm : meth.name = "code") : wk_ p l e 2 41 s m args below meth c D cl_ ac a0 5 vb_i rF stF iT jT 15 (fun x : Unit => []) (fun x : Unit => []) (fun _ : Unit => xP_code_b15 gl) := by
  intro x st H locs cells slots i j ls hw hl h hci hcj
  have h : xP_code_b15 gl  st = some (rF, stF, i, j) := h
  unfold xP_code_b15 at h
  have hl : lh_ ls 5 [] := hl
  refine W.eq (g2 := F0 m 15 ls []) rfl ?_
  refine lv_iconst (v := (0 : Int32)) X.1 X.2.1 dd_xP_code_15 (by decide) ?_
  obtain ⟨rfl, rfl, rfl, rfl⟩ := st_r_some h
  exact rr_iret X hw hlk hret (by decide) hci hcj dd_xP_code_16
set_option maxHeartbeats 4000000 in
set_option maxRecDepth 100000 in
theorem kc_xP_code (l : Launch) (D : va_G) (ac : Nat → ClassId) (a0 : Nat) (gl : gl_T) (v0 : Option Nat) (v1 : Int32) (v2 : Int32) (v3 : Int32) (st : st_S) (rF : Int32) (stF : st_S) (iT jT : Nat) (h : xP_code gl v0 v1 v2 v3 st = some (rF, stF, iT, jT)) :
    ct_ l ⟨"PromiseVats", "code", "(III)Z"⟩ (Cond.code ⟨"PromiseVats", "code", "(III)Z"⟩ prog_1_method_2_code 5 (Option.some FieldType.boolean) :: tb_) 2 41 D cl_ ac a0 (kn_ D ac a0 gl) [(va_rf v0), (.int v1), (.int v2), (.int v3)] st (vb_i rF) stF iT jT := by
  refine ct_of (kn_ok D ac a0 gl) (plainFor_of_name (by decide +kernel)) (by simp [rf_cat, ic_cat]) (by simp) ?_
  intro p e s m args below meth c ls X hw hKs hlk hret hnm hl
  unfold xP_code at h
  have hl : lh_ ls 5 [(0, (va_rf v0)), (1, (.int v1)), (2, (.int v2)), (3, (.int v3))] := hl
  obtain ⟨z0, hz0⟩ : ∃ z : Nat, 0 = z := ⟨0, rfl⟩
  obtain ⟨z1, hz1⟩ : ∃ z : Nat, 0 = z := ⟨0, rfl⟩
  refine W.cs hz0 hz1 ?_
  have hci : z0 + iT = iT := by omega
  have hcj : z1 + jT = jT := by omega
  refine lv_iload_n X.1 X.2.1 dd_xP_code_0 rfl (lv_at hl.1 1 rfl) ?_
  obtain ⟨t1, t2, t3, t4, t5, t6, ht1, h, ei, ej⟩ := st_b_some h
  refine rr_callS (n := 1) (As := [(.int v1)]) (rest := []) X hw (kn_ok D ac a0 gl) hKs (kc_xP_isProgram l D ac a0 gl v1 _ _ _ _ _ ht1) tb_good tw_92 tw_91 tw_93 tw_94 (by decide +kernel) rfl (show 0 + 1 ≤ _ ∧ 8 + (1 + 11) + 0 ≤ _ from ⟨Nat.le_of_ble_eq_true rfl, Nat.le_of_ble_eq_true rfl⟩) (show z0 + t3 ≤ iT ∧ z1 + t4 ≤ jT from ⟨ar_1 hci ei, ar_1 hcj ej⟩) hl.1.1 (by simp [rf_cat, ic_cat]) rfl dd_xP_code_1 (sk := [(.int t1)]) rfl (fun H locs hw => ?_)
  have hci : z0 + t3 + t5 = iT := ar_2 hci ei
  have hcj : z1 + t4 + t6 = jT := ar_2 hcj ej
  clear ei ej
  generalize z0 + t3 = t7 at hci ⊢
  generalize z1 + t4 = t8 at hcj ⊢
  by_cases hc4 : t1 = 0
  · rw [if_pos hc4] at h
    refine lv_if_eq (tgt := 15) X.1 X.2.1 dd_xP_code_4 (by decide) (fun _ => ?_) (fun z => absurd hc4 z)
    exact (kb_xP_code_b15 X hKs hlk hret hnm) () _ _ _ _ _ _ _ _ hw (lh_pk hl [] rfl) h hci hcj
  · rw [if_neg hc4] at h
    refine lv_if_eq (tgt := 15) X.1 X.2.1 dd_xP_code_4 (by decide) (fun z => absurd z hc4) (fun _ => ?_)
    refine lv_iload_n X.1 X.2.1 dd_xP_code_7 rfl (lv_at hl.1 2 rfl) ?_
    refine lv_iload_n X.1 X.2.1 dd_xP_code_8 rfl (lv_at hl.1 3 rfl) ?_
    obtain ⟨t9, t10, t11, t12, t13, t14, ht9, h, ei, ej⟩ := st_b_some h
    refine rr_callS (n := 2) (As := [(.int v2), (.int v3)]) (rest := []) X hw (kn_ok D ac a0 gl) hKs (kc_xP_isInstruction l D ac a0 gl v2 v3 _ _ _ _ _ ht9) tb_good tw_101 tw_91 tw_102 tw_103 (by decide +kernel) rfl (show 1 + 1 ≤ _ ∧ 8 + (2 + 11) + 20 ≤ _ from ⟨Nat.le_of_ble_eq_true rfl, Nat.le_of_ble_eq_true rfl⟩) (show t7 + t11 ≤ iT ∧ t8 + t12 ≤ jT from ⟨ar_1 hci ei, ar_1 hcj ej⟩) hl.1.1 (by simp [rf_cat, ic_cat]) rfl dd_xP_code_9 (sk := [(.int t9)]) rfl (fun H locs hw => ?_)
    have hci : t7 + t11 + t13 = iT := ar_2 hci ei
    have hcj : t8 + t12 + t14 = jT := ar_2 hcj ej
    clear ei ej
    generalize t7 + t11 = t15 at hci ⊢
    generalize t8 + t12 = t16 at hcj ⊢
    by_cases hc12 : t9 = 0
    · rw [if_pos hc12] at h
      refine lv_if_ne (tgt := 17) X.1 X.2.1 dd_xP_code_12 (by decide) (fun z => absurd hc12 z) (fun _ => ?_)
      exact (kb_xP_code_b15 X hKs hlk hret hnm) () _ _ _ _ _ _ _ _ hw (lh_pk hl [] rfl) h hci hcj
    · rw [if_neg hc12] at h
      refine lv_if_ne (tgt := 17) X.1 X.2.1 dd_xP_code_12 (by decide) (fun _ => ?_) (fun z => absurd z hc12)
      refine rr_aldn X dd_xP_code_17 rfl (lv_at hl.1 0 rfl) ?_
      obtain ⟨t17, ht17, h⟩ := st_g_some h
      refine rr_getq X hw ff_0_1 ht17 tw_65 (Or.inl rfl) dd_xP_code_18 ?_
      refine lv_iload_n X.1 X.2.1 dd_xP_code_21 rfl (lv_at hl.1 1 rfl) ?_
      obtain ⟨t18, ht18, h⟩ := st_g_some h
      refine rr_aald X hw (tq_5 ac) ht18 dd_xP_code_22 ?_
      refine rr_ast (lv' := [(4, (va_rf t18)), (0, (va_rf v0)), (1, (.int v1)), (2, (.int v2)), (3, (.int v3))]) X dd_xP_code_23 hl (by decide) rfl (fun ls hl => ?_)
      refine rr_ald X dd_xP_code_25 (lv_at hl.1 0 rfl) ?_
      obtain ⟨t19, ht19, h⟩ := st_g_some h
      refine rr_geti X hw ff_2_2 ht19 tw_98 (Or.inl rfl) dd_xP_code_27 ?_
      refine lv_bipush (v := (8 : Int32)) X.1 X.2.1 dd_xP_code_30 (by decide) ?_
      by_cases hc32 : t19 < (8 : Int32)
      · rw [if_pos hc32] at h
        refine lv_icmp_lt (tgt := 37) X.1 X.2.1 dd_xP_code_32 (by decide) (fun _ => ?_) (fun z => absurd hc32 z)
        refine rr_ald X dd_xP_code_37 (lv_at hl.1 0 rfl) ?_
        obtain ⟨t20, ht20, h⟩ := st_g_some h
        refine rr_getq X hw ff_2_0 ht20 tw_100 (Or.inl rfl) dd_xP_code_39 ?_
        refine rr_ald X dd_xP_code_42 (lv_at hl.1 0 rfl) ?_
        obtain ⟨t21, ht21, h⟩ := st_g_some h
        refine rr_geti X hw ff_2_2 ht21 tw_98 (Or.inl rfl) dd_xP_code_44 ?_
        refine lv_iload_n X.1 X.2.1 dd_xP_code_47 rfl (lv_at hl.1 3 rfl) ?_
        obtain ⟨t22, hp48, h⟩ := st_w_some h
        refine rr_iast (t := 0) X hw rfl hp48 dd_xP_code_48 (fun H locs hw => ?_)
        refine rr_ald X dd_xP_code_49 (lv_at hl.1 0 rfl) ?_
        obtain ⟨t23, ht23, h⟩ := st_g_some h
        refine rr_getq X hw ff_2_1 ht23 tw_99 (Or.inl rfl) dd_xP_code_51 ?_
        refine rr_ald X dd_xP_code_54 (lv_at hl.1 0 rfl) ?_
        obtain ⟨t24, ht24, h⟩ := st_g_some h
        refine rr_geti X hw ff_2_2 ht24 tw_98 (Or.inl rfl) dd_xP_code_56 ?_
        refine lv_iload_n X.1 X.2.1 dd_xP_code_59 rfl (lv_at hl.1 4 rfl) ?_
        obtain ⟨t25, hp60, h⟩ := st_w_some h
        refine rr_iast (t := 0) X hw rfl hp60 dd_xP_code_60 (fun H locs hw => ?_)
        refine rr_ald X dd_xP_code_61 (lv_at hl.1 0 rfl) ?_
        refine lv_dup X.1 X.2.1 dd_xP_code_63 (rf_cat _) ?_
        obtain ⟨t26, ht26, h⟩ := st_g_some h
        refine rr_geti X hw ff_2_2 ht26 tw_98 (Or.inl rfl) dd_xP_code_64 ?_
        refine lv_iconst (v := (1 : Int32)) X.1 X.2.1 dd_xP_code_67 (by decide) ?_
        refine lv_iadd X.1 X.2.1 dd_xP_code_68 ?_
        obtain ⟨t27, hp69, h⟩ := st_w_some h
        refine rr_put (ty := .int) X hw ff_2_2 hp69 tw_98 (Or.inl rfl) (by decide +kernel) rfl rfl dd_xP_code_69 (fun H locs hw => ?_)
        refine lv_iconst (v := (1 : Int32)) X.1 X.2.1 dd_xP_code_72 (by decide) ?_
        obtain ⟨rfl, rfl, rfl, rfl⟩ := st_r_some h
        exact rr_iret X hw hlk hret (by decide) hci hcj dd_xP_code_73
      · rw [if_neg hc32] at h
        refine lv_icmp_lt (tgt := 37) X.1 X.2.1 dd_xP_code_32 (by decide) (fun z => absurd z hc32) (fun _ => ?_)
        refine lv_iconst (v := (0 : Int32)) X.1 X.2.1 dd_xP_code_35 (by decide) ?_
        obtain ⟨rfl, rfl, rfl, rfl⟩ := st_r_some h
        exact rr_iret X hw hlk hret (by decide) hci hcj dd_xP_code_36
/-! PromiseVats.clear(I)Z -/
theorem dd_xP_clear_0 : decode prog_1_method_3_code 0 = .ok (.iload_n 1, 1) := by decide +kernel
theorem dd_xP_clear_1 : decode prog_1_method_3_code 1 = .ok (.invokestatic 65, 3) := by decide +kernel
theorem dd_xP_clear_4 : decode prog_1_method_3_code 4 = .ok (.ifCond .ne 5, 3) := by decide +kernel
theorem dd_xP_clear_7 : decode prog_1_method_3_code 7 = .ok (.iconst 0, 1) := by decide +kernel
theorem dd_xP_clear_8 : decode prog_1_method_3_code 8 = .ok (.ireturn, 1) := by decide +kernel
theorem dd_xP_clear_9 : decode prog_1_method_3_code 9 = .ok (.aload_n 0, 1) := by decide +kernel
theorem dd_xP_clear_10 : decode prog_1_method_3_code 10 = .ok (.getfield 26, 3) := by decide +kernel
theorem dd_xP_clear_13 : decode prog_1_method_3_code 13 = .ok (.iload_n 1, 1) := by decide +kernel
theorem dd_xP_clear_14 : decode prog_1_method_3_code 14 = .ok (.aaload, 1) := by decide +kernel
theorem dd_xP_clear_15 : decode prog_1_method_3_code 15 = .ok (.iconst 0, 1) := by decide +kernel
theorem dd_xP_clear_16 : decode prog_1_method_3_code 16 = .ok (.putfield 73, 3) := by decide +kernel
theorem dd_xP_clear_19 : decode prog_1_method_3_code 19 = .ok (.iconst 1, 1) := by decide +kernel
theorem dd_xP_clear_20 : decode prog_1_method_3_code 20 = .ok (.ireturn, 1) := by decide +kernel
set_option maxHeartbeats 4000000 in
set_option maxRecDepth 100000 in
theorem kc_xP_clear (l : Launch) (D : va_G) (ac : Nat → ClassId) (a0 : Nat) (gl : gl_T) (v0 : Option Nat) (v1 : Int32) (st : st_S) (rF : Int32) (stF : st_S) (iT jT : Nat) (h : xP_clear gl v0 v1 st = some (rF, stF, iT, jT)) :
    ct_ l ⟨"PromiseVats", "clea\x72", "(I)Z"⟩ (Cond.code ⟨"PromiseVats", "clea\x72", "(I)Z"⟩ prog_1_method_3_code 2 (Option.some FieldType.boolean) :: tb_) 1 20 D cl_ ac a0 (kn_ D ac a0 gl) [(va_rf v0), (.int v1)] st (vb_i rF) stF iT jT := by
  refine ct_of (kn_ok D ac a0 gl) (plainFor_of_name (by decide +kernel)) (by simp [rf_cat, ic_cat]) (by simp) ?_
  intro p e s m args below meth c ls X hw hKs hlk hret hnm hl
  unfold xP_clear at h
  have hl : lh_ ls 2 [(0, (va_rf v0)), (1, (.int v1))] := hl
  obtain ⟨z0, hz0⟩ : ∃ z : Nat, 0 = z := ⟨0, rfl⟩
  obtain ⟨z1, hz1⟩ : ∃ z : Nat, 0 = z := ⟨0, rfl⟩
  refine W.cs hz0 hz1 ?_
  have hci : z0 + iT = iT := by omega
  have hcj : z1 + jT = jT := by omega
  refine lv_iload_n X.1 X.2.1 dd_xP_clear_0 rfl (lv_at hl.1 1 rfl) ?_
  obtain ⟨t1, t2, t3, t4, t5, t6, ht1, h, ei, ej⟩ := st_b_some h
  refine rr_callS (n := 1) (As := [(.int v1)]) (rest := []) X hw (kn_ok D ac a0 gl) hKs (kc_xP_isProgram l D ac a0 gl v1 _ _ _ _ _ ht1) tb_good tw_92 tw_91 tw_93 tw_94 (by decide +kernel) rfl (show 0 + 1 ≤ _ ∧ 8 + (1 + 11) + 0 ≤ _ from ⟨Nat.le_of_ble_eq_true rfl, Nat.le_of_ble_eq_true rfl⟩) (show z0 + t3 ≤ iT ∧ z1 + t4 ≤ jT from ⟨ar_1 hci ei, ar_1 hcj ej⟩) hl.1.1 (by simp [rf_cat, ic_cat]) rfl dd_xP_clear_1 (sk := [(.int t1)]) rfl (fun H locs hw => ?_)
  have hci : z0 + t3 + t5 = iT := ar_2 hci ei
  have hcj : z1 + t4 + t6 = jT := ar_2 hcj ej
  clear ei ej
  generalize z0 + t3 = t7 at hci ⊢
  generalize z1 + t4 = t8 at hcj ⊢
  by_cases hc4 : t1 = 0
  · rw [if_pos hc4] at h
    refine lv_if_ne (tgt := 9) X.1 X.2.1 dd_xP_clear_4 (by decide) (fun z => absurd hc4 z) (fun _ => ?_)
    refine lv_iconst (v := (0 : Int32)) X.1 X.2.1 dd_xP_clear_7 (by decide) ?_
    obtain ⟨rfl, rfl, rfl, rfl⟩ := st_r_some h
    exact rr_iret X hw hlk hret (by decide) hci hcj dd_xP_clear_8
  · rw [if_neg hc4] at h
    refine lv_if_ne (tgt := 9) X.1 X.2.1 dd_xP_clear_4 (by decide) (fun _ => ?_) (fun z => absurd z hc4)
    refine rr_aldn X dd_xP_clear_9 rfl (lv_at hl.1 0 rfl) ?_
    obtain ⟨t9, ht9, h⟩ := st_g_some h
    refine rr_getq X hw ff_0_1 ht9 tw_65 (Or.inl rfl) dd_xP_clear_10 ?_
    refine lv_iload_n X.1 X.2.1 dd_xP_clear_13 rfl (lv_at hl.1 1 rfl) ?_
    obtain ⟨t10, ht10, h⟩ := st_g_some h
    refine rr_aald X hw (tq_5 ac) ht10 dd_xP_clear_14 ?_
    refine lv_iconst (v := (0 : Int32)) X.1 X.2.1 dd_xP_clear_15 (by decide) ?_
    obtain ⟨t11, hp16, h⟩ := st_w_some h
    refine rr_put (ty := .int) X hw ff_2_2 hp16 tw_98 (Or.inl rfl) (by decide +kernel) rfl rfl dd_xP_clear_16 (fun H locs hw => ?_)
    refine lv_iconst (v := (1 : Int32)) X.1 X.2.1 dd_xP_clear_19 (by decide) ?_
    obtain ⟨rfl, rfl, rfl, rfl⟩ := st_r_some h
    exact rr_iret X hw hlk hret (by decide) hci hcj dd_xP_clear_20
