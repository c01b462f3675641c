set_option maxHeartbeats 8000000 in
set_option maxRecDepth 100000 in
theorem kb_lx_law_b635 {p : Program} {l : Launch} {e : Env} {s : State} {m : MethodId} {below : List Frame} {meth : Method} {c : Code} {D : va_G} {ac : Nat → ClassId} {a0 : Nat} {gl : gl_T} {stF : st_S} {iT jT : Nat} {rec28 : Option Nat × Option Nat × Option Nat × Int32 → st_M (Int32)}
    (X : cx_ p s m #[Value.ref gl.2.2.1] c code 4 "PromiseVatsLaw" tb_ D cl_ (ty_ ac)) (hKs : kn_ D ac a0 gl s) (hlk : meth.locks = false) (hret : meth.sig.returnType = ret) (hA0 : s.heap.size = a0) (hTi : iT ≤ 600000) (hTj : jT ≤ 7302250) (hr28 : wl_ p l e s m below meth c D ac a0 gl stF iT jT 28 (fun x : Option Nat × Option Nat × Option Nat × Int32 => [(0, (va_rf x.1)), (1, (va_rf x.2.1)), (2, (va_rf x.2.2.1)), (3, (.int x.2.2.2))]) (fun x : Option Nat × Option Nat × Option Nat × Int32 => []) rec28) : wl_ p l e s m below meth c D ac a0 gl stF iT jT 635 (fun x : Option Nat × Option Nat × Option Nat × Int32 => [(0, (va_rf x.1)), (1, (va_rf x.2.1)), (2, (va_rf x.2.2.1)), (3, (.int x.2.2.2))]) (fun x : Option Nat × Option Nat × Option Nat × Int32 => []) (fun x : Option Nat × Option Nat × Option Nat × Int32 => lx_law_b635 gl rec28 x.1 x.2.1 x.2.2.1 x.2.2.2) := by
  intro x st H locs cells slots i j ls hw hl h hci hcj
  obtain ⟨p0, p1, p2, p3⟩ := x
  have h : lx_law_b635 gl rec28 p0 p1 p2 p3 st = some (1, stF, i, j) := h
  unfold lx_law_b635 at h
  have hl : lh_ ls 4 [(0, (va_rf p0)), (1, (va_rf p1)), (2, (va_rf p2)), (3, (.int p3))] := hl
  refine W.eq (g2 := F0 m 635 ls []) rfl ?_
  refine rr_iinc (k := 3) (v := (p3 + (4 : Int32))) (lv' := [(3, (.int (p3 + (4 : Int32)))), (0, (va_rf p0)), (1, (va_rf p1)), (2, (va_rf p2))]) X dd_lx_law_635 hl rfl (by rw [show Int32.ofInt (4) = (4 : Int32) from by decide]) (by decide) rfl (fun ls hl => ?_)
  refine lv_goto (tgt := 28) X.1 X.2.1 dd_lx_law_638 (by decide) ?_
  exact hr28 (p0, p1, p2, (p3 + (4 : Int32))) _ _ _ _ _ _ _ _ hw (lh_pk hl [1, 2, 3, 0] rfl) h hci hcj
set_option maxHeartbeats 8000000 in
set_option maxRecDepth 100000 in
theorem kb_lx_law_b28 {p : Program} {l : Launch} {e : Env} {s : State} {m : MethodId} {below : List Frame} {meth : Method} {c : Code} {D : va_G} {ac : Nat → ClassId} {a0 : Nat} {gl : gl_T} {stF : st_S} {iT jT : Nat}
    (X : cx_ p s m #[Value.ref gl.2.2.1] c code 4 "PromiseVatsLaw" tb_ D cl_ (ty_ ac)) (hKs : kn_ D ac a0 gl s) (hlk : meth.locks = false) (hret : meth.sig.returnType = ret) (hA0 : s.heap.size = a0) (hTi : iT ≤ 600000) (hTj : jT ≤ 7302250) : wl_ p l e s m below meth c D ac a0 gl stF iT jT 28 (fun x : Option Nat × Option Nat × Option Nat × Int32 => [(0, (va_rf x.1)), (1, (va_rf x.2.1)), (2, (va_rf x.2.2.1)), (3, (.int x.2.2.2))]) (fun x : Option Nat × Option Nat × Option Nat × Int32 => []) (st_it (fun rec28 => (fun x : Option Nat × Option Nat × Option Nat × Int32 => lx_law_b28 gl rec28 x.1 x.2.1 x.2.2.1 x.2.2.2)) fu_) := by
  refine wl_it ?_ _
  intro rec28 hr28 x st H locs cells slots i j ls hw hl h hci hcj
  obtain ⟨p0, p1, p2, p3⟩ := x
  have h : lx_law_b28 gl rec28 p0 p1 p2 p3 st = some (1, stF, i, j) := h
  unfold lx_law_b28 at h
  have hl : lh_ ls 4 [(0, (va_rf p0)), (1, (va_rf p1)), (2, (va_rf p2)), (3, (.int p3))] := hl
  refine W.eq (g2 := F0 m 28 ls []) rfl ?_
  refine lv_iload_n X.1 X.2.1 dd_lx_law_28 rfl (lv_at hl.1 3 rfl) ?_
  refine rr_aldn X dd_lx_law_29 rfl (lv_at hl.1 0 rfl) ?_
  obtain ⟨t45, ht45, h⟩ := st_g_some h
  refine rr_xln X hKs hw ht45 dd_lx_law_30 ?_
  refine lv_iconst (v := (4 : Int32)) X.1 X.2.1 dd_lx_law_31 (by decide) ?_
  refine lv_isub X.1 X.2.1 dd_lx_law_32 ?_
  by_cases hc33 : (t45 - (4 : Int32)) < p3
  · rw [if_pos hc33] at h
    refine lv_icmp_gt (tgt := 641) X.1 X.2.1 dd_lx_law_33 (by decide) (fun _ => ?_) (fun z => absurd hc33 z)
    refine lv_iconst (v := (1 : Int32)) X.1 X.2.1 dd_lx_law_641 (by decide) ?_
    obtain ⟨-, rfl, rfl, rfl⟩ := st_r_some h
    exact le_end X hw hA0 hlk hret hTi hTj hci hcj dd_lx_law_642
  · rw [if_neg hc33] at h
    refine lv_icmp_gt (tgt := 641) X.1 X.2.1 dd_lx_law_33 (by decide) (fun z => absurd z hc33) (fun _ => ?_)
    refine rr_aldn X dd_lx_law_36 rfl (lv_at hl.1 0 rfl) ?_
    refine lv_iload_n X.1 X.2.1 dd_lx_law_37 rfl (lv_at hl.1 3 rfl) ?_
    obtain ⟨t46, ht46, h⟩ := st_g_some h
    refine rr_xld X hKs hw ht46 dd_lx_law_38 ?_
    refine lv_bipush (v := (31 : Int32)) X.1 X.2.1 dd_lx_law_39 (by decide) ?_
    refine lv_iand X.1 X.2.1 dd_lx_law_41 ?_
    by_cases hc42_0 : (t46 &&& (31 : Int32)) = (0 : Int32)
    · rw [if_pos hc42_0] at h
      refine lv_tableIn (tgt := 124) (off := 82) X.1 X.2.1 dd_lx_law_42 (by rw [hc42_0]; decide) (by rw [hc42_0]; decide) (by rw [hc42_0]; decide) (by decide) ?_
      refine rr_aldn X dd_lx_law_124 rfl (lv_at hl.1 1 rfl) ?_
      refine rr_aldn X dd_lx_law_125 rfl (lv_at hl.1 0 rfl) ?_
      refine lv_iload_n X.1 X.2.1 dd_lx_law_126 rfl (lv_at hl.1 3 rfl) ?_
      refine lv_iconst (v := (1 : Int32)) X.1 X.2.1 dd_lx_law_127 (by decide) ?_
      refine lv_iadd X.1 X.2.1 dd_lx_law_128 ?_
      obtain ⟨t47, ht47, h⟩ := st_g_some h
      refine rr_xld X hKs hw ht47 dd_lx_law_129 ?_
      refine rr_aldn X dd_lx_law_130 rfl (lv_at hl.1 0 rfl) ?_
      refine lv_iload_n X.1 X.2.1 dd_lx_law_131 rfl (lv_at hl.1 3 rfl) ?_
      refine lv_iconst (v := (2 : Int32)) X.1 X.2.1 dd_lx_law_132 (by decide) ?_
      refine lv_iadd X.1 X.2.1 dd_lx_law_133 ?_
      obtain ⟨t48, ht48, h⟩ := st_g_some h
      refine rr_xld X hKs hw ht48 dd_lx_law_134 ?_
      refine rr_aldn X dd_lx_law_135 rfl (lv_at hl.1 0 rfl) ?_
      refine lv_iload_n X.1 X.2.1 dd_lx_law_136 rfl (lv_at hl.1 3 rfl) ?_
      refine lv_iconst (v := (3 : Int32)) X.1 X.2.1 dd_lx_law_137 (by decide) ?_
      refine lv_iadd X.1 X.2.1 dd_lx_law_138 ?_
      obtain ⟨t49, ht49, h⟩ := st_g_some h
      refine rr_xld X hKs hw ht49 dd_lx_law_139 ?_
      obtain ⟨t70, ht70, h⟩ := st_g_some h
      obtain ⟨t50, t51, t52, t53, t54, t55, ht50, h, ei, ej⟩ := st_b_some h
      refine rr_callV (n := 3) (As := [(.int t47), (.int t48), (.int t49)]) (rest := []) X hw (kn_ok D ac a0 gl) hKs (kc_xP_code l D ac a0 gl p1 t47 t48 t49 _ _ _ _ _ ht50) tb_good tw_594 tw_91 tw_595 tw_596 se_69 ht70 (by decide +kernel) rfl (show 2 + 1 ≤ _ ∧ 8 + (5 + 11) + 41 ≤ _ from ⟨Nat.le_of_ble_eq_true rfl, Nat.le_of_ble_eq_true rfl⟩) ⟨Nat.le_trans (ar_1 hci ei) hTi, Nat.le_trans (ar_1 hcj ej) hTj⟩ hl.1.1 (by simp [rf_cat, ic_cat]) rfl dd_lx_law_140 (sk := [(.int t50)]) rfl (fun H locs hw => ?_)
      have hci : cells + t52 + t54 = iT := ar_2 hci ei
      have hcj : slots + t53 + t55 = jT := ar_2 hcj ej
      clear ei ej
      generalize cells + t52 = t56 at hci ⊢
      generalize slots + t53 = t57 at hcj ⊢
      refine rr_aldn X dd_lx_law_143 rfl (lv_at hl.1 2 rfl) ?_
      refine rr_aldn X dd_lx_law_144 rfl (lv_at hl.1 0 rfl) ?_
      refine lv_iload_n X.1 X.2.1 dd_lx_law_145 rfl (lv_at hl.1 3 rfl) ?_
      refine lv_iconst (v := (1 : Int32)) X.1 X.2.1 dd_lx_law_146 (by decide) ?_
      refine lv_iadd X.1 X.2.1 dd_lx_law_147 ?_
      obtain ⟨t58, ht58, h⟩ := st_g_some h
      refine rr_xld X hKs hw ht58 dd_lx_law_148 ?_
      refine rr_aldn X dd_lx_law_149 rfl (lv_at hl.1 0 rfl) ?_
      refine lv_iload_n X.1 X.2.1 dd_lx_law_150 rfl (lv_at hl.1 3 rfl) ?_
      refine lv_iconst (v := (2 : Int32)) X.1 X.2.1 dd_lx_law_151 (by decide) ?_
      refine lv_iadd X.1 X.2.1 dd_lx_law_152 ?_
      obtain ⟨t59, ht59, h⟩ := st_g_some h
      refine rr_xld X hKs hw ht59 dd_lx_law_153 ?_
      refine rr_aldn X dd_lx_law_154 rfl (lv_at hl.1 0 rfl) ?_
      refine lv_iload_n X.1 X.2.1 dd_lx_law_155 rfl (lv_at hl.1 3 rfl) ?_
      refine lv_iconst (v := (3 : Int32)) X.1 X.2.1 dd_lx_law_156 (by decide) ?_
      refine lv_iadd X.1 X.2.1 dd_lx_law_157 ?_
      obtain ⟨t60, ht60, h⟩ := st_g_some h
      refine rr_xld X hKs hw ht60 dd_lx_law_158 ?_
      obtain ⟨t69, ht69, h⟩ := st_g_some h
      obtain ⟨t61, t62, t63, t64, t65, t66, ht61, h, ei, ej⟩ := st_b_some h
      refine rr_callV (n := 3) (As := [(.int t58), (.int t59), (.int t60)]) (rest := [(.int t50)]) X hw (kn_ok D ac a0 gl) hKs (kc_mm_code l D ac a0 gl p2 t58 t59 t60 _ _ _ _ _ ht61) tb_good tw_590 tw_469 tw_591 tw_592 se_68 ht69 (by decide +kernel) rfl (show 0 + 1 ≤ _ ∧ 8 + (6 + 11) + 0 ≤ _ from ⟨Nat.le_of_ble_eq_true rfl, Nat.le_of_ble_eq_true rfl⟩) ⟨Nat.le_trans (ar_1 hci ei) hTi, Nat.le_trans (ar_1 hcj ej) hTj⟩ hl.1.1 (by simp [rf_cat, ic_cat]) rfl dd_lx_law_159 (sk := [(.int t61), (.int t50)]) rfl (fun H locs hw => ?_)
      have hci : t56 + t63 + t65 = iT := ar_2 hci ei
      have hcj : t57 + t64 + t66 = jT := ar_2 hcj ej
      clear ei ej
      generalize t56 + t63 = t67 at hci ⊢
      generalize t57 + t64 = t68 at hcj ⊢
      by_cases hc162 : t50 = t61
      · rw [if_pos hc162] at h
        refine lv_icmp_eq (tgt := 635) X.1 X.2.1 dd_lx_law_162 (by decide) (fun _ => ?_) (fun z => absurd hc162 z)
        exact (kb_lx_law_b635 X hKs hlk hret hA0 hTi hTj hr28) (p0, p1, p2, p3) _ _ _ _ _ _ _ _ hw (lh_pk hl [0, 1, 2, 3] rfl) h hci hcj
      · rw [if_neg hc162] at h
        refine lv_icmp_eq (tgt := 635) X.1 X.2.1 dd_lx_law_162 (by decide) (fun z => absurd z hc162) (fun _ => ?_)
        refine lv_iconst (v := (0 : Int32)) X.1 X.2.1 dd_lx_law_165 (by decide) ?_
        exact absurd (st_r_some h).1 (by decide)
    · by_cases hc42_1 : (t46 &&& (31 : Int32)) = (1 : Int32)
      · rw [if_neg hc42_0, if_pos hc42_1] at h
        refine lv_tableIn (tgt := 167) (off := 125) X.1 X.2.1 dd_lx_law_42 (by rw [hc42_1]; decide) (by rw [hc42_1]; decide) (by rw [hc42_1]; decide) (by decide) ?_
        refine rr_aldn X dd_lx_law_167 rfl (lv_at hl.1 1 rfl) ?_
        refine rr_aldn X dd_lx_law_168 rfl (lv_at hl.1 0 rfl) ?_
        refine lv_iload_n X.1 X.2.1 dd_lx_law_169 rfl (lv_at hl.1 3 rfl) ?_
        refine lv_iconst (v := (1 : Int32)) X.1 X.2.1 dd_lx_law_170 (by decide) ?_
        refine lv_iadd X.1 X.2.1 dd_lx_law_171 ?_
        obtain ⟨t71, ht71, h⟩ := st_g_some h
        refine rr_xld X hKs hw ht71 dd_lx_law_172 ?_
        obtain ⟨t90, ht90, h⟩ := st_g_some h
        obtain ⟨t72, t73, t74, t75, t76, t77, ht72, h, ei, ej⟩ := st_b_some h
        refine rr_callV (n := 1) (As := [(.int t71)]) (rest := []) X hw (kn_ok D ac a0 gl) hKs (kc_xP_clear l D ac a0 gl p1 t71 _ _ _ _ _ ht72) tb_good tw_602 tw_91 tw_603 tw_604 se_71 ht90 (by decide +kernel) rfl (show 1 + 1 ≤ _ ∧ 8 + (2 + 11) + 20 ≤ _ from ⟨Nat.le_of_ble_eq_true rfl, Nat.le_of_ble_eq_true rfl⟩) ⟨Nat.le_trans (ar_1 hci ei) hTi, Nat.le_trans (ar_1 hcj ej) hTj⟩ hl.1.1 (by simp [rf_cat, ic_cat]) rfl dd_lx_law_173 (sk := [(.int t72)]) rfl (fun H locs hw => ?_)
        have hci : cells + t74 + t76 = iT := ar_2 hci ei
        have hcj : slots + t75 + t77 = jT := ar_2 hcj ej
        clear ei ej
        generalize cells + t74 = t78 at hci ⊢
        generalize slots + t75 = t79 at hcj ⊢
        refine rr_aldn X dd_lx_law_176 rfl (lv_at hl.1 2 rfl) ?_
        refine rr_aldn X dd_lx_law_177 rfl (lv_at hl.1 0 rfl) ?_
        refine lv_iload_n X.1 X.2.1 dd_lx_law_178 rfl (lv_at hl.1 3 rfl) ?_
        refine lv_iconst (v := (1 : Int32)) X.1 X.2.1 dd_lx_law_179 (by decide) ?_
        refine lv_iadd X.1 X.2.1 dd_lx_law_180 ?_
        obtain ⟨t80, ht80, h⟩ := st_g_some h
        refine rr_xld X hKs hw ht80 dd_lx_law_181 ?_
        obtain ⟨t89, ht89, h⟩ := st_g_some h
        obtain ⟨t81, t82, t83, t84, t85, t86, ht81, h, ei, ej⟩ := st_b_some h
        refine rr_callV (n := 1) (As := [(.int t80)]) (rest := [(.int t72)]) X hw (kn_ok D ac a0 gl) hKs (kc_mm_clear l D ac a0 gl p2 t80 _ _ _ _ _ ht81) tb_good tw_598 tw_469 tw_599 tw_600 se_70 ht89 (by decide +kernel) rfl (show 0 + 1 ≤ _ ∧ 8 + (2 + 11) + 0 ≤ _ from ⟨Nat.le_of_ble_eq_true rfl, Nat.le_of_ble_eq_true rfl⟩) ⟨Nat.le_trans (ar_1 hci ei) hTi, Nat.le_trans (ar_1 hcj ej) hTj⟩ hl.1.1 (by simp [rf_cat, ic_cat]) rfl dd_lx_law_182 (sk := [(.int t81), (.int t72)]) rfl (fun H locs hw => ?_)
        have hci : t78 + t83 + t85 = iT := ar_2 hci ei
        have hcj : t79 + t84 + t86 = jT := ar_2 hcj ej
        clear ei ej
        generalize t78 + t83 = t87 at hci ⊢
        generalize t79 + t84 = t88 at hcj ⊢
        by_cases hc185 : t72 = t81
        · rw [if_pos hc185] at h
          refine lv_icmp_eq (tgt := 635) X.1 X.2.1 dd_lx_law_185 (by decide) (fun _ => ?_) (fun z => absurd hc185 z)
          exact (kb_lx_law_b635 X hKs hlk hret hA0 hTi hTj hr28) (p0, p1, p2, p3) _ _ _ _ _ _ _ _ hw (lh_pk hl [0, 1, 2, 3] rfl) h hci hcj
        · rw [if_neg hc185] at h
          refine lv_icmp_eq (tgt := 635) X.1 X.2.1 dd_lx_law_185 (by decide) (fun z => absurd z hc185) (fun _ => ?_)
          refine lv_iconst (v := (0 : Int32)) X.1 X.2.1 dd_lx_law_188 (by decide) ?_
          exact absurd (st_r_some h).1 (by decide)
      · by_cases hc42_2 : (t46 &&& (31 : Int32)) = (2 : Int32)
        · rw [if_neg hc42_0, if_neg hc42_1, if_pos hc42_2] at h
          refine lv_tableIn (tgt := 190) (off := 148) X.1 X.2.1 dd_lx_law_42 (by rw [hc42_2]; decide) (by rw [hc42_2]; decide) (by rw [hc42_2]; decide) (by decide) ?_
          refine rr_aldn X dd_lx_law_190 rfl (lv_at hl.1 1 rfl) ?_
          refine rr_aldn X dd_lx_law_191 rfl (lv_at hl.1 0 rfl) ?_
          refine lv_iload_n X.1 X.2.1 dd_lx_law_192 rfl (lv_at hl.1 3 rfl) ?_
          refine lv_iconst (v := (1 : Int32)) X.1 X.2.1 dd_lx_law_193 (by decide) ?_
          refine lv_iadd X.1 X.2.1 dd_lx_law_194 ?_
          obtain ⟨t91, ht91, h⟩ := st_g_some h
          refine rr_xld X hKs hw ht91 dd_lx_law_195 ?_
          refine rr_aldn X dd_lx_law_196 rfl (lv_at hl.1 0 rfl) ?_
          refine lv_iload_n X.1 X.2.1 dd_lx_law_197 rfl (lv_at hl.1 3 rfl) ?_
          refine lv_iconst (v := (2 : Int32)) X.1 X.2.1 dd_lx_law_198 (by decide) ?_
          refine lv_iadd X.1 X.2.1 dd_lx_law_199 ?_
          obtain ⟨t92, ht92, h⟩ := st_g_some h
          refine rr_xld X hKs hw ht92 dd_lx_law_200 ?_
          refine rr_aldn X dd_lx_law_201 rfl (lv_at hl.1 0 rfl) ?_
          refine lv_iload_n X.1 X.2.1 dd_lx_law_202 rfl (lv_at hl.1 3 rfl) ?_
          refine lv_iconst (v := (3 : Int32)) X.1 X.2.1 dd_lx_law_203 (by decide) ?_
          refine lv_iadd X.1 X.2.1 dd_lx_law_204 ?_
          obtain ⟨t93, ht93, h⟩ := st_g_some h
          refine rr_xld X hKs hw ht93 dd_lx_law_205 ?_
          obtain ⟨t114, ht114, h⟩ := st_g_some h
          obtain ⟨t94, t95, t96, t97, t98, t99, ht94, h, ei, ej⟩ := st_b_some h
          refine rr_callV (n := 3) (As := [(.int t91), (.int t92), (.int t93)]) (rest := []) X hw (kn_ok D ac a0 gl) hKs (kc_xP_give l D ac a0 gl p1 t91 t92 t93 _ _ _ _ _ ht94) tb_good tw_610 tw_91 tw_611 tw_612 se_73 ht114 (by decide +kernel) rfl (show 1 + 1 ≤ _ ∧ 8 + (5 + 11) + 21 ≤ _ from ⟨Nat.le_of_ble_eq_true rfl, Nat.le_of_ble_eq_true rfl⟩) ⟨Nat.le_trans (ar_1 hci ei) hTi, Nat.le_trans (ar_1 hcj ej) hTj⟩ hl.1.1 (by simp [rf_cat, ic_cat]) rfl dd_lx_law_206 (sk := [(.int t94)]) rfl (fun H locs hw => ?_)
          have hci : cells + t96 + t98 = iT := ar_2 hci ei
          have hcj : slots + t97 + t99 = jT := ar_2 hcj ej
          clear ei ej
          generalize cells + t96 = t100 at hci ⊢
          generalize slots + t97 = t101 at hcj ⊢
          refine rr_aldn X dd_lx_law_209 rfl (lv_at hl.1 2 rfl) ?_
          refine rr_aldn X dd_lx_law_210 rfl (lv_at hl.1 0 rfl) ?_
          refine lv_iload_n X.1 X.2.1 dd_lx_law_211 rfl (lv_at hl.1 3 rfl) ?_
          refine lv_iconst (v := (1 : Int32)) X.1 X.2.1 dd_lx_law_212 (by decide) ?_
          refine lv_iadd X.1 X.2.1 dd_lx_law_213 ?_
          obtain ⟨t102, ht102, h⟩ := st_g_some h
          refine rr_xld X hKs hw ht102 dd_lx_law_214 ?_
          refine rr_aldn X dd_lx_law_215 rfl (lv_at hl.1 0 rfl) ?_
          refine lv_iload_n X.1 X.2.1 dd_lx_law_216 rfl (lv_at hl.1 3 rfl) ?_
          refine lv_iconst (v := (2 : Int32)) X.1 X.2.1 dd_lx_law_217 (by decide) ?_
          refine lv_iadd X.1 X.2.1 dd_lx_law_218 ?_
          obtain ⟨t103, ht103, h⟩ := st_g_some h
          refine rr_xld X hKs hw ht103 dd_lx_law_219 ?_
          refine rr_aldn X dd_lx_law_220 rfl (lv_at hl.1 0 rfl) ?_
          refine lv_iload_n X.1 X.2.1 dd_lx_law_221 rfl (lv_at hl.1 3 rfl) ?_
          refine lv_iconst (v := (3 : Int32)) X.1 X.2.1 dd_lx_law_222 (by decide) ?_
          refine lv_iadd X.1 X.2.1 dd_lx_law_223 ?_
          obtain ⟨t104, ht104, h⟩ := st_g_some h
          refine rr_xld X hKs hw ht104 dd_lx_law_224 ?_
          obtain ⟨t113, ht113, h⟩ := st_g_some h
          obtain ⟨t105, t106, t107, t108, t109, t110, ht105, h, ei, ej⟩ := st_b_some h
          refine rr_callV (n := 3) (As := [(.int t102), (.int t103), (.int t104)]) (rest := [(.int t94)]) X hw (kn_ok D ac a0 gl) hKs (kc_mm_give l D ac a0 gl p2 t102 t103 t104 _ _ _ _ _ ht105) tb_good tw_606 tw_469 tw_607 tw_608 se_72 ht113 (by decide +kernel) rfl (show 1 + 1 ≤ _ ∧ 8 + (4 + 11) + 21 ≤ _ from ⟨Nat.le_of_ble_eq_true rfl, Nat.le_of_ble_eq_true rfl⟩) ⟨Nat.le_trans (ar_1 hci ei) hTi, Nat.le_trans (ar_1 hcj ej) hTj⟩ hl.1.1 (by simp [rf_cat, ic_cat]) rfl dd_lx_law_225 (sk := [(.int t105), (.int t94)]) rfl (fun H locs hw => ?_)
          have hci : t100 + t107 + t109 = iT := ar_2 hci ei
          have hcj : t101 + t108 + t110 = jT := ar_2 hcj ej
          clear ei ej
          generalize t100 + t107 = t111 at hci ⊢
          generalize t101 + t108 = t112 at hcj ⊢
          by_cases hc228 : t94 = t105
          · rw [if_pos hc228] at h
            refine lv_icmp_eq (tgt := 635) X.1 X.2.1 dd_lx_law_228 (by decide) (fun _ => ?_) (fun z => absurd hc228 z)
            exact (kb_lx_law_b635 X hKs hlk hret hA0 hTi hTj hr28) (p0, p1, p2, p3) _ _ _ _ _ _ _ _ hw (lh_pk hl [0, 1, 2, 3] rfl) h hci hcj
          · rw [if_neg hc228] at h
            refine lv_icmp_eq (tgt := 635) X.1 X.2.1 dd_lx_law_228 (by decide) (fun z => absurd z hc228) (fun _ => ?_)
            refine lv_iconst (v := (0 : Int32)) X.1 X.2.1 dd_lx_law_231 (by decide) ?_
            exact absurd (st_r_some h).1 (by decide)
        · by_cases hc42_3 : (t46 &&& (31 : Int32)) = (3 : Int32)
          · rw [if_neg hc42_0, if_neg hc42_1, if_neg hc42_2, if_pos hc42_3] at h
            refine lv_tableIn (tgt := 233) (off := 191) X.1 X.2.1 dd_lx_law_42 (by rw [hc42_3]; decide) (by rw [hc42_3]; decide) (by rw [hc42_3]; decide) (by decide) ?_
            refine rr_aldn X dd_lx_law_233 rfl (lv_at hl.1 1 rfl) ?_
            refine rr_aldn X dd_lx_law_234 rfl (lv_at hl.1 0 rfl) ?_
            refine lv_iload_n X.1 X.2.1 dd_lx_law_235 rfl (lv_at hl.1 3 rfl) ?_
            refine lv_iconst (v := (1 : Int32)) X.1 X.2.1 dd_lx_law_236 (by decide) ?_
            refine lv_iadd X.1 X.2.1 dd_lx_law_237 ?_
            obtain ⟨t115, ht115, h⟩ := st_g_some h
            refine rr_xld X hKs hw ht115 dd_lx_law_238 ?_
            refine rr_aldn X dd_lx_law_239 rfl (lv_at hl.1 0 rfl) ?_
            refine lv_iload_n X.1 X.2.1 dd_lx_law_240 rfl (lv_at hl.1 3 rfl) ?_
            refine lv_iconst (v := (2 : Int32)) X.1 X.2.1 dd_lx_law_241 (by decide) ?_
            refine lv_iadd X.1 X.2.1 dd_lx_law_242 ?_
            obtain ⟨t116, ht116, h⟩ := st_g_some h
            refine rr_xld X hKs hw ht116 dd_lx_law_243 ?_
            obtain ⟨t136, ht136, h⟩ := st_g_some h
            obtain ⟨t117, t118, t119, t120, t121, t122, ht117, h, ei, ej⟩ := st_b_some h
            refine rr_callV (n := 2) (As := [(.int t115), (.int t116)]) (rest := []) X hw (kn_ok D ac a0 gl) hKs (kc_xP_poke l D ac a0 gl p1 t115 t116 _ _ _ _ _ ht117) tb_good tw_618 tw_91 tw_619 tw_620 se_75 ht136 (by decide +kernel) rfl (show 11 + 1 ≤ _ ∧ 8 + (3 + 11) + 286 ≤ _ from ⟨Nat.le_of_ble_eq_true rfl, Nat.le_of_ble_eq_true rfl⟩) ⟨Nat.le_trans (ar_1 hci ei) hTi, Nat.le_trans (ar_1 hcj ej) hTj⟩ hl.1.1 (by simp [rf_cat, ic_cat]) rfl dd_lx_law_244 (sk := [(.int t117)]) rfl (fun H locs hw => ?_)
            have hci : cells + t119 + t121 = iT := ar_2 hci ei
            have hcj : slots + t120 + t122 = jT := ar_2 hcj ej
            clear ei ej
            generalize cells + t119 = t123 at hci ⊢
            generalize slots + t120 = t124 at hcj ⊢
            refine rr_aldn X dd_lx_law_247 rfl (lv_at hl.1 2 rfl) ?_
            refine rr_aldn X dd_lx_law_248 rfl (lv_at hl.1 0 rfl) ?_
            refine lv_iload_n X.1 X.2.1 dd_lx_law_249 rfl (lv_at hl.1 3 rfl) ?_
            refine lv_iconst (v := (1 : Int32)) X.1 X.2.1 dd_lx_law_250 (by decide) ?_
            refine lv_iadd X.1 X.2.1 dd_lx_law_251 ?_
            obtain ⟨t125, ht125, h⟩ := st_g_some h
            refine rr_xld X hKs hw ht125 dd_lx_law_252 ?_
            refine rr_aldn X dd_lx_law_253 rfl (lv_at hl.1 0 rfl) ?_
            refine lv_iload_n X.1 X.2.1 dd_lx_law_254 rfl (lv_at hl.1 3 rfl) ?_
            refine lv_iconst (v := (2 : Int32)) X.1 X.2.1 dd_lx_law_255 (by decide) ?_
            refine lv_iadd X.1 X.2.1 dd_lx_law_256 ?_
            obtain ⟨t126, ht126, h⟩ := st_g_some h
            refine rr_xld X hKs hw ht126 dd_lx_law_257 ?_
            obtain ⟨t135, ht135, h⟩ := st_g_some h
            obtain ⟨t127, t128, t129, t130, t131, t132, ht127, h, ei, ej⟩ := st_b_some h
            refine rr_callV (n := 2) (As := [(.int t125), (.int t126)]) (rest := [(.int t117)]) X hw (kn_ok D ac a0 gl) hKs (kc_mm_poke l D ac a0 gl p2 t125 t126 _ _ _ _ _ ht127) tb_good tw_614 tw_469 tw_615 tw_616 se_74 ht135 (by decide +kernel) rfl (show 2 + 1 ≤ _ ∧ 8 + (3 + 11) + 44 ≤ _ from ⟨Nat.le_of_ble_eq_true rfl, Nat.le_of_ble_eq_true rfl⟩) ⟨Nat.le_trans (ar_1 hci ei) hTi, Nat.le_trans (ar_1 hcj ej) hTj⟩ hl.1.1 (by simp [rf_cat, ic_cat]) rfl dd_lx_law_258 (sk := [(.int t127), (.int t117)]) rfl (fun H locs hw => ?_)
            have hci : t123 + t129 + t131 = iT := ar_2 hci ei
            have hcj : t124 + t130 + t132 = jT := ar_2 hcj ej
            clear ei ej
            generalize t123 + t129 = t133 at hci ⊢
            generalize t124 + t130 = t134 at hcj ⊢
            by_cases hc261 : t117 = t127
            · rw [if_pos hc261] at h
              refine lv_icmp_eq (tgt := 635) X.1 X.2.1 dd_lx_law_261 (by decide) (fun _ => ?_) (fun z => absurd hc261 z)
              exact (kb_lx_law_b635 X hKs hlk hret hA0 hTi hTj hr28) (p0, p1, p2, p3) _ _ _ _ _ _ _ _ hw (lh_pk hl [0, 1, 2, 3] rfl) h hci hcj
            · rw [if_neg hc261] at h
              refine lv_icmp_eq (tgt := 635) X.1 X.2.1 dd_lx_law_261 (by decide) (fun z => absurd z hc261) (fun _ => ?_)
              refine lv_iconst (v := (0 : Int32)) X.1 X.2.1 dd_lx_law_264 (by decide) ?_
              exact absurd (st_r_some h).1 (by decide)
          · by_cases hc42_4 : (t46 &&& (31 : Int32)) = (4 : Int32)
            · rw [if_neg hc42_0, if_neg hc42_1, if_neg hc42_2, if_neg hc42_3, if_pos hc42_4] at h
              refine lv_tableIn (tgt := 266) (off := 224) X.1 X.2.1 dd_lx_law_42 (by rw [hc42_4]; decide) (by rw [hc42_4]; decide) (by rw [hc42_4]; decide) (by decide) ?_
              refine rr_aldn X dd_lx_law_266 rfl (lv_at hl.1 1 rfl) ?_
              refine rr_aldn X dd_lx_law_267 rfl (lv_at hl.1 0 rfl) ?_
              refine lv_iload_n X.1 X.2.1 dd_lx_law_268 rfl (lv_at hl.1 3 rfl) ?_
              refine lv_iconst (v := (1 : Int32)) X.1 X.2.1 dd_lx_law_269 (by decide) ?_
              refine lv_iadd X.1 X.2.1 dd_lx_law_270 ?_
              obtain ⟨t137, ht137, h⟩ := st_g_some h
              refine rr_xld X hKs hw ht137 dd_lx_law_271 ?_
              obtain ⟨t156, ht156, h⟩ := st_g_some h
              obtain ⟨t138, t139, t140, t141, t142, t143, ht138, h, ei, ej⟩ := st_b_some h
              refine rr_callV (n := 1) (As := [(.int t137)]) (rest := []) X hw (kn_ok D ac a0 gl) hKs (kc_xP_turn l D ac a0 gl p1 t137 _ _ _ _ _ ht138) tb_good tw_626 tw_91 tw_627 tw_628 se_77 ht156 (by decide +kernel) rfl (show 13 + 1 ≤ _ ∧ 8 + (6 + 11) + 335 ≤ _ from ⟨Nat.le_of_ble_eq_true rfl, Nat.le_of_ble_eq_true rfl⟩) ⟨Nat.le_trans (ar_1 hci ei) hTi, Nat.le_trans (ar_1 hcj ej) hTj⟩ hl.1.1 (by simp [rf_cat, ic_cat]) rfl dd_lx_law_272 (sk := [(.int t138)]) rfl (fun H locs hw => ?_)
              have hci : cells + t140 + t142 = iT := ar_2 hci ei
              have hcj : slots + t141 + t143 = jT := ar_2 hcj ej
              clear ei ej
              generalize cells + t140 = t144 at hci ⊢
              generalize slots + t141 = t145 at hcj ⊢
              refine rr_aldn X dd_lx_law_275 rfl (lv_at hl.1 2 rfl) ?_
              refine rr_aldn X dd_lx_law_276 rfl (lv_at hl.1 0 rfl) ?_
              refine lv_iload_n X.1 X.2.1 dd_lx_law_277 rfl (lv_at hl.1 3 rfl) ?_
              refine lv_iconst (v := (1 : Int32)) X.1 X.2.1 dd_lx_law_278 (by decide) ?_
              refine lv_iadd X.1 X.2.1 dd_lx_law_279 ?_
              obtain ⟨t146, ht146, h⟩ := st_g_some h
              refine rr_xld X hKs hw ht146 dd_lx_law_280 ?_
              obtain ⟨t155, ht155, h⟩ := st_g_some h
              obtain ⟨t147, t148, t149, t150, t151, t152, ht147, h, ei, ej⟩ := st_b_some h
              refine rr_callV (n := 1) (As := [(.int t146)]) (rest := [(.int t138)]) X hw (kn_ok D ac a0 gl) hKs (kc_mm_turn l D ac a0 gl p2 t146 _ _ _ _ _ ht147) tb_good tw_622 tw_469 tw_623 tw_624 se_76 ht155 (by decide +kernel) rfl (show 7 + 1 ≤ _ ∧ 8 + (8 + 11) + 175 ≤ _ from ⟨Nat.le_of_ble_eq_true rfl, Nat.le_of_ble_eq_true rfl⟩) ⟨Nat.le_trans (ar_1 hci ei) hTi, Nat.le_trans (ar_1 hcj ej) hTj⟩ hl.1.1 (by simp [rf_cat, ic_cat]) rfl dd_lx_law_281 (sk := [(.int t147), (.int t138)]) rfl (fun H locs hw => ?_)
              have hci : t144 + t149 + t151 = iT := ar_2 hci ei
              have hcj : t145 + t150 + t152 = jT := ar_2 hcj ej
              clear ei ej
              generalize t144 + t149 = t153 at hci ⊢
              generalize t145 + t150 = t154 at hcj ⊢
              by_cases hc284 : t138 = t147
              · rw [if_pos hc284] at h
                refine lv_icmp_eq (tgt := 635) X.1 X.2.1 dd_lx_law_284 (by decide) (fun _ => ?_) (fun z => absurd hc284 z)
                exact (kb_lx_law_b635 X hKs hlk hret hA0 hTi hTj hr28) (p0, p1, p2, p3) _ _ _ _ _ _ _ _ hw (lh_pk hl [0, 1, 2, 3] rfl) h hci hcj
              · rw [if_neg hc284] at h
                refine lv_icmp_eq (tgt := 635) X.1 X.2.1 dd_lx_law_284 (by decide) (fun z => absurd z hc284) (fun _ => ?_)
                refine lv_iconst (v := (0 : Int32)) X.1 X.2.1 dd_lx_law_287 (by decide) ?_
                exact absurd (st_r_some h).1 (by decide)
            · by_cases hc42_5 : (t46 &&& (31 : Int32)) = (5 : Int32)
              · rw [if_neg hc42_0, if_neg hc42_1, if_neg hc42_2, if_neg hc42_3, if_neg hc42_4, if_pos hc42_5] at h
                refine lv_tableIn (tgt := 289) (off := 247) X.1 X.2.1 dd_lx_law_42 (by rw [hc42_5]; decide) (by rw [hc42_5]; decide) (by rw [hc42_5]; decide) (by decide) ?_
                refine rr_aldn X dd_lx_law_289 rfl (lv_at hl.1 1 rfl) ?_
                refine rr_aldn X dd_lx_law_290 rfl (lv_at hl.1 0 rfl) ?_
                refine lv_iload_n X.1 X.2.1 dd_lx_law_291 rfl (lv_at hl.1 3 rfl) ?_
                refine lv_iconst (v := (1 : Int32)) X.1 X.2.1 dd_lx_law_292 (by decide) ?_
                refine lv_iadd X.1 X.2.1 dd_lx_law_293 ?_
                obtain ⟨t157, ht157, h⟩ := st_g_some h
                refine rr_xld X hKs hw ht157 dd_lx_law_294 ?_
                refine rr_aldn X dd_lx_law_295 rfl (lv_at hl.1 0 rfl) ?_
                refine lv_iload_n X.1 X.2.1 dd_lx_law_296 rfl (lv_at hl.1 3 rfl) ?_
                refine lv_iconst (v := (2 : Int32)) X.1 X.2.1 dd_lx_law_297 (by decide) ?_
                refine lv_iadd X.1 X.2.1 dd_lx_law_298 ?_
                obtain ⟨t158, ht158, h⟩ := st_g_some h
                refine rr_xld X hKs hw ht158 dd_lx_law_299 ?_
                obtain ⟨t178, ht178, h⟩ := st_g_some h
                obtain ⟨t159, t160, t161, t162, t163, t164, ht159, h, ei, ej⟩ := st_b_some h
                refine rr_callV (n := 2) (As := [(.int t157), (.int t158)]) (rest := []) X hw (kn_ok D ac a0 gl) hKs (kc_xP_deliver l D ac a0 gl p1 t157 t158 _ _ _ _ _ ht159) tb_good tw_634 tw_91 tw_635 tw_636 se_79 ht178 (by decide +kernel) rfl (show 13 + 1 ≤ _ ∧ 8 + (4 + 11) + 335 ≤ _ from ⟨Nat.le_of_ble_eq_true rfl, Nat.le_of_ble_eq_true rfl⟩) ⟨Nat.le_trans (ar_1 hci ei) hTi, Nat.le_trans (ar_1 hcj ej) hTj⟩ hl.1.1 (by simp [rf_cat, ic_cat]) rfl dd_lx_law_300 (sk := [(.int t159)]) rfl (fun H locs hw => ?_)
                have hci : cells + t161 + t163 = iT := ar_2 hci ei
                have hcj : slots + t162 + t164 = jT := ar_2 hcj ej
                clear ei ej
                generalize cells + t161 = t165 at hci ⊢
                generalize slots + t162 = t166 at hcj ⊢
                refine rr_aldn X dd_lx_law_303 rfl (lv_at hl.1 2 rfl) ?_
                refine rr_aldn X dd_lx_law_304 rfl (lv_at hl.1 0 rfl) ?_
                refine lv_iload_n X.1 X.2.1 dd_lx_law_305 rfl (lv_at hl.1 3 rfl) ?_
                refine lv_iconst (v := (1 : Int32)) X.1 X.2.1 dd_lx_law_306 (by decide) ?_
                refine lv_iadd X.1 X.2.1 dd_lx_law_307 ?_
                obtain ⟨t167, ht167, h⟩ := st_g_some h
                refine rr_xld X hKs hw ht167 dd_lx_law_308 ?_
                refine rr_aldn X dd_lx_law_309 rfl (lv_at hl.1 0 rfl) ?_
                refine lv_iload_n X.1 X.2.1 dd_lx_law_310 rfl (lv_at hl.1 3 rfl) ?_
                refine lv_iconst (v := (2 : Int32)) X.1 X.2.1 dd_lx_law_311 (by decide) ?_
                refine lv_iadd X.1 X.2.1 dd_lx_law_312 ?_
                obtain ⟨t168, ht168, h⟩ := st_g_some h
                refine rr_xld X hKs hw ht168 dd_lx_law_313 ?_
                obtain ⟨t177, ht177, h⟩ := st_g_some h
                obtain ⟨t169, t170, t171, t172, t173, t174, ht169, h, ei, ej⟩ := st_b_some h
                refine rr_callV (n := 2) (As := [(.int t167), (.int t168)]) (rest := [(.int t159)]) X hw (kn_ok D ac a0 gl) hKs (kc_mm_deliver l D ac a0 gl p2 t167 t168 _ _ _ _ _ ht169) tb_good tw_630 tw_469 tw_631 tw_632 se_78 ht177 (by decide +kernel) rfl (show 5 + 1 ≤ _ ∧ 8 + (9 + 11) + 127 ≤ _ from ⟨Nat.le_of_ble_eq_true rfl, Nat.le_of_ble_eq_true rfl⟩) ⟨Nat.le_trans (ar_1 hci ei) hTi, Nat.le_trans (ar_1 hcj ej) hTj⟩ hl.1.1 (by simp [rf_cat, ic_cat]) rfl dd_lx_law_314 (sk := [(.int t169), (.int t159)]) rfl (fun H locs hw => ?_)
                have hci : t165 + t171 + t173 = iT := ar_2 hci ei
                have hcj : t166 + t172 + t174 = jT := ar_2 hcj ej
                clear ei ej
                generalize t165 + t171 = t175 at hci ⊢
                generalize t166 + t172 = t176 at hcj ⊢
                by_cases hc317 : t159 = t169
                · rw [if_pos hc317] at h
                  refine lv_icmp_eq (tgt := 635) X.1 X.2.1 dd_lx_law_317 (by decide) (fun _ => ?_) (fun z => absurd hc317 z)
                  exact (kb_lx_law_b635 X hKs hlk hret hA0 hTi hTj hr28) (p0, p1, p2, p3) _ _ _ _ _ _ _ _ hw (lh_pk hl [0, 1, 2, 3] rfl) h hci hcj
                · rw [if_neg hc317] at h
                  refine lv_icmp_eq (tgt := 635) X.1 X.2.1 dd_lx_law_317 (by decide) (fun z => absurd z hc317) (fun _ => ?_)
                  refine lv_iconst (v := (0 : Int32)) X.1 X.2.1 dd_lx_law_320 (by decide) ?_
                  exact absurd (st_r_some h).1 (by decide)
              · by_cases hc42_6 : (t46 &&& (31 : Int32)) = (6 : Int32)
                · rw [if_neg hc42_0, if_neg hc42_1, if_neg hc42_2, if_neg hc42_3, if_neg hc42_4, if_neg hc42_5, if_pos hc42_6] at h
                  refine lv_tableIn (tgt := 322) (off := 280) X.1 X.2.1 dd_lx_law_42 (by rw [hc42_6]; decide) (by rw [hc42_6]; decide) (by rw [hc42_6]; decide) (by decide) ?_
                  refine rr_aldn X dd_lx_law_322 rfl (lv_at hl.1 1 rfl) ?_
                  refine rr_aldn X dd_lx_law_323 rfl (lv_at hl.1 0 rfl) ?_
                  refine lv_iload_n X.1 X.2.1 dd_lx_law_324 rfl (lv_at hl.1 3 rfl) ?_
                  refine lv_iconst (v := (1 : Int32)) X.1 X.2.1 dd_lx_law_325 (by decide) ?_
                  refine lv_iadd X.1 X.2.1 dd_lx_law_326 ?_
                  obtain ⟨t179, ht179, h⟩ := st_g_some h
                  refine rr_xld X hKs hw ht179 dd_lx_law_327 ?_
                  obtain ⟨t198, ht198, h⟩ := st_g_some h
                  obtain ⟨t180, t181, t182, t183, t184, t185, ht180, h, ei, ej⟩ := st_b_some h
                  refine rr_callV (n := 1) (As := [(.int t179)]) (rest := []) X hw (kn_ok D ac a0 gl) hKs (kc_xP_sweep l D ac a0 gl p1 t179 _ _ _ _ _ ht180) tb_good tw_642 tw_91 tw_643 tw_644 se_81 ht198 (by decide +kernel) rfl (show 9 + 1 ≤ _ ∧ 8 + (3 + 11) + 237 ≤ _ from ⟨Nat.le_of_ble_eq_true rfl, Nat.le_of_ble_eq_true rfl⟩) ⟨Nat.le_trans (ar_1 hci ei) hTi, Nat.le_trans (ar_1 hcj ej) hTj⟩ hl.1.1 (by simp [rf_cat, ic_cat]) rfl dd_lx_law_328 (sk := [(.int t180)]) rfl (fun H locs hw => ?_)
                  have hci : cells + t182 + t184 = iT := ar_2 hci ei
                  have hcj : slots + t183 + t185 = jT := ar_2 hcj ej
                  clear ei ej
                  generalize cells + t182 = t186 at hci ⊢
                  generalize slots + t183 = t187 at hcj ⊢
                  refine rr_aldn X dd_lx_law_331 rfl (lv_at hl.1 2 rfl) ?_
                  refine rr_aldn X dd_lx_law_332 rfl (lv_at hl.1 0 rfl) ?_
                  refine lv_iload_n X.1 X.2.1 dd_lx_law_333 rfl (lv_at hl.1 3 rfl) ?_
                  refine lv_iconst (v := (1 : Int32)) X.1 X.2.1 dd_lx_law_334 (by decide) ?_
                  refine lv_iadd X.1 X.2.1 dd_lx_law_335 ?_
                  obtain ⟨t188, ht188, h⟩ := st_g_some h
                  refine rr_xld X hKs hw ht188 dd_lx_law_336 ?_
                  obtain ⟨t197, ht197, h⟩ := st_g_some h
                  obtain ⟨t189, t190, t191, t192, t193, t194, ht189, h, ei, ej⟩ := st_b_some h
                  refine rr_callV (n := 1) (As := [(.int t188)]) (rest := [(.int t180)]) X hw (kn_ok D ac a0 gl) hKs (kc_mm_sweep l D ac a0 gl p2 t188 _ _ _ _ _ ht189) tb_good tw_638 tw_469 tw_639 tw_640 se_80 ht197 (by decide +kernel) rfl (show 3 + 1 ≤ _ ∧ 8 + (5 + 11) + 65 ≤ _ from ⟨Nat.le_of_ble_eq_true rfl, Nat.le_of_ble_eq_true rfl⟩) ⟨Nat.le_trans (ar_1 hci ei) hTi, Nat.le_trans (ar_1 hcj ej) hTj⟩ hl.1.1 (by simp [rf_cat, ic_cat]) rfl dd_lx_law_337 (sk := [(.int t189), (.int t180)]) rfl (fun H locs hw => ?_)
                  have hci : t186 + t191 + t193 = iT := ar_2 hci ei
                  have hcj : t187 + t192 + t194 = jT := ar_2 hcj ej
                  clear ei ej
                  generalize t186 + t191 = t195 at hci ⊢
                  generalize t187 + t192 = t196 at hcj ⊢
                  by_cases hc340 : t180 = t189
                  · rw [if_pos hc340] at h
                    refine lv_icmp_eq (tgt := 635) X.1 X.2.1 dd_lx_law_340 (by decide) (fun _ => ?_) (fun z => absurd hc340 z)
                    exact (kb_lx_law_b635 X hKs hlk hret hA0 hTi hTj hr28) (p0, p1, p2, p3) _ _ _ _ _ _ _ _ hw (lh_pk hl [0, 1, 2, 3] rfl) h hci hcj
                  · rw [if_neg hc340] at h
                    refine lv_icmp_eq (tgt := 635) X.1 X.2.1 dd_lx_law_340 (by decide) (fun z => absurd z hc340) (fun _ => ?_)
                    refine lv_iconst (v := (0 : Int32)) X.1 X.2.1 dd_lx_law_343 (by decide) ?_
                    exact absurd (st_r_some h).1 (by decide)
                · by_cases hc42_7 : (t46 &&& (31 : Int32)) = (7 : Int32)
                  · rw [if_neg hc42_0, if_neg hc42_1, if_neg hc42_2, if_neg hc42_3, if_neg hc42_4, if_neg hc42_5, if_neg hc42_6, if_pos hc42_7] at h
                    refine lv_tableIn (tgt := 345) (off := 303) X.1 X.2.1 dd_lx_law_42 (by rw [hc42_7]; decide) (by rw [hc42_7]; decide) (by rw [hc42_7]; decide) (by decide) ?_
                    refine rr_aldn X dd_lx_law_345 rfl (lv_at hl.1 1 rfl) ?_
                    refine rr_aldn X dd_lx_law_346 rfl (lv_at hl.1 0 rfl) ?_
                    refine lv_iload_n X.1 X.2.1 dd_lx_law_347 rfl (lv_at hl.1 3 rfl) ?_
                    refine lv_iconst (v := (1 : Int32)) X.1 X.2.1 dd_lx_law_348 (by decide) ?_
                    refine lv_iadd X.1 X.2.1 dd_lx_law_349 ?_
                    obtain ⟨t199, ht199, h⟩ := st_g_some h
                    refine rr_xld X hKs hw ht199 dd_lx_law_350 ?_
                    refine rr_aldn X dd_lx_law_351 rfl (lv_at hl.1 0 rfl) ?_
                    refine lv_iload_n X.1 X.2.1 dd_lx_law_352 rfl (lv_at hl.1 3 rfl) ?_
                    refine lv_iconst (v := (2 : Int32)) X.1 X.2.1 dd_lx_law_353 (by decide) ?_
                    refine lv_iadd X.1 X.2.1 dd_lx_law_354 ?_
                    obtain ⟨t200, ht200, h⟩ := st_g_some h
                    refine rr_xld X hKs hw ht200 dd_lx_law_355 ?_
                    obtain ⟨t220, ht220, h⟩ := st_g_some h
                    obtain ⟨t201, t202, t203, t204, t205, t206, ht201, h, ei, ej⟩ := st_b_some h
                    refine rr_callV (n := 2) (As := [(.int t199), (.int t200)]) (rest := []) X hw (kn_ok D ac a0 gl) hKs (kc_xP_flying l D ac a0 gl p1 t199 t200 _ _ _ _ _ ht201) tb_good tw_348 tw_91 tw_650 tw_350 se_27 ht220 (by decide +kernel) rfl (show 1 + 1 ≤ _ ∧ 8 + (3 + 11) + 21 ≤ _ from ⟨Nat.le_of_ble_eq_true rfl, Nat.le_of_ble_eq_true rfl⟩) ⟨Nat.le_trans (ar_1 hci ei) hTi, Nat.le_trans (ar_1 hcj ej) hTj⟩ hl.1.1 (by simp [rf_cat, ic_cat]) rfl dd_lx_law_356 (sk := [(.int t201)]) rfl (fun H locs hw => ?_)
                    have hci : cells + t203 + t205 = iT := ar_2 hci ei
                    have hcj : slots + t204 + t206 = jT := ar_2 hcj ej
                    clear ei ej
                    generalize cells + t203 = t207 at hci ⊢
                    generalize slots + t204 = t208 at hcj ⊢
                    refine rr_aldn X dd_lx_law_359 rfl (lv_at hl.1 2 rfl) ?_
                    refine rr_aldn X dd_lx_law_360 rfl (lv_at hl.1 0 rfl) ?_
                    refine lv_iload_n X.1 X.2.1 dd_lx_law_361 rfl (lv_at hl.1 3 rfl) ?_
                    refine lv_iconst (v := (1 : Int32)) X.1 X.2.1 dd_lx_law_362 (by decide) ?_
                    refine lv_iadd X.1 X.2.1 dd_lx_law_363 ?_
                    obtain ⟨t209, ht209, h⟩ := st_g_some h
                    refine rr_xld X hKs hw ht209 dd_lx_law_364 ?_
                    refine rr_aldn X dd_lx_law_365 rfl (lv_at hl.1 0 rfl) ?_
                    refine lv_iload_n X.1 X.2.1 dd_lx_law_366 rfl (lv_at hl.1 3 rfl) ?_
                    refine lv_iconst (v := (2 : Int32)) X.1 X.2.1 dd_lx_law_367 (by decide) ?_
                    refine lv_iadd X.1 X.2.1 dd_lx_law_368 ?_
                    obtain ⟨t210, ht210, h⟩ := st_g_some h
                    refine rr_xld X hKs hw ht210 dd_lx_law_369 ?_
                    obtain ⟨t219, ht219, h⟩ := st_g_some h
                    obtain ⟨t211, t212, t213, t214, t215, t216, ht211, h, ei, ej⟩ := st_b_some h
                    refine rr_callV (n := 2) (As := [(.int t209), (.int t210)]) (rest := [(.int t201)]) X hw (kn_ok D ac a0 gl) hKs (kc_mm_flying l D ac a0 gl p2 t209 t210 _ _ _ _ _ ht211) tb_good tw_646 tw_469 tw_647 tw_648 se_82 ht219 (by decide +kernel) rfl (show 1 + 1 ≤ _ ∧ 8 + (5 + 11) + 21 ≤ _ from ⟨Nat.le_of_ble_eq_true rfl, Nat.le_of_ble_eq_true rfl⟩) ⟨Nat.le_trans (ar_1 hci ei) hTi, Nat.le_trans (ar_1 hcj ej) hTj⟩ hl.1.1 (by simp [rf_cat, ic_cat]) rfl dd_lx_law_370 (sk := [(.int t211), (.int t201)]) rfl (fun H locs hw => ?_)
                    have hci : t207 + t213 + t215 = iT := ar_2 hci ei
                    have hcj : t208 + t214 + t216 = jT := ar_2 hcj ej
                    clear ei ej
                    generalize t207 + t213 = t217 at hci ⊢
                    generalize t208 + t214 = t218 at hcj ⊢
                    by_cases hc373 : t201 = t211
                    · rw [if_pos hc373] at h
                      refine lv_icmp_eq (tgt := 635) X.1 X.2.1 dd_lx_law_373 (by decide) (fun _ => ?_) (fun z => absurd hc373 z)
                      exact (kb_lx_law_b635 X hKs hlk hret hA0 hTi hTj hr28) (p0, p1, p2, p3) _ _ _ _ _ _ _ _ hw (lh_pk hl [0, 1, 2, 3] rfl) h hci hcj
                    · rw [if_neg hc373] at h
                      refine lv_icmp_eq (tgt := 635) X.1 X.2.1 dd_lx_law_373 (by decide) (fun z => absurd z hc373) (fun _ => ?_)
                      refine lv_iconst (v := (0 : Int32)) X.1 X.2.1 dd_lx_law_376 (by decide) ?_
                      exact absurd (st_r_some h).1 (by decide)
                  · by_cases hc42_8 : (t46 &&& (31 : Int32)) = (8 : Int32)
                    · rw [if_neg hc42_0, if_neg hc42_1, if_neg hc42_2, if_neg hc42_3, if_neg hc42_4, if_neg hc42_5, if_neg hc42_6, if_neg hc42_7, if_pos hc42_8] at h
                      refine lv_tableIn (tgt := 378) (off := 336) X.1 X.2.1 dd_lx_law_42 (by rw [hc42_8]; decide) (by rw [hc42_8]; decide) (by rw [hc42_8]; decide) (by decide) ?_
                      refine rr_aldn X dd_lx_law_378 rfl (lv_at hl.1 1 rfl) ?_
                      refine rr_aldn X dd_lx_law_379 rfl (lv_at hl.1 0 rfl) ?_
                      refine lv_iload_n X.1 X.2.1 dd_lx_law_380 rfl (lv_at hl.1 3 rfl) ?_
                      refine lv_iconst (v := (1 : Int32)) X.1 X.2.1 dd_lx_law_381 (by decide) ?_
                      refine lv_iadd X.1 X.2.1 dd_lx_law_382 ?_
                      obtain ⟨t221, ht221, h⟩ := st_g_some h
                      refine rr_xld X hKs hw ht221 dd_lx_law_383 ?_
                      obtain ⟨t240, ht240, h⟩ := st_g_some h
                      obtain ⟨t222, t223, t224, t225, t226, t227, ht222, h, ei, ej⟩ := st_b_some h
                      refine rr_callV (n := 1) (As := [(.int t221)]) (rest := []) X hw (kn_ok D ac a0 gl) hKs (kc_xP_inbox l D ac a0 gl p1 t221 _ _ _ _ _ ht222) tb_good tw_652 tw_91 tw_653 tw_654 se_83 ht240 (by decide +kernel) rfl (show 1 + 1 ≤ _ ∧ 8 + (2 + 11) + 21 ≤ _ from ⟨Nat.le_of_ble_eq_true rfl, Nat.le_of_ble_eq_true rfl⟩) ⟨Nat.le_trans (ar_1 hci ei) hTi, Nat.le_trans (ar_1 hcj ej) hTj⟩ hl.1.1 (by simp [rf_cat, ic_cat]) rfl dd_lx_law_384 (sk := [(.int t222)]) rfl (fun H locs hw => ?_)
                      have hci : cells + t224 + t226 = iT := ar_2 hci ei
                      have hcj : slots + t225 + t227 = jT := ar_2 hcj ej
                      clear ei ej
                      generalize cells + t224 = t228 at hci ⊢
                      generalize slots + t225 = t229 at hcj ⊢
                      refine rr_aldn X dd_lx_law_387 rfl (lv_at hl.1 2 rfl) ?_
                      refine rr_aldn X dd_lx_law_388 rfl (lv_at hl.1 0 rfl) ?_
                      refine lv_iload_n X.1 X.2.1 dd_lx_law_389 rfl (lv_at hl.1 3 rfl) ?_
                      refine lv_iconst (v := (1 : Int32)) X.1 X.2.1 dd_lx_law_390 (by decide) ?_
                      refine lv_iadd X.1 X.2.1 dd_lx_law_391 ?_
                      obtain ⟨t230, ht230, h⟩ := st_g_some h
                      refine rr_xld X hKs hw ht230 dd_lx_law_392 ?_
                      obtain ⟨t239, ht239, h⟩ := st_g_some h
                      obtain ⟨t231, t232, t233, t234, t235, t236, ht231, h, ei, ej⟩ := st_b_some h
                      refine rr_callV (n := 1) (As := [(.int t230)]) (rest := [(.int t222)]) X hw (kn_ok D ac a0 gl) hKs (kc_mm_inbox l D ac a0 gl p2 t230 _ _ _ _ _ ht231) tb_good tw_528 tw_469 tw_651 tw_530 se_57 ht239 (by decide +kernel) rfl (show 1 + 1 ≤ _ ∧ 8 + (4 + 11) + 21 ≤ _ from ⟨Nat.le_of_ble_eq_true rfl, Nat.le_of_ble_eq_true rfl⟩) ⟨Nat.le_trans (ar_1 hci ei) hTi, Nat.le_trans (ar_1 hcj ej) hTj⟩ hl.1.1 (by simp [rf_cat, ic_cat]) rfl dd_lx_law_393 (sk := [(.int t231), (.int t222)]) rfl (fun H locs hw => ?_)
                      have hci : t228 + t233 + t235 = iT := ar_2 hci ei
                      have hcj : t229 + t234 + t236 = jT := ar_2 hcj ej
                      clear ei ej
                      generalize t228 + t233 = t237 at hci ⊢
                      generalize t229 + t234 = t238 at hcj ⊢
                      by_cases hc396 : t222 = t231
                      · rw [if_pos hc396] at h
                        refine lv_icmp_eq (tgt := 635) X.1 X.2.1 dd_lx_law_396 (by decide) (fun _ => ?_) (fun z => absurd hc396 z)
                        exact (kb_lx_law_b635 X hKs hlk hret hA0 hTi hTj hr28) (p0, p1, p2, p3) _ _ _ _ _ _ _ _ hw (lh_pk hl [0, 1, 2, 3] rfl) h hci hcj
                      · rw [if_neg hc396] at h
                        refine lv_icmp_eq (tgt := 635) X.1 X.2.1 dd_lx_law_396 (by decide) (fun z => absurd z hc396) (fun _ => ?_)
                        refine lv_iconst (v := (0 : Int32)) X.1 X.2.1 dd_lx_law_399 (by decide) ?_
                        exact absurd (st_r_some h).1 (by decide)
                    · by_cases hc42_9 : (t46 &&& (31 : Int32)) = (9 : Int32)
                      · rw [if_neg hc42_0, if_neg hc42_1, if_neg hc42_2, if_neg hc42_3, if_neg hc42_4, if_neg hc42_5, if_neg hc42_6, if_neg hc42_7, if_neg hc42_8, if_pos hc42_9] at h
                        refine lv_tableIn (tgt := 401) (off := 359) X.1 X.2.1 dd_lx_law_42 (by rw [hc42_9]; decide) (by rw [hc42_9]; decide) (by rw [hc42_9]; decide) (by decide) ?_
                        refine rr_aldn X dd_lx_law_401 rfl (lv_at hl.1 1 rfl) ?_
                        refine rr_aldn X dd_lx_law_402 rfl (lv_at hl.1 0 rfl) ?_
                        refine lv_iload_n X.1 X.2.1 dd_lx_law_403 rfl (lv_at hl.1 3 rfl) ?_
                        refine lv_iconst (v := (1 : Int32)) X.1 X.2.1 dd_lx_law_404 (by decide) ?_
                        refine lv_iadd X.1 X.2.1 dd_lx_law_405 ?_
                        obtain ⟨t241, ht241, h⟩ := st_g_some h
                        refine rr_xld X hKs hw ht241 dd_lx_law_406 ?_
                        refine rr_aldn X dd_lx_law_407 rfl (lv_at hl.1 0 rfl) ?_
                        refine lv_iload_n X.1 X.2.1 dd_lx_law_408 rfl (lv_at hl.1 3 rfl) ?_
                        refine lv_iconst (v := (2 : Int32)) X.1 X.2.1 dd_lx_law_409 (by decide) ?_
                        refine lv_iadd X.1 X.2.1 dd_lx_law_410 ?_
                        obtain ⟨t242, ht242, h⟩ := st_g_some h
                        refine rr_xld X hKs hw ht242 dd_lx_law_411 ?_
                        obtain ⟨t262, ht262, h⟩ := st_g_some h
                        obtain ⟨t243, t244, t245, t246, t247, t248, ht243, h, ei, ej⟩ := st_b_some h
                        refine rr_callV (n := 2) (As := [(.int t241), (.int t242)]) (rest := []) X hw (kn_ok D ac a0 gl) hKs (kc_xP_count l D ac a0 gl p1 t241 t242 _ _ _ _ _ ht243) tb_good tw_660 tw_91 tw_661 tw_662 se_85 ht262 (by decide +kernel) rfl (show 3 + 1 ≤ _ ∧ 8 + (5 + 11) + 66 ≤ _ from ⟨Nat.le_of_ble_eq_true rfl, Nat.le_of_ble_eq_true rfl⟩) ⟨Nat.le_trans (ar_1 hci ei) hTi, Nat.le_trans (ar_1 hcj ej) hTj⟩ hl.1.1 (by simp [rf_cat, ic_cat]) rfl dd_lx_law_412 (sk := [(.int t243)]) rfl (fun H locs hw => ?_)
                        have hci : cells + t245 + t247 = iT := ar_2 hci ei
                        have hcj : slots + t246 + t248 = jT := ar_2 hcj ej
                        clear ei ej
                        generalize cells + t245 = t249 at hci ⊢
                        generalize slots + t246 = t250 at hcj ⊢
                        refine rr_aldn X dd_lx_law_415 rfl (lv_at hl.1 2 rfl) ?_
                        refine rr_aldn X dd_lx_law_416 rfl (lv_at hl.1 0 rfl) ?_
                        refine lv_iload_n X.1 X.2.1 dd_lx_law_417 rfl (lv_at hl.1 3 rfl) ?_
                        refine lv_iconst (v := (1 : Int32)) X.1 X.2.1 dd_lx_law_418 (by decide) ?_
                        refine lv_iadd X.1 X.2.1 dd_lx_law_419 ?_
                        obtain ⟨t251, ht251, h⟩ := st_g_some h
                        refine rr_xld X hKs hw ht251 dd_lx_law_420 ?_
                        refine rr_aldn X dd_lx_law_421 rfl (lv_at hl.1 0 rfl) ?_
                        refine lv_iload_n X.1 X.2.1 dd_lx_law_422 rfl (lv_at hl.1 3 rfl) ?_
                        refine lv_iconst (v := (2 : Int32)) X.1 X.2.1 dd_lx_law_423 (by decide) ?_
                        refine lv_iadd X.1 X.2.1 dd_lx_law_424 ?_
                        obtain ⟨t252, ht252, h⟩ := st_g_some h
                        refine rr_xld X hKs hw ht252 dd_lx_law_425 ?_
                        obtain ⟨t261, ht261, h⟩ := st_g_some h
                        obtain ⟨t253, t254, t255, t256, t257, t258, ht253, h, ei, ej⟩ := st_b_some h
                        refine rr_callV (n := 2) (As := [(.int t251), (.int t252)]) (rest := [(.int t243)]) X hw (kn_ok D ac a0 gl) hKs (kc_mm_count l D ac a0 gl p2 t251 t252 _ _ _ _ _ ht253) tb_good tw_656 tw_469 tw_657 tw_658 se_84 ht261 (by decide +kernel) rfl (show 3 + 1 ≤ _ ∧ 8 + (6 + 11) + 65 ≤ _ from ⟨Nat.le_of_ble_eq_true rfl, Nat.le_of_ble_eq_true rfl⟩) ⟨Nat.le_trans (ar_1 hci ei) hTi, Nat.le_trans (ar_1 hcj ej) hTj⟩ hl.1.1 (by simp [rf_cat, ic_cat]) rfl dd_lx_law_426 (sk := [(.int t253), (.int t243)]) rfl (fun H locs hw => ?_)
                        have hci : t249 + t255 + t257 = iT := ar_2 hci ei
                        have hcj : t250 + t256 + t258 = jT := ar_2 hcj ej
                        clear ei ej
                        generalize t249 + t255 = t259 at hci ⊢
                        generalize t250 + t256 = t260 at hcj ⊢
                        by_cases hc429 : t243 = t253
                        · rw [if_pos hc429] at h
                          refine lv_icmp_eq (tgt := 635) X.1 X.2.1 dd_lx_law_429 (by decide) (fun _ => ?_) (fun z => absurd hc429 z)
                          exact (kb_lx_law_b635 X hKs hlk hret hA0 hTi hTj hr28) (p0, p1, p2, p3) _ _ _ _ _ _ _ _ hw (lh_pk hl [0, 1, 2, 3] rfl) h hci hcj
                        · rw [if_neg hc429] at h
                          refine lv_icmp_eq (tgt := 635) X.1 X.2.1 dd_lx_law_429 (by decide) (fun z => absurd z hc429) (fun _ => ?_)
                          refine lv_iconst (v := (0 : Int32)) X.1 X.2.1 dd_lx_law_432 (by decide) ?_
                          exact absurd (st_r_some h).1 (by decide)
                      · by_cases hc42_10 : (t46 &&& (31 : Int32)) = (10 : Int32)
                        · rw [if_neg hc42_0, if_neg hc42_1, if_neg hc42_2, if_neg hc42_3, if_neg hc42_4, if_neg hc42_5, if_neg hc42_6, if_neg hc42_7, if_neg hc42_8, if_neg hc42_9, if_pos hc42_10] at h
                          refine lv_tableIn (tgt := 434) (off := 392) X.1 X.2.1 dd_lx_law_42 (by rw [hc42_10]; decide) (by rw [hc42_10]; decide) (by rw [hc42_10]; decide) (by decide) ?_
                          refine rr_aldn X dd_lx_law_434 rfl (lv_at hl.1 1 rfl) ?_
                          refine rr_aldn X dd_lx_law_435 rfl (lv_at hl.1 0 rfl) ?_
                          refine lv_iload_n X.1 X.2.1 dd_lx_law_436 rfl (lv_at hl.1 3 rfl) ?_
                          refine lv_iconst (v := (1 : Int32)) X.1 X.2.1 dd_lx_law_437 (by decide) ?_
                          refine lv_iadd X.1 X.2.1 dd_lx_law_438 ?_
                          obtain ⟨t263, ht263, h⟩ := st_g_some h
                          refine rr_xld X hKs hw ht263 dd_lx_law_439 ?_
                          refine rr_aldn X dd_lx_law_440 rfl (lv_at hl.1 0 rfl) ?_
                          refine lv_iload_n X.1 X.2.1 dd_lx_law_441 rfl (lv_at hl.1 3 rfl) ?_
                          refine lv_iconst (v := (2 : Int32)) X.1 X.2.1 dd_lx_law_442 (by decide) ?_
                          refine lv_iadd X.1 X.2.1 dd_lx_law_443 ?_
                          obtain ⟨t264, ht264, h⟩ := st_g_some h
                          refine rr_xld X hKs hw ht264 dd_lx_law_444 ?_
                          obtain ⟨t284, ht284, h⟩ := st_g_some h
                          obtain ⟨t265, t266, t267, t268, t269, t270, ht265, h, ei, ej⟩ := st_b_some h
                          refine rr_callV (n := 2) (As := [(.int t263), (.int t264)]) (rest := []) X hw (kn_ok D ac a0 gl) hKs (kc_xP_imported l D ac a0 gl p1 t263 t264 _ _ _ _ _ ht265) tb_good tw_668 tw_91 tw_669 tw_670 se_87 ht284 (by decide +kernel) rfl (show 1 + 1 ≤ _ ∧ 8 + (4 + 11) + 21 ≤ _ from ⟨Nat.le_of_ble_eq_true rfl, Nat.le_of_ble_eq_true rfl⟩) ⟨Nat.le_trans (ar_1 hci ei) hTi, Nat.le_trans (ar_1 hcj ej) hTj⟩ hl.1.1 (by simp [rf_cat, ic_cat]) rfl dd_lx_law_445 (sk := [(.int t265)]) rfl (fun H locs hw => ?_)
                          have hci : cells + t267 + t269 = iT := ar_2 hci ei
                          have hcj : slots + t268 + t270 = jT := ar_2 hcj ej
                          clear ei ej
                          generalize cells + t267 = t271 at hci ⊢
                          generalize slots + t268 = t272 at hcj ⊢
                          refine rr_aldn X dd_lx_law_448 rfl (lv_at hl.1 2 rfl) ?_
                          refine rr_aldn X dd_lx_law_449 rfl (lv_at hl.1 0 rfl) ?_
                          refine lv_iload_n X.1 X.2.1 dd_lx_law_450 rfl (lv_at hl.1 3 rfl) ?_
                          refine lv_iconst (v := (1 : Int32)) X.1 X.2.1 dd_lx_law_451 (by decide) ?_
                          refine lv_iadd X.1 X.2.1 dd_lx_law_452 ?_
                          obtain ⟨t273, ht273, h⟩ := st_g_some h
                          refine rr_xld X hKs hw ht273 dd_lx_law_453 ?_
                          refine rr_aldn X dd_lx_law_454 rfl (lv_at hl.1 0 rfl) ?_
                          refine lv_iload_n X.1 X.2.1 dd_lx_law_455 rfl (lv_at hl.1 3 rfl) ?_
                          refine lv_iconst (v := (2 : Int32)) X.1 X.2.1 dd_lx_law_456 (by decide) ?_
                          refine lv_iadd X.1 X.2.1 dd_lx_law_457 ?_
                          obtain ⟨t274, ht274, h⟩ := st_g_some h
                          refine rr_xld X hKs hw ht274 dd_lx_law_458 ?_
                          obtain ⟨t283, ht283, h⟩ := st_g_some h
                          obtain ⟨t275, t276, t277, t278, t279, t280, ht275, h, ei, ej⟩ := st_b_some h
                          refine rr_callV (n := 2) (As := [(.int t273), (.int t274)]) (rest := [(.int t265)]) X hw (kn_ok D ac a0 gl) hKs (kc_mm_imported l D ac a0 gl p2 t273 t274 _ _ _ _ _ ht275) tb_good tw_664 tw_469 tw_665 tw_666 se_86 ht283 (by decide +kernel) rfl (show 1 + 1 ≤ _ ∧ 8 + (3 + 11) + 21 ≤ _ from ⟨Nat.le_of_ble_eq_true rfl, Nat.le_of_ble_eq_true rfl⟩) ⟨Nat.le_trans (ar_1 hci ei) hTi, Nat.le_trans (ar_1 hcj ej) hTj⟩ hl.1.1 (by simp [rf_cat, ic_cat]) rfl dd_lx_law_459 (sk := [(.int t275), (.int t265)]) rfl (fun H locs hw => ?_)
                          have hci : t271 + t277 + t279 = iT := ar_2 hci ei
                          have hcj : t272 + t278 + t280 = jT := ar_2 hcj ej
                          clear ei ej
                          generalize t271 + t277 = t281 at hci ⊢
                          generalize t272 + t278 = t282 at hcj ⊢
                          by_cases hc462 : t265 = t275
                          · rw [if_pos hc462] at h
                            refine lv_icmp_eq (tgt := 635) X.1 X.2.1 dd_lx_law_462 (by decide) (fun _ => ?_) (fun z => absurd hc462 z)
                            exact (kb_lx_law_b635 X hKs hlk hret hA0 hTi hTj hr28) (p0, p1, p2, p3) _ _ _ _ _ _ _ _ hw (lh_pk hl [0, 1, 2, 3] rfl) h hci hcj
                          · rw [if_neg hc462] at h
                            refine lv_icmp_eq (tgt := 635) X.1 X.2.1 dd_lx_law_462 (by decide) (fun z => absurd z hc462) (fun _ => ?_)
                            refine lv_iconst (v := (0 : Int32)) X.1 X.2.1 dd_lx_law_465 (by decide) ?_
                            exact absurd (st_r_some h).1 (by decide)
                        · by_cases hc42_11 : (t46 &&& (31 : Int32)) = (11 : Int32)
                          · rw [if_neg hc42_0, if_neg hc42_1, if_neg hc42_2, if_neg hc42_3, if_neg hc42_4, if_neg hc42_5, if_neg hc42_6, if_neg hc42_7, if_neg hc42_8, if_neg hc42_9, if_neg hc42_10, if_pos hc42_11] at h
                            refine lv_tableIn (tgt := 467) (off := 425) X.1 X.2.1 dd_lx_law_42 (by rw [hc42_11]; decide) (by rw [hc42_11]; decide) (by rw [hc42_11]; decide) (by decide) ?_
                            refine rr_aldn X dd_lx_law_467 rfl (lv_at hl.1 1 rfl) ?_
                            refine rr_aldn X dd_lx_law_468 rfl (lv_at hl.1 0 rfl) ?_
                            refine lv_iload_n X.1 X.2.1 dd_lx_law_469 rfl (lv_at hl.1 3 rfl) ?_
                            refine lv_iconst (v := (1 : Int32)) X.1 X.2.1 dd_lx_law_470 (by decide) ?_
                            refine lv_iadd X.1 X.2.1 dd_lx_law_471 ?_
                            obtain ⟨t285, ht285, h⟩ := st_g_some h
                            refine rr_xld X hKs hw ht285 dd_lx_law_472 ?_
                            refine rr_aldn X dd_lx_law_473 rfl (lv_at hl.1 0 rfl) ?_
                            refine lv_iload_n X.1 X.2.1 dd_lx_law_474 rfl (lv_at hl.1 3 rfl) ?_
                            refine lv_iconst (v := (2 : Int32)) X.1 X.2.1 dd_lx_law_475 (by decide) ?_
                            refine lv_iadd X.1 X.2.1 dd_lx_law_476 ?_
                            obtain ⟨t286, ht286, h⟩ := st_g_some h
                            refine rr_xld X hKs hw ht286 dd_lx_law_477 ?_
                            obtain ⟨t306, ht306, h⟩ := st_g_some h
                            obtain ⟨t287, t288, t289, t290, t291, t292, ht287, h, ei, ej⟩ := st_b_some h
                            refine rr_callV (n := 2) (As := [(.int t285), (.int t286)]) (rest := []) X hw (kn_ok D ac a0 gl) hKs (kc_xP_exported l D ac a0 gl p1 t285 t286 _ _ _ _ _ ht287) tb_good tw_676 tw_91 tw_677 tw_678 se_89 ht306 (by decide +kernel) rfl (show 2 + 1 ≤ _ ∧ 8 + (4 + 11) + 43 ≤ _ from ⟨Nat.le_of_ble_eq_true rfl, Nat.le_of_ble_eq_true rfl⟩) ⟨Nat.le_trans (ar_1 hci ei) hTi, Nat.le_trans (ar_1 hcj ej) hTj⟩ hl.1.1 (by simp [rf_cat, ic_cat]) rfl dd_lx_law_478 (sk := [(.int t287)]) rfl (fun H locs hw => ?_)
                            have hci : cells + t289 + t291 = iT := ar_2 hci ei
                            have hcj : slots + t290 + t292 = jT := ar_2 hcj ej
                            clear ei ej
                            generalize cells + t289 = t293 at hci ⊢
                            generalize slots + t290 = t294 at hcj ⊢
                            refine rr_aldn X dd_lx_law_481 rfl (lv_at hl.1 2 rfl) ?_
                            refine rr_aldn X dd_lx_law_482 rfl (lv_at hl.1 0 rfl) ?_
                            refine lv_iload_n X.1 X.2.1 dd_lx_law_483 rfl (lv_at hl.1 3 rfl) ?_
                            refine lv_iconst (v := (1 : Int32)) X.1 X.2.1 dd_lx_law_484 (by decide) ?_
                            refine lv_iadd X.1 X.2.1 dd_lx_law_485 ?_
                            obtain ⟨t295, ht295, h⟩ := st_g_some h
                            refine rr_xld X hKs hw ht295 dd_lx_law_486 ?_
                            refine rr_aldn X dd_lx_law_487 rfl (lv_at hl.1 0 rfl) ?_
                            refine lv_iload_n X.1 X.2.1 dd_lx_law_488 rfl (lv_at hl.1 3 rfl) ?_
                            refine lv_iconst (v := (2 : Int32)) X.1 X.2.1 dd_lx_law_489 (by decide) ?_
                            refine lv_iadd X.1 X.2.1 dd_lx_law_490 ?_
                            obtain ⟨t296, ht296, h⟩ := st_g_some h
                            refine rr_xld X hKs hw ht296 dd_lx_law_491 ?_
                            obtain ⟨t305, ht305, h⟩ := st_g_some h
                            obtain ⟨t297, t298, t299, t300, t301, t302, ht297, h, ei, ej⟩ := st_b_some h
                            refine rr_callV (n := 2) (As := [(.int t295), (.int t296)]) (rest := [(.int t287)]) X hw (kn_ok D ac a0 gl) hKs (kc_mm_exported l D ac a0 gl p2 t295 t296 _ _ _ _ _ ht297) tb_good tw_672 tw_469 tw_673 tw_674 se_88 ht305 (by decide +kernel) rfl (show 2 + 1 ≤ _ ∧ 8 + (3 + 11) + 42 ≤ _ from ⟨Nat.le_of_ble_eq_true rfl, Nat.le_of_ble_eq_true rfl⟩) ⟨Nat.le_trans (ar_1 hci ei) hTi, Nat.le_trans (ar_1 hcj ej) hTj⟩ hl.1.1 (by simp [rf_cat, ic_cat]) rfl dd_lx_law_492 (sk := [(.int t297), (.int t287)]) rfl (fun H locs hw => ?_)
                            have hci : t293 + t299 + t301 = iT := ar_2 hci ei
                            have hcj : t294 + t300 + t302 = jT := ar_2 hcj ej
                            clear ei ej
                            generalize t293 + t299 = t303 at hci ⊢
                            generalize t294 + t300 = t304 at hcj ⊢
                            by_cases hc495 : t287 = t297
                            · rw [if_pos hc495] at h
                              refine lv_icmp_eq (tgt := 635) X.1 X.2.1 dd_lx_law_495 (by decide) (fun _ => ?_) (fun z => absurd hc495 z)
                              exact (kb_lx_law_b635 X hKs hlk hret hA0 hTi hTj hr28) (p0, p1, p2, p3) _ _ _ _ _ _ _ _ hw (lh_pk hl [0, 1, 2, 3] rfl) h hci hcj
                            · rw [if_neg hc495] at h
                              refine lv_icmp_eq (tgt := 635) X.1 X.2.1 dd_lx_law_495 (by decide) (fun z => absurd z hc495) (fun _ => ?_)
                              refine lv_iconst (v := (0 : Int32)) X.1 X.2.1 dd_lx_law_498 (by decide) ?_
                              exact absurd (st_r_some h).1 (by decide)
                          · by_cases hc42_12 : (t46 &&& (31 : Int32)) = (12 : Int32)
                            · rw [if_neg hc42_0, if_neg hc42_1, if_neg hc42_2, if_neg hc42_3, if_neg hc42_4, if_neg hc42_5, if_neg hc42_6, if_neg hc42_7, if_neg hc42_8, if_neg hc42_9, if_neg hc42_10, if_neg hc42_11, if_pos hc42_12] at h
                              refine lv_tableIn (tgt := 500) (off := 458) X.1 X.2.1 dd_lx_law_42 (by rw [hc42_12]; decide) (by rw [hc42_12]; decide) (by rw [hc42_12]; decide) (by decide) ?_
                              refine rr_aldn X dd_lx_law_500 rfl (lv_at hl.1 1 rfl) ?_
                              refine rr_aldn X dd_lx_law_501 rfl (lv_at hl.1 0 rfl) ?_
                              refine lv_iload_n X.1 X.2.1 dd_lx_law_502 rfl (lv_at hl.1 3 rfl) ?_
                              refine lv_iconst (v := (1 : Int32)) X.1 X.2.1 dd_lx_law_503 (by decide) ?_
                              refine lv_iadd X.1 X.2.1 dd_lx_law_504 ?_
                              obtain ⟨t307, ht307, h⟩ := st_g_some h
                              refine rr_xld X hKs hw ht307 dd_lx_law_505 ?_
                              obtain ⟨t326, ht326, h⟩ := st_g_some h
                              obtain ⟨t308, t309, t310, t311, t312, t313, ht308, h, ei, ej⟩ := st_b_some h
                              refine rr_callV (n := 1) (As := [(.int t307)]) (rest := []) X hw (kn_ok D ac a0 gl) hKs (kc_xP_home l D ac a0 gl p1 t307 _ _ _ _ _ ht308) tb_good tw_684 tw_91 tw_685 tw_686 se_91 ht326 (by decide +kernel) rfl (show 2 + 1 ≤ _ ∧ 8 + (3 + 11) + 43 ≤ _ from ⟨Nat.le_of_ble_eq_true rfl, Nat.le_of_ble_eq_true rfl⟩) ⟨Nat.le_trans (ar_1 hci ei) hTi, Nat.le_trans (ar_1 hcj ej) hTj⟩ hl.1.1 (by simp [rf_cat, ic_cat]) rfl dd_lx_law_506 (sk := [(.int t308)]) rfl (fun H locs hw => ?_)
                              have hci : cells + t310 + t312 = iT := ar_2 hci ei
                              have hcj : slots + t311 + t313 = jT := ar_2 hcj ej
                              clear ei ej
                              generalize cells + t310 = t314 at hci ⊢
                              generalize slots + t311 = t315 at hcj ⊢
                              refine rr_aldn X dd_lx_law_509 rfl (lv_at hl.1 2 rfl) ?_
                              refine rr_aldn X dd_lx_law_510 rfl (lv_at hl.1 0 rfl) ?_
                              refine lv_iload_n X.1 X.2.1 dd_lx_law_511 rfl (lv_at hl.1 3 rfl) ?_
                              refine lv_iconst (v := (1 : Int32)) X.1 X.2.1 dd_lx_law_512 (by decide) ?_
                              refine lv_iadd X.1 X.2.1 dd_lx_law_513 ?_
                              obtain ⟨t316, ht316, h⟩ := st_g_some h
                              refine rr_xld X hKs hw ht316 dd_lx_law_514 ?_
                              obtain ⟨t325, ht325, h⟩ := st_g_some h
                              obtain ⟨t317, t318, t319, t320, t321, t322, ht317, h, ei, ej⟩ := st_b_some h
                              refine rr_callV (n := 1) (As := [(.int t316)]) (rest := [(.int t308)]) X hw (kn_ok D ac a0 gl) hKs (kc_mm_home l D ac a0 gl p2 t316 _ _ _ _ _ ht317) tb_good tw_680 tw_469 tw_681 tw_682 se_90 ht325 (by decide +kernel) rfl (show 2 + 1 ≤ _ ∧ 8 + (2 + 11) + 42 ≤ _ from ⟨Nat.le_of_ble_eq_true rfl, Nat.le_of_ble_eq_true rfl⟩) ⟨Nat.le_trans (ar_1 hci ei) hTi, Nat.le_trans (ar_1 hcj ej) hTj⟩ hl.1.1 (by simp [rf_cat, ic_cat]) rfl dd_lx_law_515 (sk := [(.int t317), (.int t308)]) rfl (fun H locs hw => ?_)
                              have hci : t314 + t319 + t321 = iT := ar_2 hci ei
                              have hcj : t315 + t320 + t322 = jT := ar_2 hcj ej
                              clear ei ej
                              generalize t314 + t319 = t323 at hci ⊢
                              generalize t315 + t320 = t324 at hcj ⊢
                              by_cases hc518 : t308 = t317
                              · rw [if_pos hc518] at h
                                refine lv_icmp_eq (tgt := 635) X.1 X.2.1 dd_lx_law_518 (by decide) (fun _ => ?_) (fun z => absurd hc518 z)
                                exact (kb_lx_law_b635 X hKs hlk hret hA0 hTi hTj hr28) (p0, p1, p2, p3) _ _ _ _ _ _ _ _ hw (lh_pk hl [0, 1, 2, 3] rfl) h hci hcj
                              · rw [if_neg hc518] at h
                                refine lv_icmp_eq (tgt := 635) X.1 X.2.1 dd_lx_law_518 (by decide) (fun z => absurd z hc518) (fun _ => ?_)
                                refine lv_iconst (v := (0 : Int32)) X.1 X.2.1 dd_lx_law_521 (by decide) ?_
                                exact absurd (st_r_some h).1 (by decide)
                            · by_cases hc42_13 : (t46 &&& (31 : Int32)) = (13 : Int32)
                              · rw [if_neg hc42_0, if_neg hc42_1, if_neg hc42_2, if_neg hc42_3, if_neg hc42_4, if_neg hc42_5, if_neg hc42_6, if_neg hc42_7, if_neg hc42_8, if_neg hc42_9, if_neg hc42_10, if_neg hc42_11, if_neg hc42_12, if_pos hc42_13] at h
                                refine lv_tableIn (tgt := 523) (off := 481) X.1 X.2.1 dd_lx_law_42 (by rw [hc42_13]; decide) (by rw [hc42_13]; decide) (by rw [hc42_13]; decide) (by decide) ?_
                                refine rr_aldn X dd_lx_law_523 rfl (lv_at hl.1 1 rfl) ?_
                                refine rr_aldn X dd_lx_law_524 rfl (lv_at hl.1 0 rfl) ?_
                                refine lv_iload_n X.1 X.2.1 dd_lx_law_525 rfl (lv_at hl.1 3 rfl) ?_
                                refine lv_iconst (v := (1 : Int32)) X.1 X.2.1 dd_lx_law_526 (by decide) ?_
                                refine lv_iadd X.1 X.2.1 dd_lx_law_527 ?_
                                obtain ⟨t327, ht327, h⟩ := st_g_some h
                                refine rr_xld X hKs hw ht327 dd_lx_law_528 ?_
                                refine rr_aldn X dd_lx_law_529 rfl (lv_at hl.1 0 rfl) ?_
                                refine lv_iload_n X.1 X.2.1 dd_lx_law_530 rfl (lv_at hl.1 3 rfl) ?_
                                refine lv_iconst (v := (2 : Int32)) X.1 X.2.1 dd_lx_law_531 (by decide) ?_
                                refine lv_iadd X.1 X.2.1 dd_lx_law_532 ?_
                                obtain ⟨t328, ht328, h⟩ := st_g_some h
                                refine rr_xld X hKs hw ht328 dd_lx_law_533 ?_
                                obtain ⟨t348, ht348, h⟩ := st_g_some h
                                obtain ⟨t329, t330, t331, t332, t333, t334, ht329, h, ei, ej⟩ := st_b_some h
                                refine rr_callV (n := 2) (As := [(.int t327), (.int t328)]) (rest := []) X hw (kn_ok D ac a0 gl) hKs (kc_xP_slot l D ac a0 gl p1 t327 t328 _ _ _ _ _ ht329) tb_good tw_692 tw_91 tw_693 tw_694 se_93 ht348 (by decide +kernel) rfl (show 2 + 1 ≤ _ ∧ 8 + (5 + 11) + 43 ≤ _ from ⟨Nat.le_of_ble_eq_true rfl, Nat.le_of_ble_eq_true rfl⟩) ⟨Nat.le_trans (ar_1 hci ei) hTi, Nat.le_trans (ar_1 hcj ej) hTj⟩ hl.1.1 (by simp [rf_cat, ic_cat]) rfl dd_lx_law_534 (sk := [(.int t329)]) rfl (fun H locs hw => ?_)
                                have hci : cells + t331 + t333 = iT := ar_2 hci ei
                                have hcj : slots + t332 + t334 = jT := ar_2 hcj ej
                                clear ei ej
                                generalize cells + t331 = t335 at hci ⊢
                                generalize slots + t332 = t336 at hcj ⊢
                                refine rr_aldn X dd_lx_law_537 rfl (lv_at hl.1 2 rfl) ?_
                                refine rr_aldn X dd_lx_law_538 rfl (lv_at hl.1 0 rfl) ?_
                                refine lv_iload_n X.1 X.2.1 dd_lx_law_539 rfl (lv_at hl.1 3 rfl) ?_
                                refine lv_iconst (v := (1 : Int32)) X.1 X.2.1 dd_lx_law_540 (by decide) ?_
                                refine lv_iadd X.1 X.2.1 dd_lx_law_541 ?_
                                obtain ⟨t337, ht337, h⟩ := st_g_some h
                                refine rr_xld X hKs hw ht337 dd_lx_law_542 ?_
                                refine rr_aldn X dd_lx_law_543 rfl (lv_at hl.1 0 rfl) ?_
                                refine lv_iload_n X.1 X.2.1 dd_lx_law_544 rfl (lv_at hl.1 3 rfl) ?_
                                refine lv_iconst (v := (2 : Int32)) X.1 X.2.1 dd_lx_law_545 (by decide) ?_
                                refine lv_iadd X.1 X.2.1 dd_lx_law_546 ?_
                                obtain ⟨t338, ht338, h⟩ := st_g_some h
                                refine rr_xld X hKs hw ht338 dd_lx_law_547 ?_
                                obtain ⟨t347, ht347, h⟩ := st_g_some h
                                obtain ⟨t339, t340, t341, t342, t343, t344, ht339, h, ei, ej⟩ := st_b_some h
                                refine rr_callV (n := 2) (As := [(.int t337), (.int t338)]) (rest := [(.int t329)]) X hw (kn_ok D ac a0 gl) hKs (kc_mm_slot l D ac a0 gl p2 t337 t338 _ _ _ _ _ ht339) tb_good tw_688 tw_469 tw_689 tw_690 se_92 ht347 (by decide +kernel) rfl (show 2 + 1 ≤ _ ∧ 8 + (3 + 11) + 42 ≤ _ from ⟨Nat.le_of_ble_eq_true rfl, Nat.le_of_ble_eq_true rfl⟩) ⟨Nat.le_trans (ar_1 hci ei) hTi, Nat.le_trans (ar_1 hcj ej) hTj⟩ hl.1.1 (by simp [rf_cat, ic_cat]) rfl dd_lx_law_548 (sk := [(.int t339), (.int t329)]) rfl (fun H locs hw => ?_)
                                have hci : t335 + t341 + t343 = iT := ar_2 hci ei
                                have hcj : t336 + t342 + t344 = jT := ar_2 hcj ej
                                clear ei ej
                                generalize t335 + t341 = t345 at hci ⊢
                                generalize t336 + t342 = t346 at hcj ⊢
                                by_cases hc551 : t329 = t339
                                · rw [if_pos hc551] at h
                                  refine lv_icmp_eq (tgt := 635) X.1 X.2.1 dd_lx_law_551 (by decide) (fun _ => ?_) (fun z => absurd hc551 z)
                                  exact (kb_lx_law_b635 X hKs hlk hret hA0 hTi hTj hr28) (p0, p1, p2, p3) _ _ _ _ _ _ _ _ hw (lh_pk hl [0, 1, 2, 3] rfl) h hci hcj
                                · rw [if_neg hc551] at h
                                  refine lv_icmp_eq (tgt := 635) X.1 X.2.1 dd_lx_law_551 (by decide) (fun z => absurd z hc551) (fun _ => ?_)
                                  refine lv_iconst (v := (0 : Int32)) X.1 X.2.1 dd_lx_law_554 (by decide) ?_
                                  exact absurd (st_r_some h).1 (by decide)
                              · by_cases hc42_14 : (t46 &&& (31 : Int32)) = (14 : Int32)
                                · rw [if_neg hc42_0, if_neg hc42_1, if_neg hc42_2, if_neg hc42_3, if_neg hc42_4, if_neg hc42_5, if_neg hc42_6, if_neg hc42_7, if_neg hc42_8, if_neg hc42_9, if_neg hc42_10, if_neg hc42_11, if_neg hc42_12, if_neg hc42_13, if_pos hc42_14] at h
                                  refine lv_tableIn (tgt := 556) (off := 514) X.1 X.2.1 dd_lx_law_42 (by rw [hc42_14]; decide) (by rw [hc42_14]; decide) (by rw [hc42_14]; decide) (by decide) ?_
                                  refine rr_aldn X dd_lx_law_556 rfl (lv_at hl.1 1 rfl) ?_
                                  refine rr_aldn X dd_lx_law_557 rfl (lv_at hl.1 0 rfl) ?_
                                  refine lv_iload_n X.1 X.2.1 dd_lx_law_558 rfl (lv_at hl.1 3 rfl) ?_
                                  refine lv_iconst (v := (1 : Int32)) X.1 X.2.1 dd_lx_law_559 (by decide) ?_
                                  refine lv_iadd X.1 X.2.1 dd_lx_law_560 ?_
                                  obtain ⟨t349, ht349, h⟩ := st_g_some h
                                  refine rr_xld X hKs hw ht349 dd_lx_law_561 ?_
                                  obtain ⟨t368, ht368, h⟩ := st_g_some h
                                  obtain ⟨t350, t351, t352, t353, t354, t355, ht350, h, ei, ej⟩ := st_b_some h
                                  refine rr_callV (n := 1) (As := [(.int t349)]) (rest := []) X hw (kn_ok D ac a0 gl) hKs (kc_xP_number l D ac a0 gl p1 t349 _ _ _ _ _ ht350) tb_good tw_700 tw_91 tw_701 tw_702 se_95 ht368 (by decide +kernel) rfl (show 2 + 1 ≤ _ ∧ 8 + (4 + 11) + 43 ≤ _ from ⟨Nat.le_of_ble_eq_true rfl, Nat.le_of_ble_eq_true rfl⟩) ⟨Nat.le_trans (ar_1 hci ei) hTi, Nat.le_trans (ar_1 hcj ej) hTj⟩ hl.1.1 (by simp [rf_cat, ic_cat]) rfl dd_lx_law_562 (sk := [(.int t350)]) rfl (fun H locs hw => ?_)
                                  have hci : cells + t352 + t354 = iT := ar_2 hci ei
                                  have hcj : slots + t353 + t355 = jT := ar_2 hcj ej
                                  clear ei ej
                                  generalize cells + t352 = t356 at hci ⊢
                                  generalize slots + t353 = t357 at hcj ⊢
                                  refine rr_aldn X dd_lx_law_565 rfl (lv_at hl.1 2 rfl) ?_
                                  refine rr_aldn X dd_lx_law_566 rfl (lv_at hl.1 0 rfl) ?_
                                  refine lv_iload_n X.1 X.2.1 dd_lx_law_567 rfl (lv_at hl.1 3 rfl) ?_
                                  refine lv_iconst (v := (1 : Int32)) X.1 X.2.1 dd_lx_law_568 (by decide) ?_
                                  refine lv_iadd X.1 X.2.1 dd_lx_law_569 ?_
                                  obtain ⟨t358, ht358, h⟩ := st_g_some h
                                  refine rr_xld X hKs hw ht358 dd_lx_law_570 ?_
                                  obtain ⟨t367, ht367, h⟩ := st_g_some h
                                  obtain ⟨t359, t360, t361, t362, t363, t364, ht359, h, ei, ej⟩ := st_b_some h
                                  refine rr_callV (n := 1) (As := [(.int t358)]) (rest := [(.int t350)]) X hw (kn_ok D ac a0 gl) hKs (kc_mm_number l D ac a0 gl p2 t358 _ _ _ _ _ ht359) tb_good tw_696 tw_469 tw_697 tw_698 se_94 ht367 (by decide +kernel) rfl (show 2 + 1 ≤ _ ∧ 8 + (2 + 11) + 42 ≤ _ from ⟨Nat.le_of_ble_eq_true rfl, Nat.le_of_ble_eq_true rfl⟩) ⟨Nat.le_trans (ar_1 hci ei) hTi, Nat.le_trans (ar_1 hcj ej) hTj⟩ hl.1.1 (by simp [rf_cat, ic_cat]) rfl dd_lx_law_571 (sk := [(.int t359), (.int t350)]) rfl (fun H locs hw => ?_)
                                  have hci : t356 + t361 + t363 = iT := ar_2 hci ei
                                  have hcj : t357 + t362 + t364 = jT := ar_2 hcj ej
                                  clear ei ej
                                  generalize t356 + t361 = t365 at hci ⊢
                                  generalize t357 + t362 = t366 at hcj ⊢
                                  by_cases hc574 : t350 = t359
                                  · rw [if_pos hc574] at h
                                    refine lv_icmp_eq (tgt := 635) X.1 X.2.1 dd_lx_law_574 (by decide) (fun _ => ?_) (fun z => absurd hc574 z)
                                    exact (kb_lx_law_b635 X hKs hlk hret hA0 hTi hTj hr28) (p0, p1, p2, p3) _ _ _ _ _ _ _ _ hw (lh_pk hl [0, 1, 2, 3] rfl) h hci hcj
                                  · rw [if_neg hc574] at h
                                    refine lv_icmp_eq (tgt := 635) X.1 X.2.1 dd_lx_law_574 (by decide) (fun z => absurd z hc574) (fun _ => ?_)
                                    refine lv_iconst (v := (0 : Int32)) X.1 X.2.1 dd_lx_law_577 (by decide) ?_
                                    exact absurd (st_r_some h).1 (by decide)
                                · by_cases hc42_15 : (t46 &&& (31 : Int32)) = (15 : Int32)
                                  · rw [if_neg hc42_0, if_neg hc42_1, if_neg hc42_2, if_neg hc42_3, if_neg hc42_4, if_neg hc42_5, if_neg hc42_6, if_neg hc42_7, if_neg hc42_8, if_neg hc42_9, if_neg hc42_10, if_neg hc42_11, if_neg hc42_12, if_neg hc42_13, if_neg hc42_14, if_pos hc42_15] at h
                                    refine lv_tableIn (tgt := 579) (off := 537) X.1 X.2.1 dd_lx_law_42 (by rw [hc42_15]; decide) (by rw [hc42_15]; decide) (by rw [hc42_15]; decide) (by decide) ?_
                                    refine rr_aldn X dd_lx_law_579 rfl (lv_at hl.1 1 rfl) ?_
                                    refine rr_aldn X dd_lx_law_580 rfl (lv_at hl.1 0 rfl) ?_
                                    refine lv_iload_n X.1 X.2.1 dd_lx_law_581 rfl (lv_at hl.1 3 rfl) ?_
                                    refine lv_iconst (v := (1 : Int32)) X.1 X.2.1 dd_lx_law_582 (by decide) ?_
                                    refine lv_iadd X.1 X.2.1 dd_lx_law_583 ?_
                                    obtain ⟨t369, ht369, h⟩ := st_g_some h
                                    refine rr_xld X hKs hw ht369 dd_lx_law_584 ?_
                                    obtain ⟨t388, ht388, h⟩ := st_g_some h
                                    obtain ⟨t370, t371, t372, t373, t374, t375, ht370, h, ei, ej⟩ := st_b_some h
                                    refine rr_callV (n := 1) (As := [(.int t369)]) (rest := []) X hw (kn_ok D ac a0 gl) hKs (kc_xP_resolved l D ac a0 gl p1 t369 _ _ _ _ _ ht370) tb_good tw_708 tw_91 tw_709 tw_710 se_97 ht388 (by decide +kernel) rfl (show 2 + 1 ≤ _ ∧ 8 + (4 + 11) + 43 ≤ _ from ⟨Nat.le_of_ble_eq_true rfl, Nat.le_of_ble_eq_true rfl⟩) ⟨Nat.le_trans (ar_1 hci ei) hTi, Nat.le_trans (ar_1 hcj ej) hTj⟩ hl.1.1 (by simp [rf_cat, ic_cat]) rfl dd_lx_law_585 (sk := [(.int t370)]) rfl (fun H locs hw => ?_)
                                    have hci : cells + t372 + t374 = iT := ar_2 hci ei
                                    have hcj : slots + t373 + t375 = jT := ar_2 hcj ej
                                    clear ei ej
                                    generalize cells + t372 = t376 at hci ⊢
                                    generalize slots + t373 = t377 at hcj ⊢
                                    refine rr_aldn X dd_lx_law_588 rfl (lv_at hl.1 2 rfl) ?_
                                    refine rr_aldn X dd_lx_law_589 rfl (lv_at hl.1 0 rfl) ?_
                                    refine lv_iload_n X.1 X.2.1 dd_lx_law_590 rfl (lv_at hl.1 3 rfl) ?_
                                    refine lv_iconst (v := (1 : Int32)) X.1 X.2.1 dd_lx_law_591 (by decide) ?_
                                    refine lv_iadd X.1 X.2.1 dd_lx_law_592 ?_
                                    obtain ⟨t378, ht378, h⟩ := st_g_some h
                                    refine rr_xld X hKs hw ht378 dd_lx_law_593 ?_
                                    obtain ⟨t387, ht387, h⟩ := st_g_some h
                                    obtain ⟨t379, t380, t381, t382, t383, t384, ht379, h, ei, ej⟩ := st_b_some h
                                    refine rr_callV (n := 1) (As := [(.int t378)]) (rest := [(.int t370)]) X hw (kn_ok D ac a0 gl) hKs (kc_mm_resolved l D ac a0 gl p2 t378 _ _ _ _ _ ht379) tb_good tw_704 tw_469 tw_705 tw_706 se_96 ht387 (by decide +kernel) rfl (show 2 + 1 ≤ _ ∧ 8 + (2 + 11) + 42 ≤ _ from ⟨Nat.le_of_ble_eq_true rfl, Nat.le_of_ble_eq_true rfl⟩) ⟨Nat.le_trans (ar_1 hci ei) hTi, Nat.le_trans (ar_1 hcj ej) hTj⟩ hl.1.1 (by simp [rf_cat, ic_cat]) rfl dd_lx_law_594 (sk := [(.int t379), (.int t370)]) rfl (fun H locs hw => ?_)
                                    have hci : t376 + t381 + t383 = iT := ar_2 hci ei
                                    have hcj : t377 + t382 + t384 = jT := ar_2 hcj ej
                                    clear ei ej
                                    generalize t376 + t381 = t385 at hci ⊢
                                    generalize t377 + t382 = t386 at hcj ⊢
                                    by_cases hc597 : t370 = t379
                                    · rw [if_pos hc597] at h
                                      refine lv_icmp_eq (tgt := 635) X.1 X.2.1 dd_lx_law_597 (by decide) (fun _ => ?_) (fun z => absurd hc597 z)
                                      exact (kb_lx_law_b635 X hKs hlk hret hA0 hTi hTj hr28) (p0, p1, p2, p3) _ _ _ _ _ _ _ _ hw (lh_pk hl [0, 1, 2, 3] rfl) h hci hcj
                                    · rw [if_neg hc597] at h
                                      refine lv_icmp_eq (tgt := 635) X.1 X.2.1 dd_lx_law_597 (by decide) (fun z => absurd z hc597) (fun _ => ?_)
                                      refine lv_iconst (v := (0 : Int32)) X.1 X.2.1 dd_lx_law_600 (by decide) ?_
                                      exact absurd (st_r_some h).1 (by decide)
                                  · by_cases hc42_16 : (t46 &&& (31 : Int32)) = (16 : Int32)
                                    · rw [if_neg hc42_0, if_neg hc42_1, if_neg hc42_2, if_neg hc42_3, if_neg hc42_4, if_neg hc42_5, if_neg hc42_6, if_neg hc42_7, if_neg hc42_8, if_neg hc42_9, if_neg hc42_10, if_neg hc42_11, if_neg hc42_12, if_neg hc42_13, if_neg hc42_14, if_neg hc42_15, if_pos hc42_16] at h
                                      refine lv_tableIn (tgt := 602) (off := 560) X.1 X.2.1 dd_lx_law_42 (by rw [hc42_16]; decide) (by rw [hc42_16]; decide) (by rw [hc42_16]; decide) (by decide) ?_
                                      refine rr_aldn X dd_lx_law_602 rfl (lv_at hl.1 1 rfl) ?_
                                      refine rr_aldn X dd_lx_law_603 rfl (lv_at hl.1 0 rfl) ?_
                                      refine lv_iload_n X.1 X.2.1 dd_lx_law_604 rfl (lv_at hl.1 3 rfl) ?_
                                      refine lv_iconst (v := (1 : Int32)) X.1 X.2.1 dd_lx_law_605 (by decide) ?_
                                      refine lv_iadd X.1 X.2.1 dd_lx_law_606 ?_
                                      obtain ⟨t389, ht389, h⟩ := st_g_some h
                                      refine rr_xld X hKs hw ht389 dd_lx_law_607 ?_
                                      refine rr_aldn X dd_lx_law_608 rfl (lv_at hl.1 0 rfl) ?_
                                      refine lv_iload_n X.1 X.2.1 dd_lx_law_609 rfl (lv_at hl.1 3 rfl) ?_
                                      refine lv_iconst (v := (2 : Int32)) X.1 X.2.1 dd_lx_law_610 (by decide) ?_
                                      refine lv_iadd X.1 X.2.1 dd_lx_law_611 ?_
                                      obtain ⟨t390, ht390, h⟩ := st_g_some h
                                      refine rr_xld X hKs hw ht390 dd_lx_law_612 ?_
                                      obtain ⟨t410, ht410, h⟩ := st_g_some h
                                      obtain ⟨t391, t392, t393, t394, t395, t396, ht391, h, ei, ej⟩ := st_b_some h
                                      refine rr_callV (n := 2) (As := [(.int t389), (.int t390)]) (rest := []) X hw (kn_ok D ac a0 gl) hKs (kc_xP_output l D ac a0 gl p1 t389 t390 _ _ _ _ _ ht391) tb_good tw_716 tw_91 tw_717 tw_718 se_99 ht410 (by decide +kernel) rfl (show 1 + 1 ≤ _ ∧ 8 + (3 + 11) + 21 ≤ _ from ⟨Nat.le_of_ble_eq_true rfl, Nat.le_of_ble_eq_true rfl⟩) ⟨Nat.le_trans (ar_1 hci ei) hTi, Nat.le_trans (ar_1 hcj ej) hTj⟩ hl.1.1 (by simp [rf_cat, ic_cat]) rfl dd_lx_law_613 (sk := [(.int t391)]) rfl (fun H locs hw => ?_)
                                      have hci : cells + t393 + t395 = iT := ar_2 hci ei
                                      have hcj : slots + t394 + t396 = jT := ar_2 hcj ej
                                      clear ei ej
                                      generalize cells + t393 = t397 at hci ⊢
                                      generalize slots + t394 = t398 at hcj ⊢
                                      refine rr_aldn X dd_lx_law_616 rfl (lv_at hl.1 2 rfl) ?_
                                      refine rr_aldn X dd_lx_law_617 rfl (lv_at hl.1 0 rfl) ?_
                                      refine lv_iload_n X.1 X.2.1 dd_lx_law_618 rfl (lv_at hl.1 3 rfl) ?_
                                      refine lv_iconst (v := (1 : Int32)) X.1 X.2.1 dd_lx_law_619 (by decide) ?_
                                      refine lv_iadd X.1 X.2.1 dd_lx_law_620 ?_
                                      obtain ⟨t399, ht399, h⟩ := st_g_some h
                                      refine rr_xld X hKs hw ht399 dd_lx_law_621 ?_
                                      refine rr_aldn X dd_lx_law_622 rfl (lv_at hl.1 0 rfl) ?_
                                      refine lv_iload_n X.1 X.2.1 dd_lx_law_623 rfl (lv_at hl.1 3 rfl) ?_
                                      refine lv_iconst (v := (2 : Int32)) X.1 X.2.1 dd_lx_law_624 (by decide) ?_
                                      refine lv_iadd X.1 X.2.1 dd_lx_law_625 ?_
                                      obtain ⟨t400, ht400, h⟩ := st_g_some h
                                      refine rr_xld X hKs hw ht400 dd_lx_law_626 ?_
                                      obtain ⟨t409, ht409, h⟩ := st_g_some h
                                      obtain ⟨t401, t402, t403, t404, t405, t406, ht401, h, ei, ej⟩ := st_b_some h
                                      refine rr_callV (n := 2) (As := [(.int t399), (.int t400)]) (rest := [(.int t391)]) X hw (kn_ok D ac a0 gl) hKs (kc_mm_output l D ac a0 gl p2 t399 t400 _ _ _ _ _ ht401) tb_good tw_712 tw_469 tw_713 tw_714 se_98 ht409 (by decide +kernel) rfl (show 1 + 1 ≤ _ ∧ 8 + (3 + 11) + 21 ≤ _ from ⟨Nat.le_of_ble_eq_true rfl, Nat.le_of_ble_eq_true rfl⟩) ⟨Nat.le_trans (ar_1 hci ei) hTi, Nat.le_trans (ar_1 hcj ej) hTj⟩ hl.1.1 (by simp [rf_cat, ic_cat]) rfl dd_lx_law_627 (sk := [(.int t401), (.int t391)]) rfl (fun H locs hw => ?_)
                                      have hci : t397 + t403 + t405 = iT := ar_2 hci ei
                                      have hcj : t398 + t404 + t406 = jT := ar_2 hcj ej
                                      clear ei ej
                                      generalize t397 + t403 = t407 at hci ⊢
                                      generalize t398 + t404 = t408 at hcj ⊢
                                      by_cases hc630 : t391 = t401
                                      · rw [if_pos hc630] at h
                                        refine lv_icmp_eq (tgt := 635) X.1 X.2.1 dd_lx_law_630 (by decide) (fun _ => ?_) (fun z => absurd hc630 z)
                                        exact (kb_lx_law_b635 X hKs hlk hret hA0 hTi hTj hr28) (p0, p1, p2, p3) _ _ _ _ _ _ _ _ hw (lh_pk hl [0, 1, 2, 3] rfl) h hci hcj
                                      · rw [if_neg hc630] at h
                                        refine lv_icmp_eq (tgt := 635) X.1 X.2.1 dd_lx_law_630 (by decide) (fun z => absurd z hc630) (fun _ => ?_)
                                        refine lv_iconst (v := (0 : Int32)) X.1 X.2.1 dd_lx_law_633 (by decide) ?_
                                        exact absurd (st_r_some h).1 (by decide)
                                    · rw [if_neg hc42_0, if_neg hc42_1, if_neg hc42_2, if_neg hc42_3, if_neg hc42_4, if_neg hc42_5, if_neg hc42_6, if_neg hc42_7, if_neg hc42_8, if_neg hc42_9, if_neg hc42_10, if_neg hc42_11, if_neg hc42_12, if_neg hc42_13, if_neg hc42_14, if_neg hc42_15, if_neg hc42_16] at h
                                      have zn0 := lv_neT hc42_0 (show ((0 : Int32)).toInt = 0 by decide)
                                      have zn1 := lv_neT hc42_1 (show ((1 : Int32)).toInt = 1 by decide)
                                      have zn2 := lv_neT hc42_2 (show ((2 : Int32)).toInt = 2 by decide)
                                      have zn3 := lv_neT hc42_3 (show ((3 : Int32)).toInt = 3 by decide)
                                      have zn4 := lv_neT hc42_4 (show ((4 : Int32)).toInt = 4 by decide)
                                      have zn5 := lv_neT hc42_5 (show ((5 : Int32)).toInt = 5 by decide)
                                      have zn6 := lv_neT hc42_6 (show ((6 : Int32)).toInt = 6 by decide)
                                      have zn7 := lv_neT hc42_7 (show ((7 : Int32)).toInt = 7 by decide)
                                      have zn8 := lv_neT hc42_8 (show ((8 : Int32)).toInt = 8 by decide)
                                      have zn9 := lv_neT hc42_9 (show ((9 : Int32)).toInt = 9 by decide)
                                      have zn10 := lv_neT hc42_10 (show ((10 : Int32)).toInt = 10 by decide)
                                      have zn11 := lv_neT hc42_11 (show ((11 : Int32)).toInt = 11 by decide)
                                      have zn12 := lv_neT hc42_12 (show ((12 : Int32)).toInt = 12 by decide)
                                      have zn13 := lv_neT hc42_13 (show ((13 : Int32)).toInt = 13 by decide)
                                      have zn14 := lv_neT hc42_14 (show ((14 : Int32)).toInt = 14 by decide)
                                      have zn15 := lv_neT hc42_15 (show ((15 : Int32)).toInt = 15 by decide)
                                      have zn16 := lv_neT hc42_16 (show ((16 : Int32)).toInt = 16 by decide)
                                      refine lv_tableOut (tgt := 635) X.1 X.2.1 dd_lx_law_42 (by omega) (by decide) ?_
                                      exact (kb_lx_law_b635 X hKs hlk hret hA0 hTi hTj hr28) (p0, p1, p2, p3) _ _ _ _ _ _ _ _ hw (lh_pk hl [0, 1, 2, 3] rfl) h hci hcj
set_option maxHeartbeats 8000000 in
set_option maxRecDepth 100000 in
theorem kl_lx_law {p : Program} {l : Launch} {e : Env} {s : State} {m : MethodId} {below : List Frame} {meth : Method} {c : Code} {D : va_G} {ac : Nat → ClassId} {a0 : Nat} {gl : gl_T} {stF : st_S} {iT jT : Nat} (v0 : Option Nat) (st : st_S) (h : lx_law gl v0 st = some (1, stF, iT, jT))
    (X : cx_ p s m #[Value.ref gl.2.2.1] c code 4 "PromiseVatsLaw" tb_ D cl_ (ty_ ac)) (hKs : kn_ D ac a0 gl s) (hlk : meth.locks = false) (hret : meth.sig.returnType = ret) (hA0 : s.heap.size = a0) (hTi : iT ≤ 600000) (hTj : jT ≤ 7302250) (ls : Array Slot) (hw : ww_ D cl_ ac a0 st s.heap s.heap []) (hl : lh_ ls 4 [(0, va_rf v0)]) :
    W p l e room_1 s m #[Value.ref gl.2.2.1] below meth c s.heap [] 0 0 (lw_Z below #[Value.ref gl.2.2.1] s) (F0 m 0 ls []) := by
  unfold lx_law at h
  obtain ⟨z0, hz0⟩ : ∃ z : Nat, 0 = z := ⟨0, rfl⟩
  obtain ⟨z1, hz1⟩ : ∃ z : Nat, 0 = z := ⟨0, rfl⟩
  refine W.cs hz0 hz1 ?_
  have hci : z0 + iT = iT := by omega
  have hcj : z1 + jT = jT := by omega
  obtain ⟨t43, t44, h, ei, ej⟩ := st_n_some h
  refine rr_new (fs := cd_0) X hw cf_0 cb_0 tw_588 tw_589 tw_91 ⟨Nat.le_trans (ar_1 hci ei) hTi, Nat.le_trans (ar_1 hcj ej) hTj⟩ dd_lx_law_0 (fun H hw => ?_)
  have hci : z0 + 1 + t43 = iT := ar_2 hci ei
  have hcj : z1 + 10 + t44 = jT := ar_2 hcj ej
  clear ei ej
  generalize z0 + 1 = t2 at hci ⊢
  generalize z1 + 10 = t3 at hcj ⊢
  generalize st.2 = t1 at h ⊢
  have h := h
  generalize (st_ad st (.inr (.inr (0, cd_0)))) = t4 at h hw
  refine lv_dup X.1 X.2.1 dd_lx_law_3 (rf_cat _) ?_
  refine rr_aldn X dd_lx_law_4 rfl (lv_at hl.1 0 rfl) ?_
  refine lv_iconst (v := (0 : Int32)) X.1 X.2.1 dd_lx_law_5 (by decide) ?_
  obtain ⟨t5, t6, t7, t8, t9, t10, ht5, h, ei, ej⟩ := st_b_some h
  refine rr_callS (n := 2) (As := [(va_rf v0), (.int (0 : Int32))]) (rest := [(va_rf (some t1)), (va_rf (some t1))]) X hw (kn_ok D ac a0 gl) hKs (kc_lx_cell l D ac a0 gl v0 (0 : Int32) _ _ _ _ _ ht5) tb_good tw_580 tw_579 tw_581 tw_582 (by decide +kernel) rfl (show 0 + 1 ≤ _ ∧ 8 + (2 + 11) + 0 ≤ _ from ⟨Nat.le_of_ble_eq_true rfl, Nat.le_of_ble_eq_true rfl⟩) ⟨Nat.le_trans (ar_1 hci ei) hTi, Nat.le_trans (ar_1 hcj ej) hTj⟩ hl.1.1 (by simp [rf_cat, ic_cat]) rfl dd_lx_law_6 (sk := [(.int t5), (va_rf (some t1)), (va_rf (some t1))]) rfl (fun H locs hw => ?_)
  have hci : t2 + t7 + t9 = iT := ar_2 hci ei
  have hcj : t3 + t8 + t10 = jT := ar_2 hcj ej
  clear ei ej
  generalize t2 + t7 = t11 at hci ⊢
  generalize t3 + t8 = t12 at hcj ⊢
  obtain ⟨t13, t14, t15, t16, t17, t18, ht13, h, ei, ej⟩ := st_b_some h
  refine rr_callI (n := 1) (b := t1) (As := [(.int t5)]) (rest := [(va_rf (some t1))]) X hw (kn_ok D ac a0 gl) hKs (kc_xP_init l D ac a0 gl (some t1) t5 _ _ _ _ _ ht13) tb_good tw_585 tw_91 tw_586 tw_587 rfl (by decide +kernel) rfl (show 6 + 1 ≤ _ ∧ 8 + (5 + 11) + 115 ≤ _ from ⟨Nat.le_of_ble_eq_true rfl, Nat.le_of_ble_eq_true rfl⟩) ⟨Nat.le_trans (ar_1 hci ei) hTi, Nat.le_trans (ar_1 hcj ej) hTj⟩ hl.1.1 (by simp [rf_cat, ic_cat]) rfl dd_lx_law_9 (sk := [(va_rf (some t1))]) rfl (fun H locs hw => ?_)
  have hci : t11 + t15 + t17 = iT := ar_2 hci ei
  have hcj : t12 + t16 + t18 = jT := ar_2 hcj ej
  clear ei ej
  generalize t11 + t15 = t19 at hci ⊢
  generalize t12 + t16 = t20 at hcj ⊢
  refine rr_astn (lv' := [(1, (va_rf (some t1))), (0, (va_rf v0))]) X dd_lx_law_12 rfl hl (by decide) rfl (fun ls hl => ?_)
  obtain ⟨t41, t42, h, ei, ej⟩ := st_n_some h
  refine rr_new (fs := cd_10) X hw cf_10 cb_10 tw_583 tw_584 tw_469 ⟨Nat.le_trans (ar_1 hci ei) hTi, Nat.le_trans (ar_1 hcj ej) hTj⟩ dd_lx_law_13 (fun H hw => ?_)
  have hci : t19 + 1 + t41 = iT := ar_2 hci ei
  have hcj : t20 + 36 + t42 = jT := ar_2 hcj ej
  clear ei ej
  generalize t19 + 1 = t22 at hci ⊢
  generalize t20 + 36 = t23 at hcj ⊢
  generalize t14.2 = t21 at h ⊢
  have h := h
  generalize (st_ad t14 (.inr (.inr (10, cd_10)))) = t24 at h hw
  refine lv_dup X.1 X.2.1 dd_lx_law_16 (rf_cat _) ?_
  refine rr_aldn X dd_lx_law_17 rfl (lv_at hl.1 1 rfl) ?_
  refine lv_iconst (v := (0 : Int32)) X.1 X.2.1 dd_lx_law_18 (by decide) ?_
  obtain ⟨t25, t26, t27, t28, t29, t30, ht25, h, ei, ej⟩ := st_b_some h
  refine rr_callS (n := 2) (As := [(va_rf v0), (.int (0 : Int32))]) (rest := [(va_rf (some t21)), (va_rf (some t21))]) X hw (kn_ok D ac a0 gl) hKs (kc_lx_cell l D ac a0 gl v0 (0 : Int32) _ _ _ _ _ ht25) tb_good tw_580 tw_579 tw_581 tw_582 (by decide +kernel) rfl (show 0 + 1 ≤ _ ∧ 8 + (2 + 11) + 0 ≤ _ from ⟨Nat.le_of_ble_eq_true rfl, Nat.le_of_ble_eq_true rfl⟩) ⟨Nat.le_trans (ar_1 hci ei) hTi, Nat.le_trans (ar_1 hcj ej) hTj⟩ hl.1.1 (by simp [rf_cat, ic_cat]) rfl dd_lx_law_19 (sk := [(.int t25), (va_rf (some t21)), (va_rf (some t21))]) rfl (fun H locs hw => ?_)
  have hci : t22 + t27 + t29 = iT := ar_2 hci ei
  have hcj : t23 + t28 + t30 = jT := ar_2 hcj ej
  clear ei ej
  generalize t22 + t27 = t31 at hci ⊢
  generalize t23 + t28 = t32 at hcj ⊢
  obtain ⟨t33, t34, t35, t36, t37, t38, ht33, h, ei, ej⟩ := st_b_some h
  refine rr_callI (n := 1) (b := t21) (As := [(.int t25)]) (rest := [(va_rf (some t21))]) X hw (kn_ok D ac a0 gl) hKs (kc_mm_init l D ac a0 gl (some t21) t25 _ _ _ _ _ ht33) tb_good tw_576 tw_469 tw_577 tw_578 rfl (by decide +kernel) rfl (show 1 + 1 ≤ _ ∧ 8 + (3 + 11) + 12 ≤ _ from ⟨Nat.le_of_ble_eq_true rfl, Nat.le_of_ble_eq_true rfl⟩) ⟨Nat.le_trans (ar_1 hci ei) hTi, Nat.le_trans (ar_1 hcj ej) hTj⟩ hl.1.1 (by simp [rf_cat, ic_cat]) rfl dd_lx_law_22 (sk := [(va_rf (some t21))]) rfl (fun H locs hw => ?_)
  have hci : t31 + t35 + t37 = iT := ar_2 hci ei
  have hcj : t32 + t36 + t38 = jT := ar_2 hcj ej
  clear ei ej
  generalize t31 + t35 = t39 at hci ⊢
  generalize t32 + t36 = t40 at hcj ⊢
  refine rr_astn (lv' := [(2, (va_rf (some t21))), (1, (va_rf (some t1))), (0, (va_rf v0))]) X dd_lx_law_25 rfl hl (by decide) rfl (fun ls hl => ?_)
  refine lv_iconst (v := (1 : Int32)) X.1 X.2.1 dd_lx_law_26 (by decide) ?_
  refine rr_istn (lv' := [(3, (.int (1 : Int32))), (2, (va_rf (some t21))), (1, (va_rf (some t1))), (0, (va_rf v0))]) X dd_lx_law_27 rfl hl (by decide) rfl (fun ls hl => ?_)
  exact (kb_lx_law_b28 X hKs hlk hret hA0 hTi hTj) (v0, (some t1), (some t21), (1 : Int32)) _ _ _ _ _ _ _ _ hw (lh_pk hl [3, 2, 1, 0] rfl) h hci hcj
