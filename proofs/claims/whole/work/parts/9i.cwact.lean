/-! The class: an instruction is performed. -/
section CAC
variable {gl : gl_T} {fx : fx_T} {ad : Nat × Nat → Nat} {W W' : cw_W} {st st' : st_S} {Z X : zz_S} {e a b s v L g u q t h p w ref c n f o r : Nat} {x op y k : Int32} {lost l : List Nat}
/-- what an instruction leaves: the state S before the lost answers are settled -/
def pq_ (gl : gl_T) (fx : fx_T) (l : List Nat) (ad : Nat × Nat → Nat) (W : cw_W) (st : st_S) (Z : zz_S) (v o : Nat) (op y : Int32) (A : (zz_S × Int32 × Nat) × Nat) : Prop :=
  ∃ ad' st' W' i j S, xP_perform gl (some (ad (0, 0))) (some (ad (4, 0))) op y st = some ((), st', i, j) ∧ CW gl fx ad' W' st' ∧ RW S.1 W' 50 ∧ lr_ ad' W' S.2 ∧ A.1.1 = z_done v S ∧ S.1.1 = A.1.1.1 ∧ qd_ l S ∧ cwT_ W' = (o, A.1.2.1, A.1.2.2, nI A.2) ∧ ag_ ad ad' W ∧ ky_ Z W S.1 W' ∧ i + (bk_ W + (zl_ Z).length) ≤ bk_ W' + (zl_ S.1).length + 6 ∧ j + (4 * bk_ W + 5 * (zl_ Z).length) ≤ 4 * bk_ W' + 5 * (zl_ S.1).length + 41
theorem xP_perform_ok (hl : l.Nodup) (hW : CW gl fx ad W st) (hR : RW Z W 50) (hL : lr_ ad W []) (hB : zB Z) (hH : zH Z) (hw8 : zW Z) (hi : zi_ l n Z) (hpk : zpk Z) (hn2 : n ≤ 2080) (hT : cwT_ W = (o, x, r, 0)) (ho : 1 ≤ o ∧ o ≤ zo_ Z) (hov : zh_ Z o = v) (hog : eg_ (ze_ Z o) = false) (hvn : v < zn_ Z) (hr : zk_K Z r) (hro : okr Z v r) (hop : zo_i (op, y)) (hlen : (zt_ Z v).length < 1000000) :
    pq_ gl fx l ad W st Z v o op y (z_act v o (Z, x, r) op y) := by
  have z1 := hB.1
  have hn4 := z1.2.1
  have h60 := z1.2.2.2.1
  have hn := RW_n hR
  have o0 : o ≠ 0 := by omega
  have ho1 : o ≤ 100 := by omega
  have hoK : zk_K Z o := zk_K4 (Or.inr (Or.inl ho))
  have hom : zk_made Z o = true := hoK.resolve_left o0
  have hod : cwd_ W o = true := by rw [hR.2.1 o]; exact hom
  have hoE : cwe_ W o = ze_ Z o := by rw [hR.2.2.1]
  have hat := ro_at hW hod ho1
  have hiA := zi_act (x := x) hl hi (show v < 4 by omega) ho hr hop
  have hBA := zB_act (x := x) hB hi.2.1.2.1 hpk (show v < 4 by omega) ho hov hog hro hr hop
  have at4 := at_4 hW
  rw [hT] at at4
  have t1 : so_gq (some (ad (4, 0))) [1] 0 st = some (some (ad (16, o))) := (og_q (q := rf_ ad o) at4 (by simp) rfl).trans (congrArg some (rf_s o0))
  have tx : so_gi (some (ad (4, 0))) [1] 1 st = some x := og_i at4 (by simp) rfl
  have tr : so_gq (some (ad (4, 0))) [1] 2 st = some (rf_ ad r) := og_q at4 (by simp) rfl
  have t20 : so_gq (some (ad (16, o))) [3] 2 st = some (some (ad (20, o))) := og_q (q := some (ad (20, o))) hat (by simp) rfl
  -- an instruction without a call
  have fin : ∀ (A : (zz_S × Int32 × Nat) × Nat) (st' : st_S) (W' : cw_W), zi_q l n Z A → zB_q v Z A.1 → xP_perform gl (some (ad (0, 0))) (some (ad (4, 0))) op y st = some ((), st', 0, 0) → CW gl fx ad W' st' → RW A.1.1 W' 50 → cwL_ W' = cwL_ W → zr_ A.1.1 = zr_ Z → zH A.1.1 → cwT_ W' = (o, A.1.2.1, A.1.2.2, nI A.2) → cwC_ W' = cwC_ W → bk_ W' = bk_ W → zl_ A.1.1 = zl_ Z → pq_ gl fx l ad W st Z v o op y A := by
    intro A st' W' q1 q2 q3 q4 q5 q6 q7 q8 q9 q10 q11 q12
    refine ⟨ad, st', W', 0, 0, (A.1.1, []), q3, q4, q5, ?_, rfl, rfl, ⟨q2.1, q8, q1.1.2.1.2.1, (fun q hq => by cases hq), zW_r hw8 q7, ?_⟩, q9, ag_i, ky_k (fun y c hc _ _ _ => by rw [q10]; exact hc) q1.2.2.1, ?_, ?_⟩
    · unfold lr_
      rw [q6]
      exact hL
    · show zphi_n l A.1.1 + 2 * 0 ≤ 2090
      have := q1.1.2.1.2.2
      omega
    · show 0 + _ ≤ bk_ W' + (zl_ A.1.1).length + 6
      rw [q11, q12]
      omega
    · show 0 + _ ≤ 4 * bk_ W' + 5 * (zl_ A.1.1).length + 41
      rw [q11, q12]
      omega
  unfold z_act at hiA hBA ⊢
  by_cases k0 : op = 0
  · rw [if_pos k0] at hiA hBA ⊢
    obtain ⟨st1, a1, a2⟩ := cu_T1 (x := y) hW
    rw [hT] at a2
    refine fin _ st1 _ hiA hBA ?_ a2 (RW_T hR) rfl rfl hH rfl rfl rfl rfl
    unfold xP_perform
    exact ru_g _ t1 (ru_t k0 (ru_w _ a1 rfl))
  rw [if_neg k0] at hiA hBA ⊢
  by_cases k1 : op = 1
  · rw [if_pos k1] at hiA hBA ⊢
    obtain ⟨st1, a1, a2⟩ := cu_T1 (x := x + en_ (ze_ Z o)) hW
    rw [hT] at a2
    refine fin _ st1 _ hiA hBA ?_ a2 (RW_T hR) rfl rfl hH rfl rfl rfl rfl
    unfold xP_perform
    refine ru_g _ t1 (ru_f k0 (ru_t k1 (ru_g _ tx (ru_g _ ((og_i hat (by simp) rfl).trans (by rw [hoE])) (ru_w _ a1 rfl)))))
  rw [if_neg k1] at hiA hBA ⊢
  by_cases k2 : op = 2
  · rw [if_pos k2] at hiA hBA ⊢
    obtain ⟨st1, a1, a2, -⟩ := cu_n (x := x) hW hod ho1
    rw [hoE] at a2
    refine fin _ st1 _ hiA hBA ?_ a2 (RW_e hR) rfl rfl (zH_s hH rfl (fun e => ?_)) hT rfl rfl rfl
    · unfold xP_perform
      exact ru_g _ t1 (ru_f k0 (ru_f k1 (ru_t k2 (ru_g _ tx (ru_w _ a1 rfl)))))
    · unfold zh_
      by_cases ce : e = o
      · subst ce
        rw [ze_s]
        rfl
      · rw [ze_n ce]
  rw [if_neg k2] at hiA hBA ⊢
  by_cases k3 : op = 3
  · rw [if_pos k3] at hiA hBA ⊢
    obtain ⟨s, hs, hy⟩ := hop.2.2.1 (Or.inl k3)
    have hy : y = nI s := hy
    subst hy
    rw [nI_clamp (by omega)] at hiA hBA ⊢
    obtain ⟨st1, a1, a2, -⟩ := cu_l (u := r) hW hod ho1 hs (RW_K hR hr)
    rw [hoE] at a2
    refine fin _ st1 _ hiA hBA ?_ a2 (RW_e hR) rfl rfl (zH_s hH rfl (fun e => ?_)) hT rfl rfl rfl
    · unfold xP_perform
      exact ru_g _ t1 (ru_f k0 (ru_f k1 (ru_f k2 (ru_t k3 (ru_g _ t20 (ru_g _ tr (ru_w _ a1 rfl)))))))
    · unfold zh_
      by_cases ce : e = o
      · subst ce
        rw [ze_s]
        rfl
      · rw [ze_n ce]
  rw [if_neg k3] at hiA hBA ⊢
  have slot : ∀ s, s < 4 → so_lq (some (ad (20, o))) [6] (nI s) st = some (rf_ ad (el_ (ze_ Z o) s)) := fun s hs => by
    have := og_lq (at_20 hW hod ho1) (ts := [6]) (by simp) hs (by decide)
    rw [hoE] at this
    exact this
  by_cases k4 : op = 4
  · rw [if_pos k4] at hiA hBA ⊢
    obtain ⟨s, hs, hy⟩ := hop.2.2.1 (Or.inr (Or.inl k4))
    have hy : y = nI s := hy
    subst hy
    rw [nI_clamp (by omega)] at hiA hBA ⊢
    obtain ⟨st1, a1, a2⟩ := cu_T2 (u := el_ (ze_ Z o) s) hW
    rw [hT] at a2
    refine fin _ st1 _ hiA hBA ?_ a2 (RW_T hR) rfl rfl hH rfl rfl rfl rfl
    unfold xP_perform
    exact ru_g _ t1 (ru_f k0 (ru_f k1 (ru_f k2 (ru_f k3 (ru_t k4 (ru_g _ t20 (ru_g _ (slot s hs) (ru_w _ a1 rfl))))))))
  rw [if_neg k4] at hiA hBA ⊢
  by_cases k5 : op = 5
  · rw [if_pos k5] at hiA hBA ⊢
    obtain ⟨st1, a1, a2⟩ := cu_T2 (u := o) hW
    rw [hT] at a2
    rw [rf_s o0] at a1
    refine fin _ st1 _ hiA hBA ?_ a2 (RW_T hR) rfl rfl hH rfl rfl rfl rfl
    unfold xP_perform
    exact ru_g _ t1 (ru_f k0 (ru_f k1 (ru_f k2 (ru_f k3 (ru_f k4 (ru_t k5 (ru_w _ a1 rfl)))))))
  rw [if_neg k5] at hiA hBA ⊢
  by_cases k6 : op = 6
  · rw [if_pos k6] at hiA hBA ⊢
    obtain ⟨g, hg, hy⟩ := hop.2.2.2 (Or.inl k6)
    have hy : y = nI g := hy
    subst hy
    rw [nI_clamp (by omega)] at hiA hBA ⊢
    obtain ⟨ad', st1, W1, i, j, m1, m2, m3, m4, m5, m6, m7, m8, m9, m10⟩ := xP_make_ok (g := g) hW hR z1 hB.2.2.1 hL hT hom ho1 hov hr
    obtain ⟨st2, a1, a2⟩ := cu_T2 (u := (z_fresh Z v g x r).2) m2
    have h40 : ad' (4, 0) = ad (4, 0) := m5.1 (4, 0) (by decide)
    rw [h40] at a1
    rw [m6, hT] at a2
    have hzr : zr_ (z_fresh Z v g x r).1 = zr_ Z := by unfold z_fresh; split <;> rfl
    have hzl : zl_ (z_fresh Z v g x r).1 = zl_ Z := by unfold z_fresh; split <;> rfl
    have hHX : zH (z_fresh Z v g x r).1 := by
      unfold z_fresh
      split
      · exact hH
      · rename_i hc
        intro e he
        rw [made_oX hc] at he
        show zh_ _ e < zn_ Z
        unfold zh_
        by_cases ce : e = zo_ Z + 1
        · rw [ce, ze_s]
          exact hvn
        · rw [ze_n ce]
          rw [if_neg ce] at he
          exact hH e he
    refine ⟨ad', st2, _, i, j, ((z_fresh Z v g x r).1, []), ?_, a2, RW_T m3, m4, rfl, rfl, ⟨hBA.1, hHX, hiA.1.2.1.2.1, (fun q hq => by cases hq), zW_r hw8 hzr, ?_⟩, rfl, m5, ky_k (W' := cj_T W1 (o, x, (z_fresh Z v g x r).2, 0)) m7 hiA.2.2.1, ?_, ?_⟩
    · unfold xP_perform
      refine ru_g _ t1 (ru_f k0 (ru_f k1 (ru_f k2 (ru_f k3 (ru_f k4 (ru_f k5 (ru_t k6 ?_)))))))
      exact ru_g _ (r0_m hW) (ru_b (i2 := 0) (j2 := 0) m1 (ru_w _ a1 rfl) rfl rfl)
    · show zphi_n l (z_fresh Z v g x r).1 + 2 * 0 ≤ 2090
      have := hiA.1.2.1.2.2
      dsimp only at this
      omega
    · show i + _ ≤ bk_ W1 + (zl_ (z_fresh Z v g x r).1).length + 6
      rw [m8, hzl]
      omega
    · show j + _ ≤ 4 * bk_ W1 + 5 * (zl_ (z_fresh Z v g x r).1).length + 41
      rw [m8, hzl]
      omega
  rw [if_neg k6] at hiA hBA ⊢
  by_cases k7 : op = 7
  · rw [if_pos k7] at hiA hBA ⊢
    obtain ⟨s, hs, hy⟩ := hop.2.2.1 (Or.inr (Or.inr k7))
    have hy : y = nI s := hy
    subst hy
    rw [nI_clamp (by omega)] at hiA hBA ⊢
    have hlive : zk_live Z o = true := by
      unfold zk_live
      rw [hom, hog]
      rfl
    have hsl := (hB.2.2.2.2.1.1 o hlive).2 (by omega) s hs
    rw [hov] at hsl
    obtain ⟨ad', st1, W1, i, j, S, m1, m2, m3, m4, m5, m6, m7, m8, m9, m10, m11, m12⟩ := xP_call_ok (t := el_ (ze_ Z o) s) hl hW hR hL hB hH hw8 hi hn2 hT hom ho1 hov hvn hr hro ((hB.2.2.1.1 o).2.1 s) hsl
    obtain ⟨st2, a1, a2⟩ := cu_T2 (u := (z_send Z v (el_ (ze_ Z o) s) x r).2) m2
    have h40 : ad' (4, 0) = ad (4, 0) := m8.1 (4, 0) (by decide)
    rw [h40] at a1
    rw [m9, hT] at a2
    refine ⟨ad', st2, _, i, j, S, ?_, a2, RW_T m3, m4, m5, m7, m6, rfl, m8, m10, m11, m12⟩
    unfold xP_perform
    refine ru_g _ t1 (ru_f k0 (ru_f k1 (ru_f k2 (ru_f k3 (ru_f k4 (ru_f k5 (ru_f k6 (ru_t k7 ?_))))))))
    exact ru_g _ t20 (ru_g _ (slot s hs) (ru_g _ (r0_m hW) (ru_b (i2 := 0) (j2 := 0) m1 (ru_w _ a1 rfl) rfl rfl)))
  rw [if_neg k7] at hiA hBA ⊢
  by_cases k8 : op = 8
  · rw [if_pos k8] at hiA hBA ⊢
    obtain ⟨g, hg, hy⟩ := hop.2.2.2 (Or.inr k8)
    have hy : y = nI g := hy
    subst hy
    rw [nI_clamp (by omega)] at hiA hBA ⊢
    by_cases hx : x = 0
    · rw [if_pos hx] at hiA hBA ⊢
      obtain ⟨st1, a1, a2⟩ := cu_T3 (x := nI g) hW
      rw [hT] at a2
      refine fin _ st1 _ hiA hBA ?_ a2 (RW_T hR) rfl rfl hH rfl rfl rfl rfl
      unfold xP_perform
      exact ru_g _ t1 (ru_f k0 (ru_f k1 (ru_f k2 (ru_f k3 (ru_f k4 (ru_f k5 (ru_f k6 (ru_f k7 (ru_t k8 (ru_g _ tx (ru_t hx (ru_w _ a1 rfl))))))))))))
    · rw [if_neg hx] at hiA hBA ⊢
      obtain ⟨st1, a1, a2⟩ := cu_T3 (x := 0) hW
      rw [hT] at a2
      refine fin _ st1 _ hiA hBA ?_ a2 (RW_T hR) rfl rfl hH rfl rfl rfl rfl
      unfold xP_perform
      exact ru_g _ t1 (ru_f k0 (ru_f k1 (ru_f k2 (ru_f k3 (ru_f k4 (ru_f k5 (ru_f k6 (ru_f k7 (ru_t k8 (ru_g _ tx (ru_f hx (ru_w _ a1 rfl))))))))))))
  rw [if_neg k8] at hiA hBA ⊢
  by_cases k9 : op = 9
  · rw [if_pos k9] at hiA hBA ⊢
    have ht4 : cwt_ W = zt_ Z := hR.2.2.2.1
    obtain ⟨st1, a1, a2⟩ := xV_putOut_ok (x := x) hW (v := v) ⟨by omega, by omega⟩ (by rw [ht4]; exact hlen)
    rw [ht4] at a2
    refine fin _ st1 _ hiA hBA ?_ a2 (RW_t hR) rfl rfl hH hT rfl rfl rfl
    unfold xP_perform
    refine ru_g _ t1 (ru_f k0 (ru_f k1 (ru_f k2 (ru_f k3 (ru_f k4 (ru_f k5 (ru_f k6 (ru_f k7 (ru_f k8 (ru_t k9 ?_))))))))))
    refine ru_g _ (r0_0 hW) (ru_g (nI v) ((og_i hat (by simp) rfl).trans (by rw [hoE, ← hov]; rfl)) (ru_g _ (r1_l hW (by omega) (by omega)) (ru_g _ tx ?_)))
    exact ru_g _ (og_m (at_7 hW ⟨by omega, by omega⟩) (by simp)) (ru_b a1 rfl rfl rfl)
  rw [if_neg k9] at hiA hBA ⊢
  obtain ⟨st1, a1, a2⟩ := cu_T2 (u := 0) hW
  rw [hT] at a2
  refine fin _ st1 _ hiA hBA ?_ a2 (RW_T hR) rfl rfl hH rfl rfl rfl rfl
  unfold xP_perform
  exact ru_g _ t1 (ru_f k0 (ru_f k1 (ru_f k2 (ru_f k3 (ru_f k4 (ru_f k5 (ru_f k6 (ru_f k7 (ru_f k8 (ru_f k9 (ru_w _ a1 rfl)))))))))))
end CAC
