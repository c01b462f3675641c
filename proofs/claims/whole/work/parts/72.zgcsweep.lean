/-! What holds between calls: turns, sweeps. -/
section ZSW
variable {Z X : zz_S} {v w o n : Nat} {x : Int32} {l : List Nat} {D : Nat → Bool}
theorem okr_live (h : okr Z v o) (h0 : o ≠ 0) (hh : zh_ Z o = v) : eg_ (ze_ Z o) = false := by
  rcases h with c | c | c
  · exact absurd c h0
  · exact c.2
  · exact absurd hh c.1
theorem zB_run (hl : l.Nodup) (hv : v < 4) : ∀ (L : List (Int32 × Int32)) (k : Nat) (S : zz_S × Int32 × Nat), zi_ l n S.1 → zB S.1 → zpk S.1 → okr S.1 v S.2.2 → zk_K S.1 S.2.2 → 1 ≤ o ∧ o ≤ zo_ S.1 → zh_ S.1 o = v → eg_ (ze_ S.1 o) = false → (∀ i ∈ L, zo_i i) →
    zB (z_run v o L k S).1 ∧ zpk (z_run v o L k S).1 ∧ okr (z_run v o L k S).1 v (z_run v o L k S).2.2
  | [], k, S, _, h2, h3, h4, _, _, _, _, _ => by cases k <;> exact ⟨h2, h3, h4⟩
  | i :: L, k + 1, S, h1, h2, h3, h4, h5, h6, h7, h8, h9 => zB_run hl hv L k S h1 h2 h3 h4 h5 h6 h7 h8 (fun y hy => h9 y (List.mem_cons_of_mem _ hy))
  | i :: L, 0, S, h1, h2, h3, h4, h5, h6, h7, h8, h9 => by
    have hop := h9 i List.mem_cons_self
    obtain ⟨b1, b2, b3, b4, b5, b6⟩ := zi_act (x := S.2.1) hl h1 hv h6 h5 (op := i.1) (y := i.2) hop
    obtain ⟨c1, c2, c3, c4, c5⟩ := zB_act (x := S.2.1) h2 h1.2.1.2.1 h3 hv h6 h7 h8 h4 h5 (op := i.1) (y := i.2) hop
    have hok : zk_K S.1 o := zk_K4 (Or.inr (Or.inl h6))
    have ho2 := c4 v o hok (Or.inr (Or.inl ⟨h7, h8⟩))
    have hh2 := (c5 o hok).trans h7
    exact zB_run hl hv L _ _ b1 c1 c2 c3 b2 ⟨h6.1, Nat.le_trans h6.2 b6⟩ hh2 (okr_live ho2 (by omega) hh2) (fun y hy => h9 y (List.mem_cons_of_mem _ hy))
theorem zB_turn (hl : l.Nodup) (hi : zi_ l n Z) (h : zB Z) (hp : zpk Z) (hv : v < 4) : zB (z_turn Z v).1 ∧ zpk (z_turn Z v).1 := by
  unfold z_turn
  rcases zfirst_or v (zr_ Z) with ⟨h1, h2⟩ | ⟨i, r, h1, h2, h3, h4⟩
  · rw [h1]
    exact ⟨h, hp⟩
  · rw [h2]
    dsimp only
    have hr : r ∈ zr_ Z := List.mem_of_getElem? h1
    have hperm := er_perm h1
    obtain ⟨t1, t2, t3⟩ := zi_take hi hperm
    obtain ⟨r1, r2, r3, r4⟩ := hi.2.2.1.2.2.1 r hr
    have ho : 1 ≤ r.2.1 ∧ r.2.1 ≤ zo_ Z := by
      have := zk_K3 r1
      rcases r4 with c | c <;> omega
    obtain ⟨a1, a2, a3, a4, a5, a6, a7⟩ := h
    have hsub : ((zr_ Z).eraseIdx i).Sublist (zr_ Z) := List.eraseIdx_sublist _ _
    have hB0 : zB (zj_r Z ((zr_ Z).eraseIdx i)) := ⟨a1, t1.2.1.1, t1.2.2.1, a4, ⟨a5.1, fun y hy => a5.2 y (hsub.subset hy)⟩, zn_zs zs_r a6, a7⟩
    have hp0 : zpk (zj_r Z ((zr_ Z).eraseIdx i)) := zpk_s hp (hsub.filter _)
    obtain ⟨k1, k2, k3⟩ := a5.2 r hr
    have hw : zr_w Z r = v := by
      unfold zr_w
      rw [if_pos (by omega), h3]
    rw [hw] at k1 k3
    have hops : ∀ y ∈ zg_ Z (ep_ (ze_ Z r.2.1)), zo_i y := fun y hy => hi.2.2.2 _ y hy
    obtain ⟨b1, b2, b3⟩ := zB_run (o := r.2.1) hl hv (zg_ Z (ep_ (ze_ Z r.2.1))) 0 (zj_r Z ((zr_ Z).eraseIdx i), r.2.2.1, r.2.2.2.1) t1 hB0 hp0 k3 r2 ho k1 k2 hops
    obtain ⟨c1, c2, c3, c4, c5⟩ := zi_run (o := r.2.1) hl hv (zg_ Z (ep_ (ze_ Z r.2.1))) 0 (zj_r Z ((zr_ Z).eraseIdx i), r.2.2.1, r.2.2.2.1) t1 r2 ho hops
    have hqq : r.2.2.2.2 = 0 ∨ 100 < r.2.2.2.2 := by
      rcases Nat.eq_zero_or_pos r.2.2.2.2 with c | c
      · exact Or.inl c
      · refine Or.inr (t3.2 _ (List.mem_append_left _ ?_)).1
        unfold za_1
        rw [if_pos c]
        exact List.mem_singleton.mpr rfl
    have hq3 := c3 _ r3
    generalize z_run v r.2.1 (zg_ Z (ep_ (ze_ Z r.2.1))) 0 (zj_r Z ((zr_ Z).eraseIdx i), r.2.2.1, r.2.2.2.1) = S at b1 b2 b3 c1 c2 c3 c4 c5 hq3
    obtain ⟨g1, g2⟩ := zB_settle (lost := []) (p := r.2.2.2.2) (ref := S.2.2) b1 hv hqq hq3 b3 c2 (fun _ hx => by cases hx)
    have hf : zf_ S.1 (z_settle S.1 [] v r.2.2.2.2 S.2.2).1 := zf_settle
    have g3 : ∀ y ∈ (z_settle S.1 [] v r.2.2.2.2 S.2.2).2, zk_K (z_settle S.1 [] v r.2.2.2.2 S.2.2).1 y := fun y hy => by rw [zk_KZ hf.1]; exact g2 y hy
    obtain ⟨w1, w2, w3⟩ := zsettle_w (l := l) (lost := []) b1.2.1 hv (p := r.2.2.2.2) (ref := S.2.2) hqq (zk_K2 b1.1 hq3) (zk_K2 b1.1 c2)
    have hA := za_okp c1.2.1.2.1 w2
    exact ⟨zB_done' hv g1 g3 hA, zpk_s b2 ((zq0_done hv w1 hA).trans (zq0_settle b1.2.1 hqq))⟩
theorem wanted_root {e : Nat} (hl : zk_live Z e = true) (hh : zh_ Z e = v) (hw : gc_w (ze_ Z e)) : zk_root Z v e = true := by
  refine root_or.mpr (Or.inl ?_)
  unfold zk_r1
  rw [hl, decide_eq_true hh]
  show ((_ || _) || _) = true
  rw [Bool.or_eq_true, Bool.or_eq_true]
  rcases hw with ⟨b, hb, hx⟩ | ⟨a, b, ha, hb, hx⟩
  · exact Or.inl (Or.inr (List.any_eq_true.mpr ⟨b, List.mem_range.mpr hb, decide_eq_true hx⟩))
  · refine Or.inr (List.any_eq_true.mpr ⟨4 * a + b, List.mem_range.mpr (by omega), ?_⟩)
    rw [show (4 * a + b) / 4 = a by omega, show (4 * a + b) % 4 = b by omega]
    exact decide_eq_true hx
/-- what is freed -/
theorem zfree_g : ∀ (k e : Nat), eg_ (ze_ (z_free Z v D k) e) = (eg_ (ze_ Z e) || (decide (e < k) && zk_fr Z v D e))
  | 0, e => by
    show eg_ (ze_ Z e) = _
    simp
  | k + 1, e => by
    rw [zfree_s]
    by_cases hf : zk_fr Z v D k = true
    · rw [if_pos hf]
      by_cases c : e = k
      · subst c
        rw [ze_s, hf, decide_eq_true (show e < e + 1 by omega)]
        show true = _
        simp
      · rw [ze_n c, zfree_g k e]
        congr 2
        exact decide_eq_decide.mpr (by omega)
    · rw [if_neg hf, zfree_g k e]
      by_cases c : e = k
      · subst c
        rw [Bool.eq_false_iff.mpr hf, Bool.and_false, Bool.and_false]
      · congr 2
        exact decide_eq_decide.mpr (by omega)
theorem gG_free (h : gG Z) (hz : zw_n Z) (hD : zk_isR Z v D) : ∀ (k : Nat), gG (z_free Z v D k) := by
  intro k
  obtain ⟨g1, g2, g3⟩ := h
  obtain ⟨f1, f2, f3, f4, f5, f6⟩ := zfree_f (Z := Z) (v := v) (D := D) k
  have hm : ∀ e, zk_made (z_free Z v D k) e = zk_made Z e := fun e => by unfold zk_made zo_ zp_; rw [f1]
  have hE : ∀ e, eh_ (ze_ (z_free Z v D k) e) = eh_ (ze_ Z e) ∧ ex_ (ze_ (z_free Z v D k) e) = ex_ (ze_ Z e) ∧ ei_ (ze_ (z_free Z v D k) e) = ei_ (ze_ Z e) ∧ eo_ (ze_ (z_free Z v D k) e) = eo_ (ze_ Z e) := fun e => by
    refine ⟨(f6 e).1, ?_, ?_, ?_⟩
    · unfold ex_; rw [(f6 e).2]
    · unfold ei_; rw [(f6 e).2]
    · unfold eo_; rw [(f6 e).2]
  refine ⟨fun e he => ?_, fun r hr => ?_, fun e he hg => ?_⟩
  · rw [hm] at he
    rw [f4]
    exact gj_same (g1 e he) (hE e).1 (hE e).2.1 (hE e).2.2.1 (hE e).2.2.2
  · rw [f4] at hr
    unfold mw_
    rw [(f6 _).1]
    exact g2 r hr
  · rw [hm] at he
    rw [gc_ws (hE e).2.1 (hE e).2.2.2]
    rw [zfree_g, Bool.or_eq_true, Bool.and_eq_true] at hg
    rcases hg with hg | hg
    · exact g3 e he hg
    · intro hw
      have hfr := hg.2
      unfold zk_fr at hfr
      rw [Bool.and_eq_true, Bool.and_eq_true, decide_eq_true_eq] at hfr
      have hroot := wanted_root hfr.1.1 hfr.1.2 hw
      have := (hD e).mpr ⟨0, by unfold z_reach; simp [made_n0 he, hroot]⟩
      have h3 := hfr.2
      rw [this] at h3
      cases h3
/-- imports are let go -/
theorem gj_drop {e : Nat} {E : ze_E} {L : List zm_L} (hj : gj_ e E L) (he0 : e ≠ 0) (hv : v < 4) (hi : 0 < ei_ E v) (hb : ei_ E v < 1000000) : gj_ e (ej_i E v 0) (L ++ [(3, v, eh_ E, e, Int32.ofInt (ei_ E v), 0, 0)]) := by
  obtain ⟨j1, j2, j3, j4, k1, k2, k3, k4⟩ := hj
  have hvh : v ≠ eh_ E := fun c => by rw [c, k2] at hi; omega
  have ht : (Int32.ofInt (ei_ E v)).toInt = ei_ E v := oi_t (by omega) hb
  have gp : ∀ b, gc_p e b (3, v, eh_ E, e, Int32.ofInt (ei_ E v), 0, 0) = if b = v then -ei_ E v else 0 := fun b => by
    unfold gc_p
    rw [if_neg (fun z => absurd (show (3:Nat) = 5 from z.1) (by decide))]
    by_cases d : b = v
    · rw [if_pos d, if_pos ⟨rfl, d.symm, rfl⟩]
      show -(Int32.ofInt (ei_ E v)).toInt = _
      rw [ht]
    · rw [if_neg d, if_neg (fun z => d z.2.1.symm)]
  refine ⟨fun b hb hbh => ?_, fun a b ha hb hah hbh => ?_, fun b hb hbh => ?_, fun a b ha hb hah hbh => ?_, k1, ?_, fun b hb => ?_, k4⟩
  · rw [gs_a, gs_a, gs_1, gs_1, gp, gc_m (Or.inl rfl), gc_0i, ei_i]
    have : gc_0 E b + gs_ (gc_p e b) L = ei_ E b + gs_ (gc_c e (eh_ E) b) L := j1 b hb hbh
    show gc_0 E b + (gs_ (gc_p e b) L + _) = _ + (gs_ (gc_c e (eh_ E) b) L + 0)
    by_cases d : b = v
    · subst d
      rw [if_pos rfl, if_pos rfl]
      omega
    · rw [if_neg d, if_neg d]
      omega
  · rw [gs_a, gs_a, gs_1, gs_1, gq_m (Or.inr (Or.inr rfl)), gc_m (Or.inl rfl)]
    have : eo_ E a b + gs_ (gc_q e a b) L = gs_ (gc_c e a b) L := j2 a b ha hb hah hbh
    show eo_ E a b + (gs_ (gc_q e a b) L + 0) = gs_ (gc_c e a b) L + 0
    omega
  · refine gw_app L _ _ (j3 b hb hbh) (fun c => ?_)
    rcases c.2.2 with z | z | z
    · exact absurd (show (3:Nat) = 1 from z.1) (by decide)
    · exact absurd (show (3:Nat) = 1 ∨ (3:Nat) = 2 from z.1) (by decide)
    · exact absurd (show (3:Nat) = 4 from z.1) (by decide)
  · exact gw_app L _ _ (j4 a b ha hb hah hbh) (fun c => absurd (show (3:Nat) = 4 from c.1) (by decide))
  · rw [ei_i]
    show (if eh_ E = v then 0 else ei_ E (eh_ E)) = 0
    split
    · rfl
    · exact k2
  · rw [ei_i]
    split
    · exact Int.le_refl _
    · exact k3 b hb
theorem gG_drop (h : gG X) (hd : zd_ (zk_K X) X) (hv : v < 4) (hx : ∀ e, e ≤ 200 → ei_ (ze_ X e) v < 1000000) : ∀ (k : Nat), k ≤ 201 → gG (z_drop D v X k)
  | 0, _ => h
  | k + 1, hk => by
    have ih := gG_drop h hd hv hx k (by omega)
    obtain ⟨f1, f2, f3, f4, f5⟩ := zdrop_f (X := X) (D := D) (v := v) k
    rw [zdrop_s]
    split
    · rename_i hc
      have hei : ei_ (ze_ (z_drop D v X k) k) v = ei_ (ze_ X k) v := by
        have : ∀ j, j ≤ k → ei_ (ze_ (z_drop D v X j) k) v = ei_ (ze_ X k) v := by
          intro j
          induction j with
          | zero => exact fun _ => rfl
          | succ j ihj =>
            intro hj
            rw [zdrop_s]
            split
            · show ei_ (ze_ (zj_e (z_drop D v X j) j _) k) v = _
              rw [ze_n (by omega)]
              exact ihj (by omega)
            · exact ihj (by omega)
        exact this k (Nat.le_refl _)
      have hb := hx k (by omega)
      rw [← hei] at hb
      have k0 : k ≠ 0 := fun c => by
        have e1 := hd.2.1 k (Or.inl c)
        rw [hei, e1] at hc
        exact absurd hc.1 (show ¬ (0 : Int) < 0 by decide)
      have hmk : zk_made (z_drop D v X k) k = true := by
        have e2 : zk_K X k := Classical.byContradiction (fun c => by
          have e1 := hd.2.1 k (Or.inr c)
          rw [hei, e1] at hc
          exact absurd hc.1 (show ¬ (0 : Int) < 0 by decide))
        have := e2.resolve_left k0
        unfold zk_made zo_ zp_ at this ⊢
        rw [f1]
        exact this
      generalize z_drop D v X k = Y at ih hc hb hmk
      obtain ⟨g1, g2, g3⟩ := ih
      have hh : ∀ e, zh_ (zj_e Y k (ej_i (ze_ Y k) v 0)) e = zh_ Y e := fun e => by
        unfold zh_
        by_cases c : e = k
        · subst c
          rw [ze_s]
          rfl
        · rw [ze_n c]
      have hvh : v ≠ zh_ Y k := fun c => by
        have := (g1 k hmk).2.2.2.2.2.1
        have c : v = eh_ (ze_ Y k) := c
        rw [← c] at this
        omega
      refine ⟨fun e he => ?_, fun r hr => ?_, fun e he hg => ?_⟩
      · show gj_ e (ze_ (zj_e Y k (ej_i (ze_ Y k) v 0)) e) (zl_ Y ++ [(3, v, zh_ Y k, k, Int32.ofInt (ei_ (ze_ Y k) v), 0, 0)])
        by_cases c : e = k
        · subst c
          rw [ze_s]
          exact gj_drop (g1 e he) k0 hv hc.1 hb
        · rw [ze_n c]
          exact gj_irr (g1 e he) (fun d => c (by have d : k = e := d; exact d.symm)) (fun d => made_n0 he (by have d : 0 = e := d; exact d.symm))
      · show mw_ (zj_e Y k (ej_i (ze_ Y k) v 0)) r
        unfold mw_
        rw [hh]
        rcases List.mem_append.mp (show r ∈ zl_ Y ++ [(3, v, zh_ Y k, k, Int32.ofInt (ei_ (ze_ Y k) v), 0, 0)] from hr) with hr | hr
        · exact g2 r hr
        · rw [List.mem_singleton] at hr
          rw [hr]
          refine ⟨hvh, rfl, fun _ => ?_, fun c => absurd (show (3:Nat) = 4 ∨ (3:Nat) = 5 from c) (by decide), fun _ => rfl⟩
          show 0 < (Int32.ofInt (ei_ (ze_ Y k) v)).toInt
          rw [oi_t (by omega) hb]
          exact hc.1
      · have hg : eg_ (ze_ (zj_e Y k (ej_i (ze_ Y k) v 0)) e) = true := hg
        show ¬ gc_w (ze_ (zj_e Y k (ej_i (ze_ Y k) v 0)) e)
        by_cases c : e = k
        · subst c
          rw [ze_s] at hg ⊢
          exact g3 e he hg
        · rw [ze_n c] at hg ⊢
          exact g3 e he hg
    · exact ih
/-- imports after a sweep -/
theorem zdrop_i : ∀ (k e w : Nat), ei_ (ze_ (z_drop D v X k) e) w = if e < k ∧ w = v ∧ 0 < ei_ (ze_ X e) v ∧ D e = false then 0 else ei_ (ze_ X e) w
  | 0, e, w => by
    rw [if_neg (by omega)]
    rfl
  | k + 1, e, w => by
    have hk := zdrop_i k k v
    rw [if_neg (by omega)] at hk
    rw [zdrop_s, hk]
    by_cases hc : 0 < ei_ (ze_ X k) v ∧ D k = false
    · rw [if_pos hc]
      show ei_ (ze_ (zj_e (z_drop D v X k) k (ej_i (ze_ (z_drop D v X k) k) v 0)) e) w = _
      by_cases c : e = k
      · subst c
        rw [ze_s, ei_i]
        by_cases d : w = v
        · rw [if_pos d, if_pos ⟨by omega, d, hc⟩]
        · rw [if_neg d, if_neg (fun z => d z.2.1), zdrop_i e e w, if_neg (by omega)]
      · rw [ze_n c, zdrop_i k e w]
        by_cases d : e < k ∧ w = v ∧ 0 < ei_ (ze_ X e) v ∧ D e = false
        · rw [if_pos d, if_pos ⟨by omega, d.2⟩]
        · rw [if_neg d, if_neg (fun z => d ⟨by omega, z.2⟩)]
    · rw [if_neg hc, zdrop_i k e w]
      by_cases d : e < k ∧ w = v ∧ 0 < ei_ (ze_ X e) v ∧ D e = false
      · rw [if_pos d, if_pos ⟨by omega, d.2⟩]
      · rw [if_neg d, if_neg (fun z => ?_)]
        by_cases c : e = k
        · subst c
          exact hc z.2.2
        · exact d ⟨by omega, z.2⟩
end ZSW
