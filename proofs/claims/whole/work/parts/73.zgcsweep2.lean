/-! What holds between calls: sweeps. -/
section ZSX
variable {Z : zz_S} {v n : Nat} {l : List Nat} {D : Nat → Bool}
theorem zsw_1 : (z_sweep Z v D).1 = z_drop D v (z_free Z v D 201) 201 := by unfold z_sweep; with_reducible rfl
/-- the face of a sweep -/
theorem zsw_f {e : Nat} : (z_sweep Z v D).1.1 = Z.1 ∧ zg_ (z_sweep Z v D).1 = zg_ Z ∧ zr_ (z_sweep Z v D).1 = zr_ Z ∧ zt_ (z_sweep Z v D).1 = zt_ Z ∧ zh_ (z_sweep Z v D).1 e = zh_ Z e ∧ es_ (ze_ (z_sweep Z v D).1 e) = es_ (ze_ Z e) ∧ et_ (ze_ (z_sweep Z v D).1 e) = et_ (ze_ Z e) ∧ el_ (ze_ (z_sweep Z v D).1 e) = el_ (ze_ Z e) ∧
    eg_ (ze_ (z_sweep Z v D).1 e) = (eg_ (ze_ Z e) || (decide (e < 201) && zk_fr Z v D e)) ∧ ∀ w, ei_ (ze_ (z_sweep Z v D).1 e) w = if e < 201 ∧ w = v ∧ 0 < ei_ (ze_ Z e) v ∧ D e = false then 0 else ei_ (ze_ Z e) w := by
  rw [zsw_1]
  obtain ⟨f1, f2, f3, f4, f5, f6⟩ := zfree_f (Z := Z) (v := v) (D := D) 201
  have f7 := zfree_g (Z := Z) (v := v) (D := D) 201 e
  generalize z_free Z v D 201 = Y at f1 f2 f3 f4 f5 f6 f7
  obtain ⟨g1, g2, g3, g4, g5⟩ := zdrop_f (X := Y) (D := D) (v := v) 201
  have g6 := zdrop_i (X := Y) (D := D) (v := v) 201 e
  generalize z_drop D v Y 201 = X at g1 g2 g3 g4 g5 g6
  have hei : ei_ (ze_ Y e) = ei_ (ze_ Z e) := by unfold ei_; rw [(f6 e).2]
  rw [hei] at g6
  refine ⟨g1.trans f1, g2.trans f2, g3.trans f3, g4.trans f5, (g5 e).1.trans (f6 e).1, ?_, ?_, ?_, (g5 e).2.1.trans f7, g6⟩
  · rw [(g5 e).2.2.1]
    unfold es_
    rw [(f6 e).2]
  · rw [(g5 e).2.2.2.1]
    unfold et_
    rw [(f6 e).2]
  · rw [(g5 e).2.2.2.2.2.2.1]
    unfold el_
    rw [(f6 e).2]
theorem zB_sweep (ha : zl_all l) (hi : zi_ l n Z) (h : zB Z) (hpk : zpk Z) (hD : zk_isR Z v D) (hv : v < zn_ Z) (hx : ∀ e, e ≤ 200 → ei_ (ze_ Z e) v < 1000000) : zB (z_sweep Z v D).1 ∧ zpk (z_sweep Z v D).1 := by
  obtain ⟨a1, a2, a3, a4, a5, a6, a7⟩ := h
  have h4 := a1.2.1
  have hv4 : v < 4 := by omega
  have hsi := zi_sweep (D := D) ha hi hv4
  have face := fun e => zsw_f (Z := Z) (v := v) (D := D) (e := e)
  have hg : gG (z_sweep Z v D).1 := by
    rw [zsw_1]
    have hfi := zi_free (v := v) (D := D) hi 201 (by omega)
    refine gG_drop (gG_free a4 a1 hD 201) hfi.2.2.1 hv4 (fun e he => ?_) 201 (by omega)
    have f6 := (zfree_f (Z := Z) (v := v) (D := D) 201).2.2.2.2.2 e
    have : ei_ (ze_ (z_free Z v D 201) e) = ei_ (ze_ Z e) := by unfold ei_; rw [f6.2]
    rw [this]
    exact hx e he
  -- what is in reach stays
  have R0 : ∀ e, e ≠ 0 → zk_root Z v e = true → D e = true := fun e h0 hr => (hD e).mpr ⟨0, by unfold z_reach; simp [h0, hr]⟩
  have R1 : ∀ f e, D f = true → f ≤ 200 → e ≠ 0 → zk_next Z v f e = true → D e = true := fun f e hf h2 h0 hn => (hD e).mpr (R_next h2 ((hD f).mp hf) h0 hn)
  generalize (z_sweep Z v D).1 = X at hsi face hg
  have f1 := (face 0).1
  have f3 := (face 0).2.2.1
  have hh : ∀ e, zh_ X e = zh_ Z e := fun e => (face e).2.2.2.2.1
  have stay : ∀ e, D e = true → eg_ (ze_ X e) = eg_ (ze_ Z e) ∧ ∀ w, ei_ (ze_ X e) w = ei_ (ze_ Z e) w := fun e he => by
    refine ⟨?_, fun w => ?_⟩
    · rw [(face e).2.2.2.2.2.2.2.2.1]
      unfold zk_fr
      rw [he]
      simp
    · rw [(face e).2.2.2.2.2.2.2.2.2, if_neg (fun c => by rw [he] at c; cases c.2.2.2)]
  have okD : ∀ e, (e = 0 ∨ D e = true) → okr Z v e → okr X v e := fun e he hk => by
    rcases he with he | he
    · exact Or.inl he
    · unfold okr at hk ⊢
      rw [hh e, (stay e he).1, (stay e he).2]
      exact hk
  have okw : ∀ w e, w ≠ v → okr Z w e → okr X w e := fun w e hwv hk => by
    unfold okr at hk ⊢
    rw [hh e]
    rcases hk with c | c | c
    · exact Or.inl c
    · refine Or.inr (Or.inl ⟨c.1, ?_⟩)
      rw [(face e).2.2.2.2.2.2.2.2.1, c.2]
      unfold zk_fr
      rw [decide_eq_false (show ¬ zh_ Z e = v from fun z => hwv (by rw [← c.1, z]))]
      simp
    · refine Or.inr (Or.inr ⟨c.1, ?_⟩)
      rw [(face e).2.2.2.2.2.2.2.2.2, if_neg (fun z => hwv z.2.1)]
      exact c.2
  have hlive : ∀ f, zk_live X f = true → zk_live Z f = true ∧ (zh_ Z f = v → D f = true) := fun f hf => by
    unfold zk_live at hf
    rw [Bool.and_eq_true] at hf
    have hm : zk_made Z f = true := by
      have := hf.1
      unfold zk_made zo_ zp_ at this ⊢
      rw [f1] at this
      exact this
    have hg2 := hf.2
    rw [(face f).2.2.2.2.2.2.2.2.1] at hg2
    have h200 := zk_K2 a1 (Or.inr hm)
    rw [decide_eq_true (show f < 201 by omega)] at hg2
    have hl : zk_live Z f = true := by
      unfold zk_live
      rw [hm]
      cases c : eg_ (ze_ Z f) with
      | false => rfl
      | true => rw [c] at hg2; cases hg2
    refine ⟨hl, fun hv2 => ?_⟩
    cases c : D f with
    | true => rfl
    | false =>
      exfalso
      have : zk_fr Z v D f = true := by
        unfold zk_fr
        rw [hl, decide_eq_true hv2, c]
        rfl
      rw [this] at hg2
      simp at hg2
  have hr0 : ∀ w, w < zn_ Z → eg_ (ze_ X (w + 1)) = false := fun w hw => by
    obtain ⟨k1, k2⟩ := a7 w hw
    by_cases c : w = v
    · subst c
      have hl : zk_live Z (w + 1) = true := by
        unfold zk_live
        have := a1.2.2.1
        rw [k2, (zk_K4 (Z := Z) (e := w + 1) (Or.inr (Or.inl ⟨by omega, by omega⟩))).resolve_left (by omega)]
        rfl
      have hd1 := R0 (w + 1) (by omega) (root_or.mpr (Or.inl (by
        unfold zk_r1
        rw [hl, decide_eq_true k1, decide_eq_true rfl]
        rfl)))
      rw [(stay _ hd1).1]
      exact k2
    · have := okw w (w + 1) c (Or.inr (Or.inl ⟨k1, k2⟩))
      exact okr_live this (by omega) (by rw [hh]; exact k1)
  refine ⟨⟨hsi.1, hsi.2.1.1, hsi.2.2.1, hg, ⟨fun f hf => ?_, fun r hr => ?_⟩, ?_, fun w hw => ?_⟩, ?_⟩
  · obtain ⟨l1, l2⟩ := hlive f hf
    obtain ⟨t1, t2⟩ := a5.1 f l1
    have hf2 := live_le a1 l1
    rw [hh f, (face f).2.2.2.2.2.1, (face f).2.2.2.2.2.2.1, (face f).2.2.2.2.2.2.2.1]
    refine ⟨fun c d => ?_, fun c s hs => ?_⟩
    · by_cases hv2 : zh_ Z f = v
      · rw [hv2]
        have hk := t1 c d
        rw [hv2] at hk
        refine okD _ ?_ hk
        by_cases h0 : et_ (ze_ Z f) = 0
        · exact Or.inl h0
        · exact Or.inr (R1 f _ (l2 hv2) hf2.2 h0 (next_or.mpr (Or.inl (n1_mk l1 hv2 (Or.inl ⟨c, d, rfl⟩)))))
      · exact okw _ _ hv2 (t1 c d)
    · by_cases hv2 : zh_ Z f = v
      · rw [hv2]
        have hk := t2 c s hs
        rw [hv2] at hk
        refine okD _ ?_ hk
        by_cases h0 : el_ (ze_ Z f) s = 0
        · exact Or.inl h0
        · exact Or.inr (R1 f _ (l2 hv2) hf2.2 h0 (next_or.mpr (Or.inl (n1_mk l1 hv2 (Or.inr ⟨c, s, hs, rfl⟩)))))
      · exact okw _ _ hv2 (t2 c s hs)
  · rw [f3] at hr
    obtain ⟨t1, t2, t3⟩ := a5.2 r hr
    obtain ⟨c1, c2, c3, c4⟩ := a3.2.2.1 r hr
    have e1 : zr_w X r = zr_w Z r := by
      unfold zr_w
      rw [hh]
    rw [e1, hh]
    refine ⟨t1, ?_, ?_⟩
    · by_cases hv2 : zr_w Z r = v
      · have hd1 : D r.2.1 = true := by
          rcases c4 with c4 | c4
          · have : r.1 = v := by
              unfold zr_w at hv2
              rw [if_pos c4.1] at hv2
              exact hv2
            exact R0 _ (by omega) (root_or.mpr (Or.inr ⟨r, hr, Or.inl ⟨this, Or.inl rfl⟩⟩))
          · have : zh_ Z r.1 = v := by
              unfold zr_w at hv2
              rw [if_neg (by omega)] at hv2
              exact hv2
            rw [c4.2]
            exact R0 _ (by omega) (root_or.mpr (Or.inr ⟨r, hr, Or.inr ⟨c4.1, this, rfl⟩⟩))
        rw [(stay _ hd1).1]
        exact t2
      · have hk := okw _ _ hv2 (Or.inr (Or.inl ⟨t1, t2⟩))
        refine okr_live hk ?_ (by rw [hh]; exact t1)
        rcases c4 with c4 | c4 <;> omega
    · by_cases hv2 : zr_w Z r = v
      · rw [hv2] at t3 ⊢
        refine okD _ ?_ t3
        by_cases h0 : r.2.2.2.1 = 0
        · exact Or.inl h0
        · refine Or.inr ?_
          rcases c4 with c4 | c4
          · have : r.1 = v := by
              unfold zr_w at hv2
              rw [if_pos c4.1] at hv2
              exact hv2
            exact R0 _ h0 (root_or.mpr (Or.inr ⟨r, hr, Or.inl ⟨this, Or.inr rfl⟩⟩))
          · have hz : zh_ Z r.1 = v := by
              unfold zr_w at hv2
              rw [if_neg (by omega)] at hv2
              exact hv2
            have hd1 := R0 r.1 (by omega) (root_or.mpr (Or.inr ⟨r, hr, Or.inr ⟨c4.1, hz, rfl⟩⟩))
            exact R1 r.1 _ hd1 (a2.2.1 r hr).1 h0 (next_or.mpr (Or.inr ⟨r, hr, rfl, c4.1, hz, rfl⟩))
      · exact okw _ _ hv2 t3
  · refine zn_p (fun w e => ?_) (fun e => (face e).2.2.2.2.2.2.1) a6
    unfold zk_pass
    rw [hh, (face e).2.2.2.2.2.1]
  · have hw : w < zn_ Z := by
      have e1 : zn_ X = zn_ Z := by unfold zn_; rw [f1]
      rw [e1] at hw
      exact hw
    exact ⟨by rw [hh]; exact (a7 w hw).1, hr0 w hw⟩
  · refine zpk_s hpk ?_
    unfold zq0
    rw [f3]
    exact List.Sublist.refl _
end ZSX
