/-! Class and reference side by side: every call. -/
/-- after c calls: the mathematical state Z, the class's picture W at p1, the reference at m0 -/
def jo_ (gl : gl_T) (l : List Nat) (m0 : Nat) (am : Nat → Nat) (p1 c : Nat) (Z : zz_S) (W : cw_W) (st : st_S) : Prop :=
  zA l c Z ∧ zH Z ∧ zW Z ∧ RW Z W 50 ∧ mo_ m0 am gl.1 ∧ ∃ ad fx M, ad (0, 0) = p1 ∧ CW gl fx ad W st ∧ (∀ a, fx.1 a ↔ a = gl.1 ∨ ¬ mo_ m0 am a) ∧ lr_ ad W [] ∧ mv_ m0 am M st ∧ rm_ Z M
/-- both answer alike, and it goes on -/
def js_ (gl : gl_T) (l : List Nat) (m0 : Nat) (am : Nat → Nat) (p1 c : Nat) (Z : zz_S) (W : cw_W) (st : st_S) (A B : st_M Int32) : Prop :=
  ∃ x st1 st2 Z' W' i j, A st = some (x, st1, i, j) ∧ so_cm (some m0) [10] st1 = some 10 ∧ B st1 = some (x, st2, 0, 0) ∧ jo_ gl l m0 am p1 (c + 1) Z' W' st2 ∧
    i + (bk_ W + (zl_ Z).length) ≤ bk_ W' + (zl_ Z').length + 48 ∧ j + (4 * bk_ W + 5 * (zl_ Z).length) ≤ 4 * bk_ W' + 5 * (zl_ Z').length + 328
section CJO
variable {gl : gl_T} {l : List Nat} {m0 p1 c : Nat} {am : Nat → Nat} {Z Z' : zz_S} {W W' : cw_W} {st st1 : st_S} {ad ad' : Nat × Nat → Nat} {fx : fx_T} {M M' : ms_S} {i j : Nat} {x y z : Int32}
/-- the class's work leaves the reference's cells alone -/
theorem mv_keep (h0 : CW gl fx ad W st) (h1 : CW gl fx ad' W' st1) (hfx : ∀ a, fx.1 a ↔ a = gl.1 ∨ ¬ mo_ m0 am a) (hg : mo_ m0 am gl.1) (hm : mv_ m0 am M st) : mv_ m0 am M st1 := by
  have key : ∀ a, ¬ mo_ m0 am a → st1.1 a = st.1 a := fun a ha => by
    have hne : a ≠ gl.1 := fun z => ha (by rw [z]; exact hg)
    rw [(h0.2.2.2.2.1 a ((hfx a).mpr (Or.inr ha))).2 hne, (h1.2.2.2.2.1 a ((hfx a).mpr (Or.inr ha))).2 hne]
  obtain ⟨m1, m2, m3, m4⟩ := hm
  refine ⟨?_, fun k hk => ?_, m3, m4⟩
  · rw [key m0 (fun z => z.1 rfl)]
    exact m1
  · rw [key (am k) (fun z => z.2 k hk rfl)]
    exact m2 k hk
/-- the reference's work leaves the class's cells alone -/
theorem cw_keep {st2 : st_S} (h1 : CW gl fx ad W st1) (hfx : ∀ a, fx.1 a ↔ a = gl.1 ∨ ¬ mo_ m0 am a) (hm : mv_ m0 am M st1) (e2 : st2.2 = st1.2) (h : ∀ a, mo_ m0 am a → st2.1 a = st1.1 a) : CW gl (fx.1, st2.1) ad W st2 := by
  obtain ⟨c1, c2, c3, c4, c5, c6⟩ := h1
  refine ⟨fun k d hk => ?_, c2, fun a ha => ?_, c4, fun a ha => ⟨by rw [e2]; exact (c5 a ha).1, fun _ => rfl⟩, c6⟩
  · have hmo : mo_ m0 am (aw_ ad W k) := Classical.not_not.mp (fun z => c4 k d hk ((hfx _).mpr (Or.inr z)))
    rw [h _ hmo]
    exact c1 k d hk
  · rw [e2] at ha
    have hmo : mo_ m0 am a := by
      refine ⟨fun z => ?_, fun k hk z => ?_⟩
      · have := c3 a ha
        rw [z, hm.1] at this
        cases this
      · have := c3 a ha
        rw [z, hm.2.1 k hk] at this
        cases this
    rw [h a hmo]
    exact c3 a ha
theorem jo_comb (hc : CW gl fx ad W st) (hfx : ∀ a, fx.1 a ↔ a = gl.1 ∨ ¬ mo_ m0 am a) (hg0 : mo_ m0 am gl.1) (hm : mv_ m0 am M st) {A B : st_M Int32} {g : pm_M Int32} (hpv : pv_ m0 am B g) (hA : A st = some (x, st1, i, j)) (h1 : CW gl fx ad' W' st1) (h00 : ad' (0, 0) = p1) (hR1 : RW Z' W' 50) (hL1 : lr_ ad' W' []) (hg : g M = some (x, M')) (hr : rm_ Z' M') (hA' : zA l (c + 1) Z') (hH' : zH Z' ∧ zW Z')
    (k1 : i + (bk_ W + (zl_ Z).length) ≤ bk_ W' + (zl_ Z').length + 48) (k2 : j + (4 * bk_ W + 5 * (zl_ Z).length) ≤ 4 * bk_ W' + 5 * (zl_ Z').length + 328) : js_ gl l m0 am p1 c Z W st A B := by
  have hm1 := mv_keep hc h1 hfx hg0 hm
  obtain ⟨st2, e1, e2, e3, e4⟩ := hpv M st1 hm1 x M' hg
  have h2 := cw_keep h1 hfx hm1 e3 e4
  exact ⟨x, st1, st2, Z', W', i, j, hA, mv_cm M st1 hm1, e1, ⟨hA', hH'.1, hH'.2, hR1, hg0, ad', (fx.1, st2.1), M', h00, h2, hfx, hL1, e2, hr⟩, k1, k2⟩
/-- a question -/
theorem jo_ask (h : jo_ gl l m0 am p1 c Z W st) {A B : st_M Int32} {g : pm_M Int32} (hpv : pv_ m0 am B g) (hq : ∀ ad fx M, ad (0, 0) = p1 → CW gl fx ad W st → lr_ ad W [] → rm_ Z M → ∃ x, A st = some (x, st, 0, 0) ∧ g M = some (x, M)) : js_ gl l m0 am p1 c Z W st A B := by
  obtain ⟨h1, h2, h3, h4, h5, ad, fx, M, k1, k2, k3, k4, k5, k6⟩ := h
  obtain ⟨x, a1, a2⟩ := hq ad fx M k1 k2 k4 k6
  exact jo_comb k2 k3 h5 k5 hpv a1 k2 k1 h4 k4 a2 k6 (zA_s h1) ⟨h2, h3⟩ (by omega) (by omega)
theorem st_code (h : jo_ gl l m0 am p1 c Z W st) : js_ gl l m0 am p1 c Z W st (xP_code gl (some p1) x y z) (mm_code gl (some m0) x y z) := by
  obtain ⟨h1, h2, h3, h4, h5, ad, fx, M, k1, k2, k3, k4, k5, k6⟩ := h
  subst k1
  obtain ⟨st1, W1, a1, a2, a3, a4, a5⟩ := xP_code_ok (y := x) (op := y) (x := z) k2 h4 h1.2.1.1 k4
  obtain ⟨M', b1, b2⟩ := pm_code_ok k6 h1.2.1.1 x y z
  have hzl : zl_ (z_code Z x y z).1 = zl_ Z := by unfold z_code; split <;> rfl
  exact jo_comb k2 k3 h5 k5 (kp_pm_code x y z) a1 a2 rfl a3 a4 b1 b2 (zA_code h1) (zHW_code h2 h3) (by rw [hzl, a5]; omega) (by rw [hzl, a5]; omega)
theorem st_clear (h : jo_ gl l m0 am p1 c Z W st) : js_ gl l m0 am p1 c Z W st (xP_clear gl (some p1) x) (mm_clear gl (some m0) x) := by
  obtain ⟨h1, h2, h3, h4, h5, ad, fx, M, k1, k2, k3, k4, k5, k6⟩ := h
  subst k1
  obtain ⟨st1, W1, a1, a2, a3, a4, a5⟩ := xP_clear_ok (x := x) k2 h4 k4
  obtain ⟨M', b1, b2⟩ := pm_clear_ok k6 x
  have hzl : zl_ (z_clear Z x).1 = zl_ Z := by unfold z_clear; split <;> rfl
  exact jo_comb k2 k3 h5 k5 (kp_pm_clear x) a1 a2 rfl a3 a4 b1 b2 (zA_clear h1) (zHW_clear h2 h3) (by rw [hzl, a5]; omega) (by rw [hzl, a5]; omega)
theorem st_give (hl : zl_all l) (h : jo_ gl l m0 am p1 c Z W st) : js_ gl l m0 am p1 c Z W st (xP_give gl (some p1) x y z) (mm_give gl (some m0) x y z) := by
  have hh := h
  obtain ⟨h1, h2, h3, h4, h5, ad, fx, M, k1, k2, k3, k4, k5, k6⟩ := h
  have hz := h1.2.1.1
  by_cases hc : ((∃ j, j < zn_ Z ∧ x = nI j) ∧ (∃ j, j < zn_ Z ∧ z = nI j)) ∧ 0 ≤ y ∧ y < 4
  · obtain ⟨⟨⟨v, hv, rfl⟩, ⟨w, hw, rfl⟩⟩, hy⟩ := hc
    obtain ⟨s, hs, rfl⟩ := nI_of (x := y) (fun q => n_lt0.mp q hy.1)
    have hs4 : s < 4 := (nI_ltI hs (by decide)).mp (show nI s < nI 4 from hy.2)
    subst k1
    obtain ⟨st1, W1, a1, a2, a3, a4, a5⟩ := xP_give_ok k2 h4 h1.2.1 hv hw hs4
    obtain ⟨M', b1, b2⟩ := pm_give_ok k6 hz hv hw hs4
    have hzl : zl_ (z_give Z v s w) = zl_ Z := by unfold z_give; dsimp only; split <;> rfl
    have hL1 : lr_ ad W1 [] := by unfold lr_ at k4 ⊢; rw [a4]; exact k4
    exact jo_comb k2 k3 h5 k5 (kp_pm_give _ _ _) a1 a2 rfl a3 hL1 b1 b2 (zA_give hl h1 hv hw) (zHW_give h2 h3) (by rw [hzl, a5]; omega) (by rw [hzl, a5]; omega)
  · refine jo_ask hh (kp_pm_give _ _ _) (fun ad fx M e1 e2 e3 e4 => ⟨0, ?_, ?_⟩)
    · rw [← e1]
      refine xP_give_n e2 h4 hz ?_
      rcases vt_or Z x with hx | hx
      · rcases vt_or Z z with hz1 | hz1
        · exact Or.inr (Or.inl (fun hy => hc ⟨⟨hx, hz1⟩, hy⟩))
        · exact Or.inr (Or.inr hz1)
      · exact Or.inl hx
    · refine pm_give_n e4.1 hz (fun q => hc ⟨⟨?_, ?_⟩, q.2.2⟩)
      · rcases vt_or Z x with hx | hx
        · exact hx
        · exact absurd q.1 (vt_k hz hx)
      · rcases vt_or Z z with hx | hx
        · exact hx
        · exact absurd q.2.1 (vt_k hz hx)
theorem st_poke (hc : c ≤ 512) (h : jo_ gl l m0 am p1 c Z W st) : js_ gl l m0 am p1 c Z W st (xP_poke gl (some p1) x y) (mm_poke gl (some m0) x y) := by
  have hh := h
  obtain ⟨h1, h2, h3, h4, h5, ad, fx, M, k1, k2, k3, k4, k5, k6⟩ := h
  have hz := h1.2.1.1
  rcases vt_or Z x with ⟨v, hv, rfl⟩ | hx
  · subst k1
    have hlen := zr_len h1.1.2.1.2.1 h1.1.2.1.1
    obtain ⟨st1, W1, i, j, a1, a2, a3, a4, a5, a6⟩ := xP_poke_ok (x := y) h1 hc h2 k2 h4 k4 hv
    obtain ⟨M', b1, b2⟩ := pm_poke_ok k6 hz (by omega) (fun r hr => by have := (h1.2.1.2.1.2.1 r hr).1; omega) hv y
    have hzl : zl_ (z_poke Z v y).1 = zl_ Z := by unfold z_poke; split <;> rfl
    have h4n := hz.2.1
    exact jo_comb k2 k3 h5 k5 (kp_pm_poke _ _) a1 a2 rfl a3 a4 b1 b2 (zA_poke h1 hv) (zHW_poke h2 h3 (by omega)) (by rw [hzl]; omega) (by rw [hzl]; omega)
  · exact jo_ask hh (kp_pm_poke _ _) (fun ad fx M e1 e2 e3 e4 => ⟨0, by rw [← e1]; exact xP_poke_n e2 h4 hz hx, pm_poke_n (pm_vat_n e4.1 hz hx)⟩)
theorem st_turn (hl : zl_all l) (hc : c ≤ 512) (h : jo_ gl l m0 am p1 c Z W st) : js_ gl l m0 am p1 c Z W st (xP_turn gl (some p1) x) (mm_turn gl (some m0) x) := by
  have hh := h
  obtain ⟨h1, h2, h3, h4, h5, ad, fx, M, k1, k2, k3, k4, k5, k6⟩ := h
  have hz := h1.2.1.1
  have hlen := zr_len h1.1.2.1.2.1 h1.1.2.1.1
  rcases vt_or Z x with ⟨v, hv, rfl⟩ | hx
  · subst k1
    have h4n := hz.2.1
    obtain ⟨ad', st1, W1, i, j, a1, a2, a3, a4, a5, a6, a7⟩ := xP_turn_ok hl.1 h1 hc h2 h3 k2 h4 k4 hv
    obtain ⟨M', b1, b2⟩ := pm_turn_ok hl.1 k6 (zA_80 h1 hc) hv (fun w => by have := h1.2.2.2.2 w; omega)
    exact jo_comb k2 k3 h5 k5 (kp_pm_turn _) a1 a2 (a5.1 (0, 0) (by decide)) a3 a4 b1 b2 (zA_turn hl h1 (by omega)) (zHW_turn hl.1 (zA_80 h1 hc) h2 h3 hv) a6 a7
  · exact jo_ask hh (kp_pm_turn _) (fun ad fx M e1 e2 e3 e4 => ⟨-1, by rw [← e1]; exact xP_turn_n e2 h4 hz hx, pm_turn_n e4.2.2.2.1 (by omega) (pm_vat_n e4.1 hz hx)⟩)
theorem st_deliver (hl : zl_all l) (hc : c ≤ 512) (h : jo_ gl l m0 am p1 c Z W st) : js_ gl l m0 am p1 c Z W st (xP_deliver gl (some p1) x y) (mm_deliver gl (some m0) x y) := by
  have hh := h
  obtain ⟨h1, h2, h3, h4, h5, ad, fx, M, k1, k2, k3, k4, k5, k6⟩ := h
  have hz := h1.2.1.1
  have h4n := hz.2.1
  rcases vt_or Z x with ⟨a, ha, rfl⟩ | hx
  · rcases vt_or Z y with ⟨b, hb, rfl⟩ | hy
    · by_cases hab : a = b
      · subst hab
        exact jo_ask hh (kp_pm_deliver _ _) (fun ad fx M e1 e2 e3 e4 => ⟨0, by rw [← e1]; exact xP_deliver_s e2 h4 h1.2.1 ha, pm_deliver_n e4 hz (Or.inr (Or.inr rfl))⟩)
      · subst k1
        have hi := zA_80 h1 hc
        have hx := zA_x h1 hc
        obtain ⟨st1, W1, i, j, a1, a2, a3, a4, a5, a6⟩ := xP_deliver_ok hl h1 hc h2 h3 k2 h4 k4 ha hb
        obtain ⟨M', b1, b2⟩ := pm_deliver_ok hl.1 k6 hz hi.2.1 (fun e he a b ha hb => (hx e he).2 a b ha hb) ha hb hab
        exact jo_comb k2 k3 h5 k5 (kp_pm_deliver _ _) a1 a2 rfl a3 a4 b1 b2 (zA_deliver hl h1 (by omega) (by omega)) (zHW_deliver h2 h3 (by omega)) (by omega) (by omega)
    · exact jo_ask hh (kp_pm_deliver _ _) (fun ad fx M e1 e2 e3 e4 => ⟨0, by rw [← e1]; exact xP_deliver_n e2 h4 hz (Or.inr hy), pm_deliver_n e4 hz (Or.inr (Or.inl hy))⟩)
  · exact jo_ask hh (kp_pm_deliver _ _) (fun ad fx M e1 e2 e3 e4 => ⟨0, by rw [← e1]; exact xP_deliver_n e2 h4 hz (Or.inl hx), pm_deliver_n e4 hz (Or.inl hx)⟩)
theorem st_sweep (hl : zl_all l) (hc : c ≤ 512) (h : jo_ gl l m0 am p1 c Z W st) : js_ gl l m0 am p1 c Z W st (xP_sweep gl (some p1) x) (mm_sweep gl (some m0) x) := by
  have hh := h
  obtain ⟨h1, h2, h3, h4, h5, ad, fx, M, k1, k2, k3, k4, k5, k6⟩ := h
  have hz := h1.2.1.1
  rcases vt_or Z x with ⟨v, hv, rfl⟩ | hx
  · subst k1
    have hi := zA_80 h1 hc
    have hx := zA_x h1 hc
    obtain ⟨st1, W1, i, j, D, d1, a1, a2, a3, a4, a5, a6⟩ := xP_sweep_ok h1 hc h2 k2 h4 k4 hv
    obtain ⟨M', D', d2, b1, b2⟩ := pm_sweep_ok hl k6 hi hx hv
    have := isR_u d2 d1
    subst this
    exact jo_comb k2 k3 h5 k5 (kp_pm_sweep _) a1 a2 rfl a3 a4 b1 b2 (zA_sweep hl h1 hc hv d1) (zHW_sweep h2 h3) (by omega) (by omega)
  · exact jo_ask hh (kp_pm_sweep _) (fun ad fx M e1 e2 e3 e4 => ⟨-1, by rw [← e1]; exact xP_sweep_n e2 h4 hz hx, pm_sweep_n (pm_vat_n e4.1 hz hx)⟩)
theorem st_flying (hc : c ≤ 512) (h : jo_ gl l m0 am p1 c Z W st) : js_ gl l m0 am p1 c Z W st (xP_flying gl (some p1) x y) (mm_flying gl (some m0) x y) := by
  have h1 := h.1
  have h4 := h.2.2.2.1
  have hz := h1.2.1.1
  have hlz := zA_len h1 hc
  refine jo_ask h (kp_pm_flying _ _) (fun ad fx M e1 e2 e3 e4 => ?_)
  rw [← e1]
  rcases vt_or Z x with ⟨a, ha, rfl⟩ | hx
  · rcases vt_or Z y with ⟨b, hb, rfl⟩ | hy
    · exact ⟨_, xP_flying_ok e2 h4 hz ha hb, pm_flying_ok e4 hz h1.2.1.2.1.2.2.1 (by omega) ha hb⟩
    · exact ⟨0, xP_flying_n e2 h4 hz (Or.inr hy), pm_flying_n e4 hz (Or.inr ⟨⟨a, ha, rfl⟩, pm_vat_n e4.1 hz hy⟩)⟩
  · exact ⟨0, xP_flying_n e2 h4 hz (Or.inl hx), pm_flying_n e4 hz (Or.inl (pm_vat_n e4.1 hz hx))⟩
theorem st_inbox (h : jo_ gl l m0 am p1 c Z W st) : js_ gl l m0 am p1 c Z W st (xP_inbox gl (some p1) x) (mm_inbox gl (some m0) x) := by
  have h1 := h.1
  have h4 := h.2.2.2.1
  have hz := h1.2.1.1
  have hlen := zr_len h1.1.2.1.2.1 h1.1.2.1.1
  refine jo_ask h (kp_pm_inbox _) (fun ad fx M e1 e2 e3 e4 => ?_)
  rw [← e1]
  rcases vt_or Z x with ⟨a, ha, rfl⟩ | hx
  · exact ⟨_, xP_inbox_ok e2 h4 hz ha, pm_inbox_ok e4.2.2.2.1 e4.1 hz (by omega) (fun r hr => by have := (h1.2.1.2.1.2.1 r hr).1; omega) ha⟩
  · exact ⟨0, xP_inbox_n e2 h4 hz hx, pm_inbox_n e4.2.2.2.1 (by omega) (pm_vat_n e4.1 hz hx)⟩
theorem st_count (hc : c ≤ 512) (h : jo_ gl l m0 am p1 c Z W st) : js_ gl l m0 am p1 c Z W st (xP_count gl (some p1) x y) (mm_count gl (some m0) x y) := by
  have h1 := h.1
  have h4 := h.2.2.2.1
  have hz := h1.2.1.1
  have hlen := zr_len h1.1.2.1.2.1 h1.1.2.1.1
  have hzx := zA_x h1 hc
  refine jo_ask h (kp_pm_count _ _) (fun ad fx M e1 e2 e3 e4 => ?_)
  rw [← e1]
  rcases vt_or Z x with ⟨v, hv, rfl⟩ | hx
  · rcases in_8 y with ⟨k, hk, rfl⟩ | hy
    · exact ⟨_, xP_count_ok e2 h4 hz h1.2.1.2.2.1 h1.2.1.2.1 h.2.1 hzx hv hk, pm_count_ok e4 hz h1.2.1.2.1 hzx hv (by omega) hk⟩
    · exact ⟨0, xP_count_n e2 h4 hz h.2.1 hzx (Or.inr ⟨⟨v, hv, rfl⟩, hy⟩), pm_count_n e4 hz (Or.inr ⟨⟨v, hv, rfl⟩, hy⟩)⟩
  · exact ⟨0, xP_count_n e2 h4 hz h.2.1 hzx (Or.inl hx), pm_count_n e4 hz (Or.inl (pm_vat_n e4.1 hz hx))⟩
theorem st_imported (h : jo_ gl l m0 am p1 c Z W st) : js_ gl l m0 am p1 c Z W st (xP_imported gl (some p1) x y) (mm_imported gl (some m0) x y) := by
  have h4 := h.2.2.2.1
  have hz := h.1.2.1.1
  refine jo_ask h (kp_pm_imported _ _) (fun ad fx M e1 e2 e3 e4 => ?_)
  rw [← e1]
  rcases vt_or Z x with ⟨v, hv, rfl⟩ | hx
  · exact ⟨_, xP_imported_ok e2 h4 hz hv, pm_imported_ok e4 hz hv⟩
  · exact ⟨0, xP_imported_n e2 h4 hz hx, pm_imported_n (pm_vat_n e4.1 hz hx)⟩
theorem st_exported (h : jo_ gl l m0 am p1 c Z W st) : js_ gl l m0 am p1 c Z W st (xP_exported gl (some p1) x y) (mm_exported gl (some m0) x y) := by
  have h4 := h.2.2.2.1
  have hz := h.1.2.1.1
  refine jo_ask h (kp_pm_exported _ _) (fun ad fx M e1 e2 e3 e4 => ?_)
  rw [← e1]
  rcases vt_or Z y with ⟨v, hv, rfl⟩ | hx
  · exact ⟨_, xP_exported_ok e2 h4 h.1.2.1 hv, pm_exported_ok e4 hz h.1.2.1.2.1.1 hv⟩
  · exact ⟨0, xP_exported_n e2 h4 hz hx, pm_exported_n e4 hz (pm_vat_n e4.1 hz hx)⟩
theorem st_home (h : jo_ gl l m0 am p1 c Z W st) : js_ gl l m0 am p1 c Z W st (xP_home gl (some p1) x) (mm_home gl (some m0) x) := by
  refine jo_ask h (kp_pm_home _) (fun ad fx M e1 e2 e3 e4 => ?_)
  rw [← e1]
  exact ⟨_, xP_home_ok e2 h.2.2.2.1 h.1.2.1.1, pm_home_ok e4 h.1.2.1.1⟩
theorem st_slot (h : jo_ gl l m0 am p1 c Z W st) : js_ gl l m0 am p1 c Z W st (xP_slot gl (some p1) x y) (mm_slot gl (some m0) x y) := by
  refine jo_ask h (kp_pm_slot _ _) (fun ad fx M e1 e2 e3 e4 => ?_)
  rw [← e1]
  exact ⟨_, xP_slot_ok e2 h.2.2.2.1 h.1.2.1.1 h.1.2.1.2.2.1, pm_slot_ok e4 h.1.2.1.1⟩
theorem st_number (h : jo_ gl l m0 am p1 c Z W st) : js_ gl l m0 am p1 c Z W st (xP_number gl (some p1) x) (mm_number gl (some m0) x) := by
  refine jo_ask h (kp_pm_number _) (fun ad fx M e1 e2 e3 e4 => ?_)
  rw [← e1]
  exact ⟨_, xP_number_ok e2 h.2.2.2.1 h.1.2.1.1, pm_number_ok e4 h.1.2.1.1⟩
theorem st_resolved (h : jo_ gl l m0 am p1 c Z W st) : js_ gl l m0 am p1 c Z W st (xP_resolved gl (some p1) x) (mm_resolved gl (some m0) x) := by
  refine jo_ask h (kp_pm_resolved _) (fun ad fx M e1 e2 e3 e4 => ?_)
  rw [← e1]
  exact ⟨_, xP_resolved_ok e2 h.2.2.2.1 h.1.2.1.1 h.1.2.1.2.2.1, pm_resolved_ok e4 h.1.2.1.1⟩
theorem st_output (hc : c ≤ 512) (h : jo_ gl l m0 am p1 c Z W st) : js_ gl l m0 am p1 c Z W st (xP_output gl (some p1) x y) (mm_output gl (some m0) x y) := by
  have h4 := h.2.2.2.1
  have hz := h.1.2.1.1
  refine jo_ask h (kp_pm_output _ _) (fun ad fx M e1 e2 e3 e4 => ?_)
  rw [← e1]
  rcases vt_or Z x with ⟨v, hv, rfl⟩ | hx
  · exact ⟨_, xP_output_ok e2 h4 hz hv, pm_output_ok e4 hz hv (by have := h.1.2.2.2.2 v; omega)⟩
  · exact ⟨0, xP_output_n e2 h4 hz hx, pm_output_n (pm_vat_n e4.1 hz hx)⟩
end CJO
