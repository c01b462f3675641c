/-! The class: give, poke, inbox; calls are made. -/
section CGV
variable {gl : gl_T} {fx : fx_T} {ad : Nat × Nat → Nat} {W W' : cw_W} {st : st_S} {Z X : zz_S} {e a b s v L g u q t h p w ref c : Nat} {x : Int32} {lost l : List Nat}
theorem xP_isSlot_y (hs : s < 4) : xP_isSlot gl (nI s) st = some (1, st, 0, 0) := by
  unfold xP_isSlot
  exact ru_f (nI_pos (by omega)) (ru_f (show ¬ nI 4 ≤ nI s from nI_ge hs (by omega)) rfl)
theorem xP_isSlot_n {y : Int32} (hs : ∀ j, j < 4 → y ≠ nI j) : xP_isSlot gl y st = some (0, st, 0, 0) := by
  unfold xP_isSlot
  by_cases h0 : y < 0
  · exact ru_t h0 rfl
  · obtain ⟨j, hj, rfl⟩ := nI_of h0
    exact ru_f h0 (ru_t (show nI 4 ≤ nI j from nI_le (Nat.le_of_not_lt (fun z => hs j z rfl)) hj) rfl)
theorem xP_give_ok (hW : CW gl fx ad W st) (hR : RW Z W 50) (hB : zB Z) (hv : v < zn_ Z) (hw : w < zn_ Z) (hs : s < 4) : ∃ st' W', xP_give gl (some (ad (0, 0))) (nI v) (nI s) (nI w) st = some (1, st', 0, 0) ∧ CW gl fx ad W' st' ∧ RW (z_give Z v s w) W' 50 ∧ cwL_ W' = cwL_ W ∧ bk_ W' = bk_ W := by
  obtain ⟨b1, b2, b3, b4, b5, b6, b7⟩ := hB
  have hn := RW_n hR
  have h4 := b1.2.1
  have hno := b1.2.2.1
  have h60 := b1.2.2.2.1
  have hdv : cwd_ W (v + 1) = true := by
    rw [hR.2.1]
    exact (zk_K4 (Z := Z) (Or.inr (Or.inl ⟨by omega, by omega⟩))).resolve_left (by omega)
  have hdw : cwd_ W (w + 1) = true := by
    rw [hR.2.1]
    exact (zk_K4 (Z := Z) (Or.inr (Or.inl ⟨by omega, by omega⟩))).resolve_left (by omega)
  have hE : cwe_ W = ze_ Z := hR.2.2.1
  obtain ⟨st1, c1, c2, c3⟩ := cu_l (u := w + 1) hW hdv (by omega) hs (Or.inr hdw)
  rw [hE] at c2
  have hR1 := RW_e (e := v + 1) (E := ej_l (ze_ Z (v + 1)) s (w + 1)) hR
  rw [rf_s (by omega)] at c1
  have front : ∀ y, (if nI v = nI w then (xP_give_b79 gl ) else (st_g (so_gq (some (ad (16, w + 1))) [3] 7) fun t33 => st_g (so_li t33 0 (nI v)) fun t34 => st_w (so_si t33 0 (nI v) (t34 + (1 : Int32))) (st_g (so_gq (some (ad (16, w + 1))) [3] 8) fun t36 => st_g (so_li t36 0 (nI v)) fun t37 => st_w (so_si t36 0 (nI v) (t37 + (1 : Int32))) (xP_give_b79 gl )))) st1 = some y → xP_give gl (some (ad (0, 0))) (nI v) (nI s) (nI w) st = some y := by
    intro y hy
    obtain ⟨y1, y2, y3, y4⟩ := y
    unfold xP_give
    refine ru_g _ (r0_m hW) ?_
    refine ru_b (i2 := y3) (j2 := y4) (xP_isVat_y hW hR b1 hv) ?_ (by omega) (by omega)
    refine ru_f (by decide) ?_
    refine ru_b (i2 := y3) (j2 := y4) (xP_isSlot_y hs) ?_ (by omega) (by omega)
    refine ru_f (by decide) ?_
    refine ru_g _ (r0_m hW) ?_
    refine ru_b (i2 := y3) (j2 := y4) (xP_isVat_y hW hR b1 hw) ?_ (by omega) (by omega)
    refine ru_f (by decide) ?_
    refine ru_g _ (r0_0 hW) ?_
    refine ru_g _ (r1_l hW (by omega) (by omega)) ?_
    refine ru_g _ (r7_0 hW (by omega) (by omega)) ?_
    refine ru_g _ (r0_0 hW) ?_
    refine ru_g _ (r1_l hW (by omega) (by omega)) ?_
    refine ru_g _ (r7_0 hW (by omega) (by omega)) ?_
    refine ru_g _ (og_q (q := some (ad (20, v + 1))) (ro_at hW hdv (by omega)) (by simp) rfl) ?_
    exact ru_w _ c1 hy
  unfold z_give
  dsimp only
  by_cases hvw : v = w
  · rw [if_pos hvw]
    exact ⟨st1, _, front _ (ru_t (by rw [hvw]) rfl), c2, hR1, rfl, rfl⟩
  · rw [if_neg hvw]
    have hd1 : cwd_ (cj_e W (v + 1) (ej_l (ze_ Z (v + 1)) s (w + 1))) (w + 1) = true := hdw
    have hL1 : cwL_ (cj_e W (v + 1) (ej_l (ze_ Z (v + 1)) s (w + 1))) = cwL_ W := rfl
    have hb1 : bk_ (cj_e W (v + 1) (ej_l (ze_ Z (v + 1)) s (w + 1))) = bk_ W := rfl
    generalize cj_e W (v + 1) (ej_l (ze_ Z (v + 1)) s (w + 1)) = W1 at c2 hR1 hd1 hL1 hb1
    generalize zj_e Z (v + 1) (ej_l (ze_ Z (v + 1)) s (w + 1)) = Z1 at hR1
    have hE1 : cwe_ W1 = ze_ Z1 := hR1.2.2.1
    obtain ⟨st2, g1, g2, g3⟩ := cu_x (d := 1) c2 hd1 (show v < 4 by omega) (y := Int32.ofInt (ex_ (cwe_ W1 (w + 1)) v) + 1) (oi_1 _)
    rw [hE1] at g2
    have hR2 := RW_e (e := w + 1) (E := ej_x (ze_ Z1 (w + 1)) v 1) hR1
    have hd2 : cwd_ (cj_e W1 (w + 1) (ej_x (ze_ Z1 (w + 1)) v 1)) (w + 1) = true := hd1
    have hL2 : cwL_ (cj_e W1 (w + 1) (ej_x (ze_ Z1 (w + 1)) v 1)) = cwL_ W := hL1
    have hb2 : bk_ (cj_e W1 (w + 1) (ej_x (ze_ Z1 (w + 1)) v 1)) = bk_ W := hb1
    generalize cj_e W1 (w + 1) (ej_x (ze_ Z1 (w + 1)) v 1) = W2 at g2 hR2 hd2 hL2 hb2
    generalize zj_e Z1 (w + 1) (ej_x (ze_ Z1 (w + 1)) v 1) = Z2 at hR2
    have hE2 : cwe_ W2 = ze_ Z2 := hR2.2.2.1
    obtain ⟨st3, k1, k2, k3⟩ := cu_i (d := ei_ (cwe_ W2 (w + 1)) v + 1) g2 hd2 (show v < 4 by omega) (y := Int32.ofInt (ei_ (cwe_ W2 (w + 1)) v) + 1) (oi_1 _)
    rw [hE2] at k2
    refine ⟨st3, _, front _ (ru_f (fun z => hvw ((nI_eq (by omega) (by omega)).mp z)) ?_), k2, RW_e hR2, hL2, hb2⟩
    refine ru_g _ (og_q (q := some (ad (17, w + 1))) (ro_at c2 hd1 (by omega)) (by simp) rfl) ?_
    refine ru_g _ (og_li (at_17 c2 hd1) (show v < 4 by omega) (by decide)) ?_
    refine ru_w _ g1 ?_
    refine ru_g _ (og_q (q := some (ad (18, w + 1))) (ro_at g2 hd2 (by omega)) (by simp) rfl) ?_
    refine ru_g _ (og_li (at_18 g2 hd2) (show v < 4 by omega) (by decide)) ?_
    exact ru_w _ k1 rfl
/-! calls are made -/
theorem xC_ok {r1 r2 r3 : Option Nat} : xC_init gl (some st.2) r1 x r2 r3 (st_ad st (.inr (.inr (8, cd_8)))) = some ((), st_ad st (.inr (.inr (8, [va_rf r1, .int x, va_rf r2, va_rf r3]))), 0, 0) := by
  unfold xC_init
  refine ru_g _ (og_c ad_s) ?_
  refine ru_w _ (og_p ad_s (by simp) (by simp [cd_8])) ?_
  rw [ad_up]
  refine ru_w _ (og_p ad_s (by simp) (by simp [cd_8])) ?_
  rw [ad_up]
  refine ru_w _ (og_p ad_s (by simp) (by simp [cd_8])) ?_
  rw [ad_up]
  refine ru_w _ (og_p ad_s (by simp) (by simp [cd_8])) ?_
  rw [ad_up]
  rfl
theorem cu_newC (h : CW gl fx ad W st) {m : Nat × Int32 × Nat × Nat} : CW gl fx ad (cj_C W st.2 (some m)) (st_ad st (.inr (.inr (8, [va_rf (rf_ ad m.1), .int m.2.1, va_rf (rf_ ad m.2.2.1), va_rf (rf_ ad m.2.2.2)])))) := by
  unfold CW
  rw [hu_C]
  refine cv_ad (ad := aw_ ad W) h ?_ (fun q x hq => rfl) rfl
  show (cwC_ W st.2).map _ = none
  rw [new_C h]
  rfl
/-- an address where no call lies is held by nobody -/
theorem fa_new (hR : RW Z W 50) (hn : cwC_ W a = none) : fa_ W 50 (zn_ Z) a := by
  refine ⟨fun L hv hL hLs ha => rwl_some (hR.2.2.2.2.2.1 L hv hL hLs) a ha hn, fun c d hc hd y hy m hm hma => ?_⟩
  have h1 := hR.2.2.2.2.2.2.1 c d hc hd
  have h2 : mwv_ W y ∈ (cwl_ W (4 + (4 * c + d))).map (mwv_ W) := List.mem_map.mpr ⟨y, hy, rfl⟩
  have h4 : mwv_ W y = some (m.1, m.2.1, m.2.2.1, m.2.2.2.1, some none) := by
    unfold mwv_
    rw [hm]
    show some (_, _, _, _, m.2.2.2.2.map (cwC_ W)) = _
    rw [hma]
    show some (_, _, _, _, some (cwC_ W a)) = _
    rw [hn]
  rw [h1, h4] at h2
  obtain ⟨r, hr, h3⟩ := List.mem_map.mp h2
  have h5 : (if r.1 = 1 then some (some (r.2.2.2.1, r.2.2.2.2.1, r.2.2.2.2.2.1, r.2.2.2.2.2.2)) else none) = some none := congrArg (fun z => z.2.2.2.2) (Option.some.inj h3)
  split at h5
  · cases h5
  · cases h5
theorem xP_poke_ok (hA : zA l c Z) (hc : c ≤ 512) (hH : zH Z) (hW : CW gl fx ad W st) (hR : RW Z W 50) (hL : lr_ ad W []) (hv : v < zn_ Z) : ∃ st' W' i j, xP_poke gl (some (ad (0, 0))) (nI v) x st = some (bi_ (z_poke Z v x).2, st', i, j) ∧ CW gl fx ad W' st' ∧ RW (z_poke Z v x).1 W' 50 ∧ lr_ ad W' [] ∧ i + bk_ W ≤ bk_ W' + 1 ∧ j + 4 * bk_ W ≤ 4 * bk_ W' + 4 := by
  have hlz := zA_len hA hc
  obtain ⟨⟨b1, ⟨b2, hA0, hph⟩, b3, b4⟩, hB, hpk, hE, hzt⟩ := hA
  have hn := RW_n hR
  have h4 := b1.2.1
  have hno := b1.2.2.1
  have hrl := zr_len hA0 b2
  have hvl := cwv_v (W := W) (v := v) (by omega) (by omega)
  have hsz := cu_size hW hvl hR.2.2.2.2.2.2.2
  rw [len_L hR hvl (Or.inl (by omega)) (by omega)] at hsz
  have e0 : z_waits Z v = z_inbox Z v := rfl
  rw [e0] at hsz
  have hle : z_inbox Z v ≤ 200 := Nat.le_trans (List.length_filter_le _ _) (by omega)
  have front : ∀ y : Int32 × st_S × Nat × Nat, (if nI (z_inbox Z v) < (20 : Int32) then (st_n (.inr (.inr (8, cd_8))) 4 fun t20 => st_g (so_gq (some (ad (0, 0))) [0] 0) fun t24 => st_g (so_lq t24 [4] (nI v)) fun t25 => st_g (so_gq t25 [5] 0) fun t26 => st_b (xC_init gl (some t20) t26 x none none) fun _ => st_g (so_cm (some (ad (0, 0))) [0]) fun _ => st_b (xP_arrive gl (some (ad (0, 0))) (some t20) (nI v)) fun _ => st_r (1 : Int32)) else (xP_poke_b25 gl )) st = some y → xP_poke gl (some (ad (0, 0))) (nI v) x st = some y := by
    intro y hy
    obtain ⟨y1, y2, y3, y4⟩ := y
    unfold xP_poke
    refine ru_g _ (r0_m hW) ?_
    refine ru_b (i2 := y3) (j2 := y4) (xP_isVat_y hW hR b1 hv) ?_ (by omega) (by omega)
    refine ru_f (by decide) ?_
    refine ru_g _ (r0_0 hW) ?_
    refine ru_g _ (r1_l hW (by omega) (by omega)) ?_
    refine ru_g _ (r7_1 hW (by omega) (by omega)) ?_
    refine ru_g _ (cu_lm hW hvl) ?_
    exact ru_b (i2 := y3) (j2 := y4) hsz hy (by omega) (by omega)
  unfold z_poke
  by_cases hc20 : z_inbox Z v < 20
  · rw [if_pos hc20]
    obtain ⟨r1, r2⟩ := hB.2.2.2.2.2.2 v hv
    have hKv : zk_K Z (v + 1) := zk_K4 (Or.inr (Or.inl ⟨by omega, by omega⟩))
    have hnew := new_C hW
    have hfa := fa_new hR hnew
    have hW1 := cu_newC hW (m := (v + 1, x, 0, 0))
    have hR1 := RW_C (c := (v + 1, x, 0, 0)) hR hfa
    have hc1 : cwC_ (cj_C W st.2 (some (v + 1, x, 0, 0))) st.2 = some (v + 1, x, 0, 0) := va_up_self _ _ _
    have hz0 : zo_ Z ≤ 60 := b1.2.2.2.1
    obtain ⟨st', W', i, j, a1, a2, a3, a4, a5, a6⟩ := xP_arrive_ok (h := v) (a := st.2) hW1 hR1 (show lr_ ad (cj_C W st.2 (some (v + 1, x, 0, 0))) [] from hL) hB hH hv hc1 hKv (by omega) r1 zk_K0 zk_K0 (Or.inl rfl) (fa_C hfa) (Or.inl rfl) (by decide) (by omega) (by omega)
    have hgo : z_go Z [] v (v + 1) x 0 0 = (zj_r Z (zr_ Z ++ [(v, v + 1, x, 0, 0)]), []) := by
      have hf : z_follow Z v 101 (v + 1) = v + 1 := zfollow_it 0 101 (v + 1) (by omega) (fun j hj => by omega) (by
        show zk_pass Z v (v + 1) = false
        unfold zk_pass
        rw [decide_eq_false (by omega)]
        rfl)
      unfold z_go
      rw [hf]
      dsimp only
      rw [if_neg (by omega), if_neg (fun z => z r1), if_neg (by omega)]
    rw [hgo] at a3 a4 a6
    obtain ⟨x1, x2⟩ := a6
    have hzl : (zl_ (zj_r Z (zr_ Z ++ [(v, v + 1, x, 0, 0)]))).length = (zl_ Z).length := rfl
    have hb0 : bk_ (cj_C W st.2 (some (v + 1, x, 0, 0))) = bk_ W := rfl
    dsimp only at x1 x2
    rw [hzl, hb0] at x1 x2
    refine ⟨st', W', 1 + i, 4 + j, front _ (ru_t (show nI (z_inbox Z v) < nI 20 from nI_lt hc20 (by decide)) ?_), a2, a3, a4, by omega, by omega⟩
    refine ru_n (i2 := i) (j2 := j) ?_ rfl rfl
    have keep : ∀ {y : ce_E} {k : Nat}, st.1 k = some y → (st_ad st (.inr (.inr (8, cd_8)))).1 k = some y := fun hy => (ad_n (Nat.ne_of_lt (sw_lt hW.2.2.1 hy))).trans hy
    refine ru_g _ (og_q (q := some (ad (1, 0))) (keep (at_0 hW)) (by simp) rfl) ?_
    refine ru_g _ ((og_lq (keep (at_1 hW)) (by simp) (show v < cwn_ W by omega) (by omega)).trans (by rw [if_pos (show v < cwn_ W by omega)])) ?_
    refine ru_g _ (og_q (q := some (ad (16, v + 1))) (keep (at_7 hW ⟨by omega, by omega⟩)) (by simp) rfl) ?_
    refine ru_b (i2 := i) (j2 := j) xC_ok ?_ (by omega) (by omega)
    have hW1' := hW1
    rw [show rf_ ad (v + 1, x, 0, 0).1 = some (ad (16, v + 1)) from rf_s (by show v + 1 ≠ 0; omega)] at hW1'
    refine ru_g _ (r0_m hW1') ?_
    rw [show rf_ ad (v + 1, x, 0, 0).1 = some (ad (16, v + 1)) from rf_s (by show v + 1 ≠ 0; omega)] at a1
    exact ru_b a1 rfl rfl rfl
  · rw [if_neg hc20]
    refine ⟨st, W, 0, 0, front _ (ru_f (show ¬ nI (z_inbox Z v) < nI 20 from nI_nlt (by omega) (by omega)) rfl), hW, hR, hL, by omega, by omega⟩
end CGV
