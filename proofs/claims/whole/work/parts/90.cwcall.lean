/-! The class: calls are posted, lost, rest. -/
section CCL
variable {gl : gl_T} {fx : fx_T} {ad : Nat × Nat → Nat} {W W' : cw_W} {st : st_S} {Z X : zz_S} {e a b s v L g u q t h : Nat} {x : Int32} {lost : List Nat}
theorem rd_C (hW : CW gl fx ad W st) {c : Nat × Int32 × Nat × Nat} (hc : cwC_ W a = some c) : st.1 a = some (.inr (.inr (8, [va_rf (rf_ ad c.1), .int c.2.1, va_rf (rf_ ad c.2.2.1), va_rf (rf_ ad c.2.2.2)]))) := cv_at (ad := aw_ ad W) hW (hk_22 hc)
theorem rC_0 (hW : CW gl fx ad W st) {c : Nat × Int32 × Nat × Nat} (hc : cwC_ W a = some c) : so_gq (some a) [8] 0 st = some (rf_ ad c.1) := og_q (rd_C hW hc) (by simp) rfl
theorem rC_1 (hW : CW gl fx ad W st) {c : Nat × Int32 × Nat × Nat} (hc : cwC_ W a = some c) : so_gi (some a) [8] 1 st = some c.2.1 := og_i (rd_C hW hc) (by simp) rfl
theorem rC_2 (hW : CW gl fx ad W st) {c : Nat × Int32 × Nat × Nat} (hc : cwC_ W a = some c) : so_gq (some a) [8] 2 st = some (rf_ ad c.2.2.1) := og_q (rd_C hW hc) (by simp) rfl
theorem rC_3 (hW : CW gl fx ad W st) {c : Nat × Int32 × Nat × Nat} (hc : cwC_ W a = some c) : so_gq (some a) [8] 3 st = some (rf_ ad c.2.2.2) := og_q (rd_C hW hc) (by simp) rfl
theorem zH_s (hH : zH Z) (f0 : X.1 = Z.1) (hh : ∀ e, zh_ X e = zh_ Z e) : zH X := fun e he => by
  rw [hh]
  have e1 : zn_ X = zn_ Z := by unfold zn_; rw [f0]
  rw [e1]
  refine hH e ?_
  unfold zk_made zo_ zp_ at he ⊢
  rw [f0] at he
  exact he
theorem xP_postCall_ok (hW : CW gl fx ad W st) (hR : RW Z W s) (hz : zw_n Z) (hk : zk_w Z) (hH : zH Z) (hh : h < zn_ Z) (ht : zk_made Z t = true) (he : zk_K Z e) (hlen : (zl_ Z).length ≤ 2300) (hc : cwC_ W a = some (t, x, e, q)) :
    ∃ st' W' i j, xP_postCall gl (some (ad (0, 0))) (some a) (nI h) st = some ((), st', i, j) ∧ CW gl fx ad W' st' ∧ RW (z_post (z_pack Z h (zh_ Z t) e) 1 h (zh_ Z t) t x e q) W' s ∧ pf_ W W' ∧ cst_ W Z i j W' (z_post (z_pack Z h (zh_ Z t) e) 1 h (zh_ Z t) t x e q) := by
  have hn4 := hz.2.1
  have htn := hH t ht
  have ht0 : t ≠ 0 := made_n0 ht
  have hd : cwd_ W t = true := by rw [hR.2.1 t]; exact ht
  have hE : cwe_ W t = ze_ Z t := by rw [hR.2.2.1]
  have hht := re_h hW hd
  rw [hE] at hht
  have e0 : eh_ (ze_ Z t) = zh_ Z t := rfl
  rw [e0] at hht
  obtain ⟨st1, W1, i1, j1, p1, p2, p3, p4, p5⟩ := xP_pack_ok hW hR hz hk hH hh htn he (by omega)
  have hc1 : cwC_ W1 a = some (t, x, e, q) := by rw [p4.1]; exact hc
  have hf : zf_ Z (z_pack Z h (zh_ Z t) e) := zf_pack
  have hz1 : zw_n (z_pack Z h (zh_ Z t) e) := zw_f hz hf.1 hf.2.1
  have hn1 : zn_ (z_pack Z h (zh_ Z t) e) = zn_ Z := by unfold zn_; rw [hf.1]
  have hl1 := zl_pack (Z := Z) (a := h) (b := zh_ Z t) (e := e)
  generalize z_pack Z h (zh_ Z t) e = Z1 at p3 p5 hz1 hn1 hl1
  have hn := RW_n p3
  have hM := cu_newM p2 (m := (1, t, e, 0, some a))
  have hRM := RW_newM p3 (new_M p2) (m := (1, t, e, 0, some a))
  have hmm : cwM_ (cj_M W1 st1.2 (some (1, t, e, 0, some a))) st1.2 = some (1, t, e, 0, some a) := va_up_self _ _ _
  obtain ⟨st', W', i, j, a1, a2, a3, a4, a5, a6⟩ := xP_post_ok hM hRM.2.2.2.2.2.2.2 (RW_d hRM hz1) (a := h) (b := zh_ Z t) (by show h < cwn_ W1; omega) (by show zh_ Z t < cwn_ W1; omega) (by show cwn_ W1 ≤ 4; omega) (q := st1.2) (by rw [hmm]; exact fun c => by cases c)
  have hRP := RW_post hRM (by omega) (by omega) a3 (r := (1, h, zh_ Z t, t, x, e, q)) ⟨rfl, rfl⟩ (by
    unfold mwv_ mzv_
    rw [hmm]
    show some (1, t, e, 0, (some a).map (cwC_ W1)) = some (1, t, e, if (1 : Nat) = 1 then 0 else x, if (1 : Nat) = 1 then some (some (t, x, e, q)) else none)
    rw [if_pos rfl, if_pos rfl]
    show some (1, t, e, 0, some (cwC_ W1 a)) = _
    rw [hc1]) (by omega) (by omega) (by omega) (by omega)
  obtain ⟨e1, e2, e3, e4, e5, e6, e7, e8, e9, e10, e11⟩ := wad_e a3
  have hb0 : bk_ (cj_M W1 st1.2 (some (1, t, e, 0, some a))) = bk_ W1 := rfl
  rw [hb0] at a4 a5
  have hzl : (zl_ (z_post Z1 1 h (zh_ Z t) t x e q)).length = (zl_ Z1).length + 1 := by
    show (zl_ Z1 ++ [_]).length = _
    rw [List.length_append]
    rfl
  refine ⟨st', W', i1 + (1 + i), j1 + (5 + j), ?_, a2, hRP, pf_t p4 ⟨by rw [e6]; rfl, by rw [e9]; rfl, by rw [e10]; rfl, fun L hL => (wad_n a3 (by omega)).trans rfl, mf_new (new_M p2) e7 e2 e6⟩, cst_t p5 ⟨by rw [hzl]; omega, by rw [hzl]; omega⟩⟩
  unfold xP_postCall
  refine ru_g _ (rC_0 hW hc) ?_
  rw [rf_s ht0]
  refine ru_g _ hht ?_
  refine ru_g _ (rC_2 hW hc) ?_
  refine ru_g _ (r0_m hW) ?_
  refine ru_b (i2 := 1 + i) (j2 := 5 + j) p1 ?_ rfl rfl
  refine ru_n (i2 := i) (j2 := j) ?_ rfl rfl
  have keep : ∀ {y : ce_E}, st1.1 a = some y → (st_ad st1 (.inr (.inr (9, cd_9)))).1 a = some y := fun hy => (ad_n (Nat.ne_of_lt (sw_lt p2.2.2.1 hy))).trans hy
  have hca := keep (rd_C p2 hc1)
  refine ru_g _ (og_q (q := rf_ ad t) hca (by simp) rfl) ?_
  refine ru_g _ (og_q (q := rf_ ad e) hca (by simp) rfl) ?_
  refine ru_b (i2 := i) (j2 := j) xM_ok ?_ (by omega) (by omega)
  refine ru_w _ (og_p ad_s (by simp) (by simp)) ?_
  rw [ad_up]
  refine ru_g _ (r0_m hM) ?_
  exact ru_b a1 rfl rfl rfl
/-! lost answers -/
theorem hL_n {y : Int32 × (Nat → Option Nat)} : ∀ (k : Nat × Nat), k ≠ (0, 0) → k ≠ (5, 0) → hc_ gl ad (cj_L W y) k = hc_ gl ad W k
  | (0, i), h, _ => by
    have hi : i ≠ 0 := fun z => h (by rw [z])
    show (if i = 0 then _ else none) = (if i = 0 then _ else none)
    rw [if_neg hi, if_neg hi]
  | (1, i), _, _ => rfl
  | (2, i), _, _ => rfl
  | (3, i), _, _ => rfl
  | (4, i), _, _ => rfl
  | (5, i), _, h => by
    have hi : i ≠ 0 := fun z => h (by rw [z])
    show (if i = 0 then _ else none) = (if i = 0 then _ else none)
    rw [if_neg hi, if_neg hi]
  | (6, i), _, _ => rfl
  | (7, i), _, _ => rfl
  | (8, i), _, _ => rfl
  | (9, i), _, _ => rfl
  | (10, i), _, _ => rfl
  | (11, i), _, _ => rfl
  | (12, i), _, _ => rfl
  | (13, i), _, _ => rfl
  | (14, i), _, _ => rfl
  | (15, i), _, _ => rfl
  | (16, i), _, _ => rfl
  | (17, i), _, _ => rfl
  | (18, i), _, _ => rfl
  | (19, i), _, _ => rfl
  | (20, i), _, _ => rfl
  | (21, i), _, _ => rfl
  | (22, i), _, _ => rfl
  | (23, i), _, _ => rfl
  | (n + 24, i), _, _ => rfl
theorem hu_L {y : Int32 × (Nat → Option Nat)} : hc_ gl ad (cj_L W y) = ku_ (ku_ (hc_ gl ad W) (5, 0) (.inr (.inl (7, 100, y.2)))) (0, 0) (.inr (.inr (0, [.ref (ad (1, 0)), .ref (ad (2, 0)), .ref (ad (3, 0)), .int (nI (cwo_ W)), .int (nI (cwp_ W)), .ref (ad (4, 0)), .ref (ad (5, 0)), .int y.1, .ref (ad (6, 0)), .int (cwF_ W).1]))) := by
  funext k
  by_cases h0 : k = (0, 0)
  · subst h0
    rw [ku_s]
    rfl
  · rw [ku_n h0]
    by_cases h5 : k = (5, 0)
    · subst h5
      rw [ku_s]
      rfl
    · rw [ku_n h5]
      exact hL_n k h0 h5
/-- the count alone -/
theorem cu_L0 (hW : CW gl fx ad W st) {y : Int32} : ∃ st', so_p (some (ad (0, 0))) [0] 7 (.int y) st = some st' ∧ CW gl fx ad (cj_L W (y, (cwL_ W).2)) st' ∧ st'.2 = st.2 := by
  refine ⟨_, og_p (at_0 hW) (by simp) (by simp), ?_, rfl⟩
  have := cv_up (ad := aw_ ad W) (c := .inr (.inr (0, [.ref (ad (1, 0)), .ref (ad (2, 0)), .ref (ad (3, 0)), .int (nI (cwo_ W)), .int (nI (cwp_ W)), .ref (ad (4, 0)), .ref (ad (5, 0)), .int y, .ref (ad (6, 0)), .int (cwF_ W).1]))) hW hk_0
  refine cv_sub (ad := aw_ ad W) this (fun k c hc => ?_)
  rw [hu_L] at hc
  by_cases h0 : k = (0, 0)
  · rw [h0, ku_s] at hc ⊢
    exact hc
  · rw [ku_n h0] at hc ⊢
    by_cases h5 : k = (5, 0)
    · rw [h5, ku_s] at hc
      rw [h5]
      exact hc
    · rw [ku_n h5] at hc
      exact hc
theorem xP_lose_ok (hW : CW gl fx ad W st) (hR : RW Z W s) (hL : lr_ ad W lost) {c : Nat × Int32 × Nat × Nat} (hc : cwC_ W a = some c) (hq : zk_K Z c.2.2.2) (hq1 : c.2.2.2 = 0 ∨ 100 < c.2.2.2) (hlt : lost.length < 100) :
    ∃ st' W', xP_lose gl (some (ad (0, 0))) (some a) st = some ((), st', 0, 0) ∧ CW gl fx ad W' st' ∧ RW Z W' s ∧ lr_ ad W' (if 0 < c.2.2.2 then lost ++ [c.2.2.2] else lost) ∧ cwC_ W' = cwC_ W ∧ cwT_ W' = cwT_ W ∧ (∀ L, cwl_ W' L = cwl_ W L) ∧ bk_ W' = bk_ W ∧ cwM_ W' = cwM_ W := by
  unfold xP_lose
  by_cases h0 : c.2.2.2 = 0
  · rw [if_neg (by omega)]
    refine ⟨st, W, ?_, hW, hR, hL, rfl, rfl, fun _ => rfl, rfl, rfl⟩
    refine ru_g _ (rC_3 hW hc) ?_
    rw [h0]
    exact ru_t rfl rfl
  · rw [if_pos (by omega)]
    have hd : cwd_ W c.2.2.2 = true := (RW_K hR hq).resolve_left h0
    obtain ⟨l1, l2, l3⟩ := hL
    have his : so_is st (rf_ ad c.2.2.2) [4] = true := by
      rw [rf_s h0]
      exact og_is (rp_at hW hd (by omega)) (by simp)
    have h5 := og_sq (q := rf_ ad c.2.2.2) (at_5 hW) (ts := [7]) (by simp) hlt (by decide) his
    have hW5 := cv_up (ad := aw_ ad W) (c := .inr (.inl (7, 100, va_up (cwL_ W).2 lost.length (rf_ ad c.2.2.2)))) hW hk_5
    have hne : ad (0, 0) ≠ ad (5, 0) := cv_ne (ad := aw_ ad W) hW hk_0 hk_5 (by decide)
    have h00 : (st_up st (ad (5, 0)) (.inr (.inl (7, 100, va_up (cwL_ W).2 lost.length (rf_ ad c.2.2.2))))).1 (ad (0, 0)) = _ := (up_n hne).trans (at_0 hW)
    refine ⟨st_up (st_up st (ad (5, 0)) (.inr (.inl (7, 100, va_up (cwL_ W).2 lost.length (rf_ ad c.2.2.2))))) (ad (0, 0)) (.inr (.inr (0, [.ref (ad (1, 0)), .ref (ad (2, 0)), .ref (ad (3, 0)), .int (nI (cwo_ W)), .int (nI (cwp_ W)), .ref (ad (4, 0)), .ref (ad (5, 0)), .int (nI (lost.length + 1)), .ref (ad (6, 0)), .int (cwF_ W).1]))), cj_L W (nI (lost.length + 1), va_up (cwL_ W).2 lost.length (rf_ ad c.2.2.2)), ?_, ?_, ?_, ?_, rfl, rfl, fun _ => rfl, rfl, rfl⟩
    rotate_left
    · unfold CW
      rw [hu_L]
      exact cv_up (ad := aw_ ad W) hW5 ((ku_n (by decide)).trans hk_0)
    · obtain ⟨h1, h2, h3, h4, h5, h6, h7, h8⟩ := hR
      exact ⟨h1, h2, h3, h4, h5, h6, h7, h8⟩
    · refine ⟨by rw [List.length_append]; rfl, by rw [List.length_append, List.length_singleton]; omega, fun i q hi => ?_⟩
      show va_up (cwL_ W).2 lost.length (rf_ ad c.2.2.2) i = _
      by_cases hil : i < lost.length
      · rw [va_up_ne _ _ (by omega)]
        rw [List.getElem?_append_left hil] at hi
        exact l3 i q hi
      · have : i = lost.length := by
          have := (List.getElem?_eq_some_iff.mp hi).1
          rw [List.length_append, List.length_singleton] at this
          omega
        subst this
        rw [va_up_self, rf_s h0]
        rw [List.getElem?_append_right (Nat.le_refl _), Nat.sub_self] at hi
        cases hi
        rfl
    refine ru_g _ (rC_3 hW hc) ?_
    refine ru_f (fun z => by rw [rf_s h0] at z; cases z) ?_
    refine ru_g _ (r0_7 hW) ?_
    refine ru_g _ (r0_6 hW) ?_
    refine ru_g _ (og_n (at_5 hW) (by simp)) ?_
    rw [l1]
    refine ru_f (nI_ge hlt (by decide)) ?_
    refine ru_g _ (r0_6 hW) ?_
    refine ru_g _ (r0_7 hW) ?_
    rw [l1]
    refine ru_g _ (rC_3 hW hc) ?_
    refine ru_w _ h5 ?_
    refine ru_g _ (og_i h00 (by simp) rfl) ?_
    rw [l1, nI_1]
    exact ru_w _ (og_p h00 (by simp) (by simp)) rfl
end CCL
