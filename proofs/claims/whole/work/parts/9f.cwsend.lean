/-! The class: a turn makes a promise and a call. -/
section CSD
variable {gl : gl_T} {fx : fx_T} {ad : Nat × Nat → Nat} {W W' : cw_W} {st st' : st_S} {Z X : zz_S} {e a b s v L g u q t h p w ref c n f y o r : Nat} {x op k : Int32} {lost l : List Nat} {E : ze_E} {N : Nat × Nat × Nat}
theorem made_p (hz : zw_n Z) : zk_made Z (101 + zp_ Z) = false := by
  have := hz.2.2.2.1
  unfold zk_made
  rw [decide_eq_false (p := 101 + zp_ Z ≤ zo_ Z) (by omega), decide_eq_false (p := 101 + zp_ Z ≤ 100 + zp_ Z) (by omega)]
  simp
theorem made_pX (f : Nat) : zk_made (z_prom Z h) f = if f = 101 + zp_ Z then true else zk_made Z f := by
  show (decide (1 ≤ f) && decide (f ≤ zo_ Z) || decide (101 ≤ f) && decide (f ≤ 100 + (zp_ Z + 1))) = _
  by_cases z : f = 101 + zp_ Z
  · rw [if_pos z, decide_eq_true (p := 101 ≤ f) (by omega), decide_eq_true (p := f ≤ 100 + (zp_ Z + 1)) (by omega)]
    simp
  · rw [if_neg z]
    unfold zk_made
    by_cases z2 : 101 ≤ f
    · rw [decide_eq_decide.mpr (show f ≤ 100 + (zp_ Z + 1) ↔ f ≤ 100 + zp_ Z by omega)]
    · rw [decide_eq_false z2]
      rfl
theorem cn_100 (m : Nat) : (100 : Int32) + nI m = nI (100 + m) := by
  rw [show (100 : Int32) = nI 100 from rfl, nI_add]
theorem xP_callnew (hW : CW gl fx ad W st) (hR : RW Z W 50) (hz : zw_n Z) (hd : zd_ (zk_K Z) Z) (hL : lr_ ad W []) (hT : cwT_ W = (o, x, r, k)) (ho : zk_made Z o = true) (ho1 : o ≤ 100) (hov : zh_ Z o = v) (hr : zk_K Z r) (ht : zk_made Z t = true) (hp : zp_ Z < 100) :
    ∃ ad' st' W' a, CW gl fx ad' W' st' ∧ RW (z_prom Z (zh_ Z t)) W' 50 ∧ lr_ ad' W' [] ∧ cwC_ W' a = some (t, x, r, 101 + zp_ Z) ∧ fa_ W' 50 (zn_ Z) a ∧ ag_ ad ad' W ∧ cwT_ W' = cwT_ W ∧ kc_ Z W W' ∧ bk_ W' = bk_ W ∧
    ∀ (y1 : Option Nat) (y2 : st_S) (y3 y4 : Nat), (if nI (zh_ Z t) = nI v then
  (st_g (so_cm (some (ad (0, 0))) [0]) fun _ =>
  st_b (xP_arrive gl (some (ad (0, 0))) (some a) (nI v)) fun _ =>
  xP_callFrom_b126 gl (some (ad' (16, 101 + zp_ Z))))
  else
  (st_g (so_cm (some (ad (0, 0))) [0]) fun _ =>
  st_b (xP_postCall gl (some (ad (0, 0))) (some a) (nI v)) fun _ =>
  st_g (so_gq (some (ad' (16, 101 + zp_ Z))) [4] 7) fun t55 =>
  st_w (so_si t55 0 (nI v) (1 : Int32)) (
  st_g (so_gq (some (ad' (16, 101 + zp_ Z))) [4] 8) fun t57 =>
  st_w (so_si t57 0 (nI v) (1 : Int32)) (
  xP_callFrom_b126 gl (some (ad' (16, 101 + zp_ Z))))))) st' = some (y1, y2, y3, y4) → xP_callFrom gl (some (ad (0, 0))) (some (ad (4, 0))) (rf_ ad t) st = some (y1, y2, 6 + y3, 41 + y4) := by
  have hn := RW_n hR
  have hz4 := hz.2.1
  have hzo := hz.2.2.1
  have t0 : t ≠ 0 := made_n0 ht
  obtain ⟨e, he⟩ : ∃ e, e = 101 + zp_ Z := ⟨_, rfl⟩
  obtain ⟨E, hE⟩ : ∃ E : ze_E, E = (zh_ Z t, false, false, 0, 0, 0, fun _ => 0, fun _ => 0, fun _ => 0, fun _ _ => 0) := ⟨_, rfl⟩
  have hme : zk_made Z e = false := by rw [he]; exact made_p hz
  have he0 : e ≠ 0 := by omega
  have hKe : ∀ f, zk_K Z f → f ≠ e := fun f hf => K_ne hme he0 hf
  have hN0 : cwN_ W = Z.1 := hR.1
  have hW0 := cu_N (N := (zn_ Z, zo_ Z, zp_ Z + 1)) hW (by show zn_ Z = cwn_ W; omega)
  have w0 : so_p (some (ad (0, 0))) [0] 4 (.int (nI (zp_ Z) + 1)) st = some _ := og_p (at_0 hW) (by simp) (by simp)
  rw [nI_1] at w0
  have hst0 : (st_up st (ad (0, 0)) (.inr (.inr (0, [Value.ref (ad (1, 0)), .ref (ad (2, 0)), .ref (ad (3, 0)), .int (nI (cwo_ W)), .int (nI (cwp_ W)), .ref (ad (4, 0)), .ref (ad (5, 0)), .int (cwL_ W).1, .ref (ad (6, 0)), .int (cwF_ W).1].set 4 (.int (nI (zp_ Z + 1))))))) = st_up st (ad (0, 0)) (.inr (.inr (0, [.ref (ad (1, 0)), .ref (ad (2, 0)), .ref (ad (3, 0)), .int (nI (zo_ Z)), .int (nI (zp_ Z + 1)), .ref (ad (4, 0)), .ref (ad (5, 0)), .int (cwL_ W).1, .ref (ad (6, 0)), .int (cwF_ W).1]))) := by
    rw [← hn.2.1]
    rfl
  rw [hst0] at w0
  have hW0' : CW gl fx ad (cj_N W (zn_ Z, zo_ Z, zp_ Z + 1)) (st_up st (ad (0, 0)) (.inr (.inr (0, [.ref (ad (1, 0)), .ref (ad (2, 0)), .ref (ad (3, 0)), .int (nI (zo_ Z)), .int (nI (zp_ Z + 1)), .ref (ad (4, 0)), .ref (ad (5, 0)), .int (cwL_ W).1, .ref (ad (6, 0)), .int (cwF_ W).1])))) := hW0
  generalize st_up st (ad (0, 0)) (.inr (.inr (0, [.ref (ad (1, 0)), .ref (ad (2, 0)), .ref (ad (3, 0)), .int (nI (zo_ Z)), .int (nI (zp_ Z + 1)), .ref (ad (4, 0)), .ref (ad (5, 0)), .int (cwL_ W).1, .ref (ad (6, 0)), .int (cwF_ W).1]))) = st0 at w0 hW0'
  clear hW0 hst0
  have hsw := hW0'.2.2.1
  have hdm : ∀ f, zk_made Z f = true → cwd_ (cj_N W (zn_ Z, zo_ Z, zp_ Z + 1)) f = true := fun f hf => by
    show cwd_ W f = true
    rw [hR.2.1 f]
    exact hf
  have o0 : o ≠ 0 := made_n0 ho
  have hnw : nw_ (cj_N W (zn_ Z, zo_ Z, zp_ Z + 1)) e := by
    refine ⟨?_, by show zn_ Z < e; omega, hz4, fun f => ?_, ?_, ?_⟩
    · show cwd_ W e = false
      rw [hR.2.1 e]
      exact hme
    · show et_ (cwe_ W f) ≠ e ∧ ∀ s, el_ (cwe_ W f) s ≠ e
      rw [hR.2.2.1]
      exact ⟨hKe _ (hd.1 f).1, fun s => hKe _ ((hd.1 f).2.1 s)⟩
    · show (cwT_ W).1 ≠ e
      rw [hT]
      exact hKe _ (Or.inr ho)
    · show (cwT_ W).2.2.1 ≠ e
      rw [hT]
      exact hKe _ hr
  obtain ⟨st6, n1, n2⟩ := cu_new (E := E) hW0' hnw (by omega)
    (c16 := .inr (.inr (4, [.int 1, .null, .ref (st0.2 + 4), .int (nI e), .int (nI (zh_ Z t)), .int 0, .int 0, .ref (st0.2 + 1), .ref (st0.2 + 2), .ref (st0.2 + 3)])))
    (c17 := .inl (0, 4, fun _ => 0)) (c18 := .inl (0, 4, fun _ => 0)) (c19 := .inl (0, 16, fun _ => 0)) (c20 := .inr (.inr (6, [.ref gl.1, .int 0, .int 0])))
    (by
      rw [hk_16 nw_ds, he_p (by omega), nw_es, nw_cs, an_n (by decide) (by decide), an_n (by decide) (by decide), an_n (by decide) (by decide), an_n (by decide) (by decide), hE]
      rfl)
    (by rw [hk_17 nw_ds, nw_es, hE]; rfl) (by rw [hk_18 nw_ds, nw_es, hE]; rfl) (by rw [hk_19 nw_ds, nw_es, hE]; rfl)
    (by
      rw [hk_20p nw_ds (by omega)]
      unfold ho_
      rw [nw_ks (by omega), nw_ls (by omega)]
      rfl)
  have hRX : RW (z_prom Z (zh_ Z t)) (cw_new (cj_N W (zn_ Z, zo_ Z, zp_ Z + 1)) e E) 50 := by
    refine RW_new hR hz4 hd hme he0 rfl rfl (fun f => ?_) rfl ?_ rfl rfl rfl
    · rw [he]
      exact made_pX f
    · rw [he, hE]
      rfl
  have hg1 : ∀ k, k.1 < 16 → an_ ad e st0.2 k = ad k := fun k hk => an_o (Or.inr (Or.inl hk))
  have hg2 : ∀ f, zk_made Z f = true → an_ ad e st0.2 (16, f) = ad (16, f) := fun f hf => an_f (hKe _ (Or.inr hf))
  have hT1 : cwT_ (cw_new (cj_N W (zn_ Z, zo_ Z, zp_ Z + 1)) e E) = cwT_ W := rfl
  have hC1 : kc_ Z W (cw_new (cj_N W (zn_ Z, zo_ Z, zp_ Z + 1)) e E) := fun y c hc k1 k2 k3 => nw_C hme he0 hc k1 k2 k3
  have hb1 : bk_ (cw_new (cj_N W (zn_ Z, zo_ Z, zp_ Z + 1)) e E) = bk_ W := bk_new (by rw [hR.2.1 e]; exact hme) (by show zn_ Z = cwn_ W; omega)
  have hL1 : lr_ (an_ ad e st0.2) (cw_new (cj_N W (zn_ Z, zo_ Z, zp_ Z + 1)) e E) [] := ⟨hL.1, Nat.zero_le _, fun i q hq => by simp at hq⟩
  have hd1 : ∀ f, zk_made Z f = true → cwd_ (cw_new (cj_N W (zn_ Z, zo_ Z, zp_ Z + 1)) e E) f = true := fun f hf => by
    rw [nw_d (hKe _ (Or.inr hf))]
    exact hdm f hf
  have hE1 : ∀ f, zk_made Z f = true → cwe_ (cw_new (cj_N W (zn_ Z, zo_ Z, zp_ Z + 1)) e E) f = ze_ Z f := fun f hf => by
    rw [nw_e (hKe _ (Or.inr hf))]
    show cwe_ W f = _
    rw [hR.2.2.1]
  have hae : an_ ad e st0.2 (16, e) = st0.2 := an_n (by decide) (by decide)
  have hag : ag_ ad (an_ ad e st0.2) W := ⟨hg1, fun f hf => hg2 f (by rw [hR.2.1 f] at hf; exact hf)⟩
  generalize cw_new (cj_N W (zn_ Z, zo_ Z, zp_ Z + 1)) e E = W1 at n2 hRX hT1 hC1 hb1 hL1 hd1 hE1
  generalize han : an_ ad e st0.2 = ad1 at n2 hL1 hag hg1 hg2 hae
  have hnc := new_C n2
  have hfa := fa_new hRX hnc
  have hW2 := cu_newC n2 (m := (t, x, r, e))
  have hR2 := RW_C (c := (t, x, r, e)) hRX hfa
  refine ⟨ad1, _, cj_C W1 st6.2 (some (t, x, r, e)), st6.2, hW2, hR2, hL1, by rw [← he]; exact va_up_self _ _ _, fa_C hfa, hag, hT1, fun y c hc k1 k2 k3 => ?_, hb1, fun y1 y2 y3 y4 hy => ?_⟩
  · have := hC1 y c hc k1 k2 k3
    exact (va_up_ne _ _ (fun z => by rw [z, hnc] at this; cases this)).trans this
  · unfold xP_callFrom
    rw [rf_s t0]
    refine ru_f (fun z => by cases z) ?_
    refine ru_g _ (r0_4 hW) ?_
    rw [hn.2.2]
    refine ru_t (show nI (zp_ Z) < nI 100 from nI_lt hp (by decide)) ?_
    refine ru_g _ (r0_4 hW) ?_
    rw [hn.2.2, nI_1]
    refine ru_w _ w0 ?_
    refine ru_n (i2 := 5 + y3) (j2 := 31 + y4) ?_ (by omega) (by omega)
    have keep : ∀ {y : ce_E} {k : Nat}, st0.1 k = some y → (st_ad st0 (.inr (.inr (4, cd_4)))).1 k = some y := fun hy => (ad_n (Nat.ne_of_lt (sw_lt hsw hy))).trans hy
    refine ru_g (nI (zp_ Z + 1)) (og_i (keep (at_0 hW0')) (by simp) rfl) ?_
    refine ru_g (nI (zh_ Z t)) ?_ ?_
    · obtain ⟨ci, fs, h1, h2, h3, h4, h5, -⟩ := he_any (ad := ad) (W := cj_N W (zn_ Z, zo_ Z, zp_ Z + 1)) (e := t)
      refine (og_i (keep ((at_16 hW0' (hdm t ht)).trans (by rw [h1]))) h2 h5).trans ?_
      show some (nI (eh_ (cwe_ W t))) = _
      rw [hR.2.2.1]
      rfl
    rw [cn_100, show 100 + (zp_ Z + 1) = e by omega]
    refine ru_b (i2 := 1 + y3) (j2 := 4 + y4) xQ_ok ?_ (by omega) (by omega)
    have keep5 : ∀ {c1 c2 c3 c4 c5 y : ce_E} {k : Nat}, st0.1 k = some y → (st_ad (st_ad (st_ad (st_ad (st_ad st0 c1) c2) c3) c4) c5).1 k = some y := fun hy => (hat5o (sw_lt hsw hy)).trans hy
    refine ru_g (some (ad (3, 0))) (og_q (q := some (ad (3, 0))) (keep5 (at_0 hW0')) (by simp) rfl) ?_
    refine ru_g (nI e) (og_i hat5 (by simp) rfl) ?_
    refine ru_w _ n1 ?_
    refine ru_n (i2 := y3) (j2 := y4) ?_ rfl rfl
    have hsw6 := n2.2.2.1
    have keep6 : ∀ {y : ce_E} {k : Nat}, st6.1 k = some y → (st_ad st6 (.inr (.inr (8, cd_8)))).1 k = some y := fun hy => (ad_n (Nat.ne_of_lt (sw_lt hsw6 hy))).trans hy
    have h40 : ad1 (4, 0) = ad (4, 0) := hg1 (4, 0) (by decide)
    have h00 : ad1 (0, 0) = ad (0, 0) := hg1 (0, 0) (by decide)
    have at4 := at_4 n2
    rw [h40] at at4
    refine ru_g x ((og_i (keep6 at4) (by simp) rfl).trans (by rw [hT1, hT])) ?_
    refine ru_g (rf_ ad1 r) ((og_q (q := rf_ ad1 (cwT_ W1).2.2.1) (keep6 at4) (by simp) rfl).trans (by rw [hT1, hT])) ?_
    refine ru_b (i2 := y3) (j2 := y4) xC_ok ?_ (by omega) (by omega)
    have hW2' := hW2
    have r1 : rf_ ad1 (t, x, r, e).1 = some (ad (16, t)) := (rf_s t0).trans (congrArg some (hg2 t ht))
    have r2 : rf_ ad1 (t, x, r, e).2.2.2 = some st0.2 := (rf_s he0).trans (congrArg some hae)
    rw [r1, r2] at hW2'
    have at4' := at_4 hW2'
    rw [h40] at at4'
    refine ru_g (some (ad (16, o))) ((og_q (q := rf_ ad1 (cwT_ W1).1) at4' (by simp) rfl).trans ?_) ?_
    · rw [hT1, hT]
      exact congrArg some ((rf_s o0).trans (congrArg some (hg2 o ho)))
    have hro := ro_at hW2' (show cwd_ (cj_C W1 st6.2 (some (t, x, r, e))) o = true from hd1 o ho) ho1
    rw [hg2 o ho] at hro
    refine ru_g (nI v) ((og_i hro (by simp) rfl).trans ?_) ?_
    · show some (nI (eh_ (cwe_ W1 o))) = _
      rw [hE1 o ho, ← hov]
      rfl
    have hrt := re_h hW2' (show cwd_ (cj_C W1 st6.2 (some (t, x, r, e))) t = true from hd1 t ht)
    rw [hg2 t ht] at hrt
    refine ru_g (nI (zh_ Z t)) (hrt.trans ?_) ?_
    · show some (nI (eh_ (cwe_ W1 t))) = _
      rw [hE1 t ht]
      rfl
    rw [← he, hae] at hy
    have hst7 : st_ad st6 (.inr (.inr (8, [va_rf (some (ad (16, t))), .int x, va_rf (rf_ ad1 r), va_rf (some st0.2)]))) = st_ad st6 (.inr (.inr (8, [va_rf (rf_ ad1 (t, x, r, e).1), .int (t, x, r, e).2.1, va_rf (rf_ ad1 (t, x, r, e).2.2.1), va_rf (rf_ ad1 (t, x, r, e).2.2.2)]))) := by
      rw [r1, r2]
    rw [hst7]
    exact hy
end CSD
