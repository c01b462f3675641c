/-! The class: a turn makes an object. -/
/-- old cells lie where they lay -/
def ag_ (ad ad' : Nat × Nat → Nat) (W : cw_W) : Prop := (∀ k, k.1 < 16 → ad' k = ad k) ∧ ∀ f, cwd_ W f = true → ad' (16, f) = ad (16, f)
/-- calls that speak of what is made stay as they are -/
def kc_ (Z : zz_S) (W W' : cw_W) : Prop := ∀ y c, cwC_ W y = some c → zk_K Z c.1 → zk_K Z c.2.2.1 → zk_K Z c.2.2.2 → cwC_ W' y = some c
section CMO
variable {gl : gl_T} {fx : fx_T} {ad : Nat × Nat → Nat} {W W' : cw_W} {st st' : st_S} {Z X : zz_S} {e a b s v L g u q t h p w ref c n f y o r : Nat} {x op k : Int32} {lost l : List Nat} {E : ze_E} {N : Nat × Nat × Nat}
theorem ag_i : ag_ ad ad W := ⟨fun _ _ => rfl, fun _ _ => rfl⟩
theorem kc_i : kc_ Z W W := fun _ _ h _ _ _ => h
theorem hup20 {c1 c2 c3 c4 c5 c6 : ce_E} : st_up (st_ad (st_ad (st_ad (st_ad (st_ad st c1) c2) c3) c4) c5) (st.2 + 4) c6 = st_ad (st_ad (st_ad (st_ad (st_ad st c1) c2) c3) c4) c6 := ad_up (st := st_ad (st_ad (st_ad (st_ad st c1) c2) c3) c4)
theorem hat20 {c1 c2 c3 c4 c5 : ce_E} : (st_ad (st_ad (st_ad (st_ad (st_ad st c1) c2) c3) c4) c5).1 (st.2 + 4) = some c5 := ad_s (st := st_ad (st_ad (st_ad (st_ad st c1) c2) c3) c4)
theorem made_o (h60 : ¬ 60 ≤ zo_ Z) : zk_made Z (zo_ Z + 1) = false := by
  unfold zk_made
  rw [decide_eq_false (p := zo_ Z + 1 ≤ zo_ Z) (by omega), decide_eq_false (p := 101 ≤ zo_ Z + 1) (by omega)]
  simp
theorem made_oX (h60 : ¬ 60 ≤ zo_ Z) (f : Nat) : zk_made (zj_e (zj_o Z (zo_ Z + 1)) (zo_ Z + 1) E) f = if f = zo_ Z + 1 then true else zk_made Z f := by
  show (decide (1 ≤ f) && decide (f ≤ zo_ Z + 1) || decide (101 ≤ f) && decide (f ≤ 100 + zp_ Z)) = _
  by_cases z : f = zo_ Z + 1
  · rw [if_pos z, decide_eq_true (p := 1 ≤ f) (by omega), decide_eq_true (p := f ≤ zo_ Z + 1) (by omega)]
    rfl
  · rw [if_neg z]
    unfold zk_made
    rw [decide_eq_decide.mpr (show f ≤ zo_ Z + 1 ↔ f ≤ zo_ Z by omega)]
theorem K_ne (he : zk_made Z e = false) (he0 : e ≠ 0) (hf : zk_K Z f) : f ≠ e := fun z => by
  subst z
  rcases hf with z | z
  · exact he0 z
  · rw [he] at z
    cases z
theorem xP_make_ok (hW : CW gl fx ad W st) (hR : RW Z W 50) (hz : zw_n Z) (hd : zd_ (zk_K Z) Z) (hL : lr_ ad W []) (hT : cwT_ W = (o, x, r, k)) (ho : zk_made Z o = true) (ho1 : o ≤ 100) (hov : zh_ Z o = v) (hr : zk_K Z r) :
    ∃ ad' st' W' i j, xP_makeObject gl (some (ad (0, 0))) (some (ad (4, 0))) (nI g) st = some (rf_ ad' (z_fresh Z v g x r).2, st', i, j) ∧ CW gl fx ad' W' st' ∧ RW (z_fresh Z v g x r).1 W' 50 ∧ lr_ ad' W' [] ∧ ag_ ad ad' W ∧ cwT_ W' = cwT_ W ∧ kc_ Z W W' ∧ bk_ W' = bk_ W ∧ i ≤ 5 ∧ j ≤ 38 := by
  have hn := RW_n hR
  have hz4 := hz.2.1
  have hzo := hz.2.2.1
  unfold xP_makeObject
  by_cases h60 : 60 ≤ zo_ Z
  · have ez : z_fresh Z v g x r = (Z, 0) := by unfold z_fresh; rw [if_pos h60]
    rw [ez]
    refine ⟨ad, st, W, 0, 0, ?_, hW, hR, hL, ag_i, rfl, kc_i, rfl, by omega, by omega⟩
    refine ru_g _ (r0_3 hW) ?_
    rw [hn.2.1]
    exact ru_f (show ¬ nI (zo_ Z) < nI 60 from nI_nlt h60 (by have := hz.2.2.2.1; omega)) rfl
  · obtain ⟨e, he⟩ : ∃ e, e = zo_ Z + 1 := ⟨_, rfl⟩
    obtain ⟨E, hE⟩ : ∃ E : ze_E, E = (v, false, false, 0, g, x, va_up (fun _ => 0) 0 r, fun _ => 0, fun _ => 0, fun _ _ => 0) := ⟨_, rfl⟩
    have ez : z_fresh Z v g x r = (zj_e (zj_o Z (zo_ Z + 1)) e E, e) := by unfold z_fresh; rw [if_neg h60, hE, he]
    rw [ez]
    have hme : zk_made Z e = false := by rw [he]; exact made_o h60
    have he0 : e ≠ 0 := by omega
    have hKe : ∀ f, zk_K Z f → f ≠ e := fun f hf => K_ne hme he0 hf
    have hN0 : cwN_ W = Z.1 := hR.1
    have hW0 := cu_N (N := (zn_ Z, zo_ Z + 1, zp_ Z)) hW (by show zn_ Z = cwn_ W; omega)
    have w0 : so_p (some (ad (0, 0))) [0] 3 (.int (nI (zo_ Z) + 1)) st = some _ := og_p (at_0 hW) (by simp) (by simp)
    rw [nI_1] at w0
    have hst0 : (st_up st (ad (0, 0)) (.inr (.inr (0, [Value.ref (ad (1, 0)), .ref (ad (2, 0)), .ref (ad (3, 0)), .int (nI (cwo_ W)), .int (nI (cwp_ W)), .ref (ad (4, 0)), .ref (ad (5, 0)), .int (cwL_ W).1, .ref (ad (6, 0)), .int (cwF_ W).1].set 3 (.int (nI (zo_ Z + 1))))))) = st_up st (ad (0, 0)) (.inr (.inr (0, [.ref (ad (1, 0)), .ref (ad (2, 0)), .ref (ad (3, 0)), .int (nI (zo_ Z + 1)), .int (nI (zp_ Z)), .ref (ad (4, 0)), .ref (ad (5, 0)), .int (cwL_ W).1, .ref (ad (6, 0)), .int (cwF_ W).1]))) := by
      rw [← hn.2.2]
      rfl
    rw [hst0] at w0
    have hW0' : CW gl fx ad (cj_N W (zn_ Z, zo_ Z + 1, zp_ Z)) (st_up st (ad (0, 0)) (.inr (.inr (0, [.ref (ad (1, 0)), .ref (ad (2, 0)), .ref (ad (3, 0)), .int (nI (zo_ Z + 1)), .int (nI (zp_ Z)), .ref (ad (4, 0)), .ref (ad (5, 0)), .int (cwL_ W).1, .ref (ad (6, 0)), .int (cwF_ W).1])))) := hW0
    generalize st_up st (ad (0, 0)) (.inr (.inr (0, [.ref (ad (1, 0)), .ref (ad (2, 0)), .ref (ad (3, 0)), .int (nI (zo_ Z + 1)), .int (nI (zp_ Z)), .ref (ad (4, 0)), .ref (ad (5, 0)), .int (cwL_ W).1, .ref (ad (6, 0)), .int (cwF_ W).1]))) = st0 at w0 hW0'
    clear hW0 hst0
    have hsw := hW0'.2.2.1
    have hdo : cwd_ (cj_N W (zn_ Z, zo_ Z + 1, zp_ Z)) o = true := by
      show cwd_ W o = true
      rw [hR.2.1 o]
      exact ho
    have o0 : o ≠ 0 := made_n0 ho
    have hnw : nw_ (cj_N W (zn_ Z, zo_ Z + 1, zp_ Z)) e := by
      refine ⟨?_, by show zn_ Z < e; omega, hz4, fun f => ?_, ?_, ?_⟩
      · show cwd_ W e = false
        rw [hR.2.1 e]
        exact hme
      · show et_ (cwe_ W f) ≠ e ∧ ∀ s, el_ (cwe_ W f) s ≠ e
        rw [hR.2.2.1]
        exact ⟨hKe _ (hd.1 f).1, fun s => hKe _ ((hd.1 f).2.1 s)⟩
      · show (cwT_ W).1 ≠ e
        rw [hT]
        exact hKe _ (Or.inr ho)
      · show (cwT_ W).2.2.1 ≠ e
        rw [hT]
        exact hKe _ hr
    have hre : r ≠ e := hKe _ hr
    obtain ⟨st6, n1, n2⟩ := cu_new (E := E) hW0' hnw (by have := hz.2.2.2.1; omega)
      (c16 := .inr (.inr (3, [.int (nI g), .int x, .ref (st0.2 + 4), .int (nI e), .int (nI v), .int 0, .int 0, .ref (st0.2 + 1), .ref (st0.2 + 2), .ref (st0.2 + 3)])))
      (c17 := .inl (0, 4, fun _ => 0)) (c18 := .inl (0, 4, fun _ => 0)) (c19 := .inl (0, 16, fun _ => 0)) (c20 := .inr (.inl (6, 4, va_up (fun _ => none) 0 (rf_ ad r))))
      (by
        rw [hk_16 nw_ds, he_o (by omega), nw_es, nw_cs, an_n (by decide) (by decide), an_n (by decide) (by decide), an_n (by decide) (by decide), an_n (by decide) (by decide), hE]
        rfl)
      (by rw [hk_17 nw_ds, nw_es, hE]; rfl) (by rw [hk_18 nw_ds, nw_es, hE]; rfl) (by rw [hk_19 nw_ds, nw_es, hE]; rfl)
      (by
        rw [hk_20 nw_ds (by omega), nw_es, hE]
        congr 5
        funext s
        show rf_ (an_ ad e st0.2) (va_up (fun _ => 0) 0 r s) = _
        unfold va_up
        split
        · exact rf_an hre
        · rfl)
    have hRX : RW (zj_e (zj_o Z (zo_ Z + 1)) e E) (cw_new (cj_N W (zn_ Z, zo_ Z + 1, zp_ Z)) e E) 50 := by
      refine RW_new hR hz4 hd hme he0 rfl rfl (fun f => ?_) rfl rfl rfl rfl rfl
      rw [he]
      exact made_oX h60 f
    refine ⟨an_ ad e st0.2, st6, cw_new (cj_N W (zn_ Z, zo_ Z + 1, zp_ Z)) e E, 5, 38, ?_, n2, hRX, ⟨hL.1, Nat.zero_le _, fun i q hq => by simp at hq⟩, ⟨fun k hk => an_o (Or.inr (Or.inl hk)), fun f hf => an_f (fun z => ?_)⟩, rfl, fun y c hc k1 k2 k3 => nw_C hme he0 hc k1 k2 k3, bk_new ?_ (by show zn_ Z = cwn_ W; omega), by omega, by omega⟩
    · refine ru_g _ (r0_3 hW) ?_
      rw [hn.2.1]
      refine ru_t (show nI (zo_ Z) < nI 60 from nI_lt (by omega) (by decide)) ?_
      refine ru_g _ (r0_3 hW) ?_
      rw [hn.2.1]
      rw [nI_1]
      refine ru_w _ w0 ?_
      refine ru_n (i2 := 4) (j2 := 28) ?_ rfl rfl
      have keep : ∀ {y : ce_E} {k : Nat}, st0.1 k = some y → (st_ad st0 (.inr (.inr (3, cd_3)))).1 k = some y := fun hy => (ad_n (Nat.ne_of_lt (sw_lt hsw hy))).trans hy
      refine ru_g _ (og_i (keep (at_0 hW0')) (by simp) rfl) ?_
      refine ru_g (some (ad (16, o))) ((og_q (q := rf_ ad (cwT_ W).1) (keep (at_4 hW0')) (by simp) rfl).trans (by rw [hT]; exact congrArg some (rf_s o0))) ?_
      refine ru_g (nI v) ((og_i (keep (ro_at hW0' hdo ho1)) (by simp) rfl).trans ?_) ?_
      · show some (nI (eh_ (cwe_ W o))) = _
        rw [hR.2.2.1, ← hov]
        rfl
      refine ru_b (i2 := 0) (j2 := 0) xO_ok ?_ rfl rfl
      have keep5 : ∀ {c1 c2 c3 c4 c5 y : ce_E} {k : Nat}, st0.1 k = some y → (st_ad (st_ad (st_ad (st_ad (st_ad st0 c1) c2) c3) c4) c5).1 k = some y := fun hy => (hat5o (sw_lt hsw hy)).trans hy
      refine ru_g x ((og_i (keep5 (at_4 hW0')) (by simp) rfl).trans (by show some (cwT_ W).2.1 = _; rw [hT])) ?_
      refine ru_w _ (og_p hat5 (by simp) (by simp)) ?_
      rw [hup5]
      refine ru_g (some (st0.2 + 4)) (og_q (q := some (st0.2 + 4)) hat5 (by simp) rfl) ?_
      refine ru_g (rf_ ad r) ((og_q (q := rf_ ad (cwT_ W).2.2.1) (keep5 (at_4 hW0')) (by simp) rfl).trans (by rw [hT])) ?_
      refine ru_w _ (og_sq (i := 0) (q := rf_ ad r) hat20 (by simp) (by decide) (by decide) ?_) ?_
      · by_cases z : r = 0
        · rw [z]
          rfl
        · rw [rf_s z]
          have hdr : cwd_ (cj_N W (zn_ Z, zo_ Z + 1, zp_ Z)) r = true := by
            show cwd_ W r = true
            rw [hR.2.1 r]
            exact hr.resolve_left z
          obtain ⟨ci, fs, h1, h2, -⟩ := he_any (ad := ad) (W := cj_N W (zn_ Z, zo_ Z + 1, zp_ Z)) (e := r)
          exact og_is ((keep5 (at_16 hW0' hdr)).trans (by rw [h1])) h2
      rw [hup20]
      refine ru_g (some (ad (3, 0))) (og_q (q := some (ad (3, 0))) (keep5 (at_0 hW0')) (by simp) rfl) ?_
      refine ru_g (nI e) ((og_i hat5 (by simp) rfl).trans (by rw [he]; rfl)) ?_
      rw [he] at n1
      rw [he]
      refine ru_w _ n1 ?_
      rw [rf_s (by omega), an_n (by decide) (by decide)]
      rfl
    · subst z
      rw [hR.2.1 f, hme] at hf
      cases hf
    · rw [hR.2.1 e]
      exact hme
end CMO
