/-! The class: a call is sent. -/
/-- ready for the lost answers to be settled -/
def qd_ (l : List Nat) (S : zz_S × List Nat) : Prop := zB S.1 ∧ zH S.1 ∧ za_ok S.1 S.2 ∧ (∀ q ∈ S.2, zk_K S.1 q) ∧ zW S.1 ∧ zphi_n l S.1 + 2 * S.2.length ≤ 2090
/-- calls that speak of what is made stay as they are, but for their targets -/
def ky_ (Z : zz_S) (W : cw_W) (X : zz_S) (W' : cw_W) : Prop := ∀ y c, cwC_ W y = some c → zk_K Z c.1 → zk_K Z c.2.2.1 → zk_K Z c.2.2.2 → ∃ t, cwC_ W' y = some (t, c.2) ∧ zk_K X t
section CSE
variable {gl : gl_T} {fx : fx_T} {ad : Nat × Nat → Nat} {W W' : cw_W} {st st' : st_S} {Z X : zz_S} {e a b s v L g u q t h p w ref c n f y o r : Nat} {x op k : Int32} {lost l : List Nat} {E : ze_E} {N : Nat × Nat × Nat}
theorem ky_k (h : kc_ Z W W') (hm : ∀ e, zk_K Z e → zk_K X e) : ky_ Z W X W' := fun y c hc k1 k2 k3 => ⟨c.1, h y c hc k1 k2 k3, hm _ k1⟩
theorem ky_i : ky_ Z W Z W := ky_k kc_i (fun _ h => h)
/-- then what an arrival or a post does -/
theorem ky_mf {W2 : cw_W} (h : kc_ Z W W') (hm : ∀ e, zk_K Z e → zk_K X e) (h2 : mf_ W' W2) (hR : RW X W2 s) : ky_ Z W X W2 := fun y c hc k1 k2 k3 => by
  obtain ⟨t, t1, t2⟩ := h2.2.2 y c (h y c hc k1 k2 k3)
  refine ⟨t, t1, ?_⟩
  rcases t2 with t2 | t2
  · rw [t2]
    exact hm _ k1
  · rw [hR.2.1 t] at t2
    exact Or.inr t2
theorem ky_t {Y : zz_S} {W2 : cw_W} (h : ky_ Z W X W') (hm : ∀ e, zk_K Z e → zk_K X e) (h2 : ky_ X W' Y W2) : ky_ Z W Y W2 := fun y c hc k1 k2 k3 => by
  obtain ⟨t, t1, t2⟩ := h y c hc k1 k2 k3
  exact h2 y (t, c.2) t1 t2 (hm _ k2) (hm _ k3)
theorem zdone_nil : z_done w (Z, []) = Z := rfl
theorem xP_call_ok (hl : l.Nodup) (hW : CW gl fx ad W st) (hR : RW Z W 50) (hL : lr_ ad W []) (hB : zB Z) (hH : zH Z) (hw8 : zW Z) (hi : zi_ l n Z) (hn2 : n ≤ 2080) (hT : cwT_ W = (o, x, r, k)) (ho : zk_made Z o = true) (ho1 : o ≤ 100) (hov : zh_ Z o = v) (hvn : v < zn_ Z) (hr : zk_K Z r) (hro : okr Z v r) (ht : zk_K Z t) (hto : okr Z v t) :
    ∃ ad' st' W' i j S, xP_callFrom gl (some (ad (0, 0))) (some (ad (4, 0))) (rf_ ad t) st = some (rf_ ad' (z_send Z v t x r).2, st', i, j) ∧ CW gl fx ad' W' st' ∧ RW S.1 W' 50 ∧ lr_ ad' W' S.2 ∧ (z_send Z v t x r).1 = z_done v S ∧ qd_ l S ∧ S.1.1 = (z_send Z v t x r).1.1 ∧ ag_ ad ad' W ∧ cwT_ W' = cwT_ W ∧ ky_ Z W S.1 W' ∧ i + (bk_ W + (zl_ Z).length) ≤ bk_ W' + (zl_ S.1).length + 6 ∧ j + (4 * bk_ W + 5 * (zl_ Z).length) ≤ 4 * bk_ W' + 5 * (zl_ S.1).length + 41 := by
  obtain ⟨z1, ⟨zk, zA0, zph⟩, zd, zo⟩ := hi
  have hi : zi_ l n Z := ⟨z1, ⟨zk, zA0, zph⟩, zd, zo⟩
  have hn4 := z1.2.1
  have hzl : (zl_ Z).length ≤ 2080 := by
    have h2 := zphi_l (Z := Z)
    unfold zphi_n at zph
    omega
  have hrl := zr_len zA0 zk
  by_cases h0 : t = 0 ∨ 100 ≤ zp_ Z
  · rw [zsend_0 h0]
    refine ⟨ad, st, W, 0, 0, (Z, []), ?_, hW, hR, hL, rfl, ⟨hB, hH, zA0, (fun q hq => by cases hq), hw8, by show zphi_n l Z + 2 * 0 ≤ 2090; omega⟩, rfl, ag_i, rfl, ky_i, by dsimp only; omega, by dsimp only; omega⟩
    unfold xP_callFrom
    by_cases ht0 : t = 0
    · rw [ht0]
      exact ru_t rfl rfl
    · rw [rf_s ht0]
      refine ru_f (fun z => by cases z) ?_
      refine ru_g _ (r0_4 hW) ?_
      rw [(RW_n hR).2.2]
      exact ru_f (show ¬ nI (zp_ Z) < nI 100 from nI_nlt (by omega) (by have := z1.2.2.2.2.1; omega)) rfl
  · have ht0 : t ≠ 0 := fun c => h0 (Or.inl c)
    have hp : zp_ Z < 100 := by omega
    have hmt : zk_made Z t = true := ht.resolve_left ht0
    have hh4 := (hB.2.1.1 t (zk_K2 hB.1 ht)).1
    obtain ⟨p1, p2⟩ := zB_prom hB hh4 hp
    have hans := zi_ans zd zA0 z1
    have k3 := zprom_a (hm := zh_ Z t) zA0 hans hp
    have kphi := zprom_phi (l := l) (hm := zh_ Z t) (zi_newp zd z1) hp
    have hmono : ∀ e, zk_K Z e → zk_K (z_prom Z (zh_ Z t)) e := fun e he => zk_K4 (by
      have := zk_K3 he
      show e = 0 ∨ (1 ≤ e ∧ e ≤ zo_ Z) ∨ (101 ≤ e ∧ e ≤ 100 + (zp_ Z + 1))
      omega)
    have hq : zk_K (z_prom Z (zh_ Z t)) (101 + zp_ Z) := zk_K4 (Or.inr (Or.inr ⟨by omega, by show 101 + zp_ Z ≤ 100 + (zp_ Z + 1); omega⟩))
    have hne : ∀ e, zk_K Z e → e ≠ 101 + zp_ Z := fun e he c => by
      have := zk_K3 he
      have := z1.2.2.2.1
      omega
    have eht : zh_ (z_prom Z (zh_ Z t)) t = zh_ Z t := by unfold zh_; rw [zprom_h (hne t ht)]
    have hH1 : zH (z_prom Z (zh_ Z t)) := fun e he => by
      rw [made_pX] at he
      by_cases c : e = 101 + zp_ Z
      · rw [c]
        unfold zh_ z_prom
        rw [ze_s]
        exact hH t hmt
      · rw [if_neg c] at he
        unfold zh_
        rw [zprom_h c]
        exact hH e he
    have hw1 : zW (z_prom Z (zh_ Z t)) := zW_r hw8 rfl
    have kt := hmono t ht
    have kr := hmono r hr
    have ot := p2 v t ht hto
    have or_ := p2 v r hr hro
    have hsB := zB_send (x := x) hB zA0 (show v < 4 by omega) hto ht hro hr
    have hsi := zi_send (x := x) hl hi (show v < 4 by omega) ht hr
    have hse := zsend_e (v := v) (r := r) (x := x) ht0 hp
    obtain ⟨ad', st1, W1, a, c1, c2, c3, c4, c5, c6, c7, c8, c9, c10⟩ := xP_callnew hW hR z1 zd hL hT ho ho1 hov hr hmt hp
    have h00 : ad' (0, 0) = ad (0, 0) := c6.1 (0, 0) (by decide)
    have hqne : rf_ ad' (101 + zp_ Z) = some (ad' (16, 101 + zp_ Z)) := rf_s (by omega)
    have hqd : cwd_ W1 (101 + zp_ Z) = true := by
      rw [c2.2.1]
      exact hq.resolve_left (by omega)
    have hq100 : 100 < 101 + zp_ Z := by omega
    have hlz1 : (zl_ (z_prom Z (zh_ Z t))).length = (zl_ Z).length := rfl
    have hrz1 : (zr_ (z_prom Z (zh_ Z t))).length ≤ 2400 := by
      show (zr_ Z).length ≤ 2400
      omega
    by_cases hc : zh_ Z t = v
    · rw [if_pos hc] at hse
      obtain ⟨g1, g2⟩ := zB_go (v := x) (lost := []) p1 (show v < 4 by omega) ot kt or_ kr hq (by omega) (fun _ hx => by cases hx)
      have hf : zf_ (z_prom Z (zh_ Z t)) (z_go (z_prom Z (zh_ Z t)) [] v t x r (101 + zp_ Z)).1 := zf_go
      have hf2 := zf_done (w := v) (s := z_go (z_prom Z (zh_ Z t)) [] v t x r (101 + zp_ Z))
      have hz1 := za_okp k3 (zgo_a (Z := z_prom Z (zh_ Z t)) (lost := []) (w := v) (u := t) (v := x) (e := r) (q := 101 + zp_ Z).trans (by unfold za_1; rw [if_pos (by omega)]; exact List.Perm.refl _))
      have hphi := zgo_phi (l := l) (Z := z_prom Z (zh_ Z t)) (lost := []) (w := v) (u := t) (v := x) (e := r) (q := 101 + zp_ Z) (by omega)
      obtain ⟨st2, W2, i, j, a1, a2, a3, a4, a5, a6⟩ := xP_arrive_ok (a := a) (h := v) c1 c2 c3 p1 hH1 hvn c4 kt ht0 (eht.trans hc) kr hq (Or.inr hq100) c5 (Or.inl rfl) (by decide) (by rw [hlz1]; omega) hrz1
      rw [h00] at a1
      rw [hse]
      have hcall := c10 (some (ad' (16, 101 + zp_ Z))) st2 i j (ru_t (by rw [hc]) (ru_g _ (by rw [← h00]; exact r0_m c1) (ru_b a1 rfl rfl rfl)))
      refine ⟨ad', st2, W2, 6 + i, 41 + j, z_go (z_prom Z (zh_ Z t)) [] v t x r (101 + zp_ Z), ?_, a2, a3, a4, rfl, ⟨g1, zH_s hH1 hf.1 (fun e => (hf.2.2.2 e).1), hz1, fun y hy => by rw [zk_KZ hf.1]; exact g2 y hy, zW_go hw1 (by omega), by simp only [List.length_nil] at hphi; omega⟩, hf2.1.symm, c6, a5.1.trans c7, ?_, ?_, ?_⟩
      · rw [hcall]
        dsimp only
        rw [hqne]
      · refine ky_mf c8 (fun e he => ?_) a5.2.2.2 a3
        rw [zk_KZ hf.1]
        exact hmono e he
      · obtain ⟨x1, x2⟩ := a6
        rw [hlz1, c9] at x1
        omega
      · obtain ⟨x1, x2⟩ := a6
        rw [hlz1, c9] at x2
        omega
    · rw [if_neg hc] at hse
      have hzn1 : zn_ (z_prom Z (zh_ Z t)) = zn_ Z := rfl
      obtain ⟨st2, W2, i, j, b1, b2, b3, b4, b5⟩ := xP_postCall_ok (h := v) (a := a) c1 c2 p1.1 p1.2.1 hH1 hvn (kt.resolve_left ht0) kr (by rw [hlz1]; omega) c4
      rw [eht] at b3 b5
      rw [h00] at b1
      have hzq : ze_ (z_post (z_pack (z_prom Z (zh_ Z t)) v (zh_ Z t) r) 1 v (zh_ Z t) t x r (101 + zp_ Z)) (101 + zp_ Z) = ze_ (z_prom Z (zh_ Z t)) (101 + zp_ Z) := by
        show ze_ (z_pack (z_prom Z (zh_ Z t)) v (zh_ Z t) r) (101 + zp_ Z) = _
        unfold z_pack
        split
        · rfl
        · split
          · exact ze_n (fun c => hne r hr c.symm)
          · split <;> rfl
      have hex : ex_ (ze_ (z_prom Z (zh_ Z t)) (101 + zp_ Z)) v = 0 := by unfold z_prom; rw [ze_s]; rfl
      have hf2 : zf_ (z_prom Z (zh_ Z t)) (z_post (z_pack (z_prom Z (zh_ Z t)) v (zh_ Z t) r) 1 v (zh_ Z t) t x r (101 + zp_ Z)) := zf_t zf_pack zf_l
      have hw2 : zW (z_post (z_pack (z_prom Z (zh_ Z t)) v (zh_ Z t) r) 1 v (zh_ Z t) t x r (101 + zp_ Z)) := zW_r hw1 (by show zr_ (z_pack _ _ _ _) = _; exact zpk_r)
      generalize z_post (z_pack (z_prom Z (zh_ Z t)) v (zh_ Z t) r) 1 v (zh_ Z t) t x r (101 + zp_ Z) = Z2 at b3 b5 hzq hse hf2 hw2
      have hE2 : cwe_ W2 = ze_ Z2 := b3.2.2.1
      have hd2 : cwd_ W2 (101 + zp_ Z) = true := by
        rw [b4.2.2.2.2.2.1]
        exact hqd
      have hat2 := rp_at b2 hd2 hq100
      obtain ⟨st3, d1, d2, d3⟩ := cu_x (d := 1) b2 hd2 (show v < 4 by omega) (y := 1) (by rw [hE2, hzq, hex]; rfl)
      rw [hE2] at d2
      have hR3 := RW_e (e := 101 + zp_ Z) (E := ej_x (ze_ Z2 (101 + zp_ Z)) v 1) b3
      have hd3 : cwd_ (cj_e W2 (101 + zp_ Z) (ej_x (ze_ Z2 (101 + zp_ Z)) v 1)) (101 + zp_ Z) = true := hd2
      have hat3 := rp_at d2 hd3 hq100
      obtain ⟨st4, f1, f2, f3⟩ := cu_i (d := 1) d2 hd3 (show v < 4 by omega) (y := 1) rfl
      rw [cwe_s] at f2
      have hR4 := RW_e (e := 101 + zp_ Z) (E := ej_i (ej_x (ze_ Z2 (101 + zp_ Z)) v 1) v 1) hR3
      rw [zje_twice] at hR4
      have hcall := c10 (some (ad' (16, 101 + zp_ Z))) st4 i j (ru_f (fun z => hc ((nI_eq (by omega) (by omega)).mp z)) (ru_g _ (by rw [← h00]; exact r0_m c1) (ru_b (i2 := 0) (j2 := 0) b1 (ru_g _ (og_q (q := some (ad' (17, 101 + zp_ Z))) hat2 (by simp) rfl) (ru_w _ d1 (ru_g _ (og_q (q := some (ad' (18, 101 + zp_ Z))) hat3 (by simp) rfl) (ru_w _ f1 rfl)))) rfl rfl)))
      rw [hse]
      rw [hse] at hsB hsi
      refine ⟨ad', st4, _, 6 + i, 41 + j, (zj_e Z2 (101 + zp_ Z) (ej_i (ej_x (ze_ Z2 (101 + zp_ Z)) v 1) v 1), []), ?_, f2, hR4, ?_, rfl, ⟨hsB.1, ?_, hsi.1.2.1.2.1, (fun y hy => by cases hy), zW_r hw2 rfl, ?_⟩, rfl, c6, b4.2.1.trans c7, ?_, ?_, ?_⟩
      · rw [hcall]
        dsimp only
        rw [hqne]
      · show (cwL_ W2).1 = _ ∧ _
        rw [b4.2.2.1]
        exact ⟨c3.1, Nat.zero_le _, fun i q hq => by simp at hq⟩
      · refine zH_s hH1 hf2.1 (fun e => ?_)
        unfold zh_
        by_cases ce : e = 101 + zp_ Z
        · subst ce
          rw [ze_s]
          show eh_ (ze_ Z2 (101 + zp_ Z)) = _
          rw [hzq]
          rfl
        · rw [ze_n ce]
          exact (hf2.2.2.2 e).1
      · show zphi_n l _ + 2 * 0 ≤ 2090
        have := hsi.1.2.1.2.2
        dsimp only at this ⊢
        omega
      · refine ky_mf c8 (fun e he => ?_) (mf_t b4.2.2.2.2 (mf_s rfl rfl rfl)) hR4
        rw [zk_KZ (X := zj_e Z2 (101 + zp_ Z) (ej_i (ej_x (ze_ Z2 (101 + zp_ Z)) v 1) v 1)) (Z := z_prom Z (zh_ Z t)) hf2.1]
        exact hmono e he
      · obtain ⟨x1, x2⟩ := b5
        rw [hlz1, c9] at x1
        show 6 + i + _ ≤ bk_ W2 + (zl_ Z2).length + 6
        omega
      · obtain ⟨x1, x2⟩ := b5
        rw [hlz1, c9] at x2
        show 41 + j + _ ≤ 4 * bk_ W2 + 5 * (zl_ Z2).length + 41
        omega
end CSE
