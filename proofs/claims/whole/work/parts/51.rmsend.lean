/-! The reference's send. -/
/-- a new promise at home hm -/
def z_prom (Z : zz_S) (hm : Nat) : zz_S := zj_e (zj_p Z (zp_ Z + 1)) (101 + zp_ Z) (hm, false, false, 0, 0, 0, fun _ => 0, fun _ => 0, fun _ => 0, fun _ _ => 0)
section RSD
variable {Z Z' : zz_S} {M M' : ms_S} {l : List Nat} {hm : Nat}
theorem zprom_w (h : zk_w Z) (hh : hm < 4) : zk_w (z_prom Z hm) := by
  refine ⟨fun e he => ?_, h.2⟩
  unfold zh_ z_prom
  by_cases hq : e = 101 + zp_ Z
  · subst hq
    rw [ze_s]
    exact ⟨hh, Nat.zero_le _⟩
  · rw [ze_n hq]
    exact h.1 e he
theorem zprom_phi (h0 : ze_ Z (101 + zp_ Z) = e0_) (hp : zp_ Z < 100) : zphi_n l (z_prom Z hm) + 5 = zphi_n l Z := by
  have e1 : zphi_n l (z_prom Z hm) = ((zr_ Z).map zc_r).sum + ((zl_ Z).map zc_l).sum + zc_n l (ze_ (z_prom Z hm)) + 5 * (100 - (zp_ Z + 1)) := rfl
  have e2 : zc_n l (ze_ (z_prom Z hm)) = zc_n l (ze_ Z) := by
    unfold zc_n
    congr 1
    refine List.filter_congr (fun k _ => ?_)
    unfold z_prom
    by_cases hk : k / 4 = 101 + zp_ Z
    · rw [hk, ze_s, h0]
      rfl
    · rw [ze_n hk]
      rfl
  rw [e1, e2]
  unfold zphi_n
  omega
theorem zprom_h {t : Nat} (ht : t ≠ 101 + zp_ Z) : ze_ (z_prom Z hm) t = ze_ Z t := ze_n ht
theorem zprom_a (h : za_ok Z []) (hq : ∀ q ∈ za_ Z, q ≤ 100 + zp_ Z) (hp : zp_ Z < 100) : za_ok (z_prom Z hm) [101 + zp_ Z] := by
  refine ⟨?_, ?_⟩
  · show ((101 + zp_ Z) :: za_ Z).Nodup
    exact List.nodup_cons.mpr ⟨fun z => by have := hq _ z; omega, h.1⟩
  · intro q hm
    rcases List.mem_append.mp hm with hm | hm
    · rw [List.mem_singleton] at hm
      omega
    · exact h.2 q hm
theorem zsend_e {v t r : Nat} {x : Int32} (ht : t ≠ 0) (hp : zp_ Z < 100) : z_send Z v t x r = if zh_ Z t = v then (z_done v (z_go (z_prom Z (zh_ Z t)) [] v t x r (101 + zp_ Z)), 101 + zp_ Z) else
    (zj_e (z_post (z_pack (z_prom Z (zh_ Z t)) v (zh_ Z t) r) 1 v (zh_ Z t) t x r (101 + zp_ Z)) (101 + zp_ Z) (ej_i (ej_x (ze_ (z_post (z_pack (z_prom Z (zh_ Z t)) v (zh_ Z t) r) 1 v (zh_ Z t) t x r (101 + zp_ Z)) (101 + zp_ Z)) v 1) v 1), 101 + zp_ Z) := by
  unfold z_send
  rw [if_neg (by omega)]
  rfl
theorem zsend_0 {v t r : Nat} {x : Int32} (h : t = 0 ∨ 100 ≤ zp_ Z) : z_send Z v t x r = (Z, 0) := by
  unfold z_send
  rw [if_pos h]
theorem zphi_ix (hl : l.Nodup) {f b : Nat} {c d : Int} (hb : b < 4) : zphi_n l (zj_e Z f (ej_i (ej_x (ze_ Z f) b c) b d)) ≤ zphi_n l Z + 1 := by
  have := zphi_i (Z := zj_e Z f (ej_x (ze_ Z f) b c)) (f := f) (d := d) hl hb
  rw [ze_s, zphi_x] at this
  have e1 : zj_e (zj_e Z f (ej_x (ze_ Z f) b c)) f (ej_i (ej_x (ze_ Z f) b c) b d) = zj_e Z f (ej_i (ej_x (ze_ Z f) b c) b d) := by
    unfold zj_e
    congr 3
    funext k
    unfold va_up
    split
    · rfl
    · rename_i hk
      show (if k = f then _ else ze_ Z k) = _
      rw [if_neg hk]
  rw [e1] at this
  exact this
theorem zsend_w (hl : l.Nodup) {n : Nat} (hb : zk_b l n Z) (hnew : zp_ Z < 100 → ze_ Z (101 + zp_ Z) = e0_) (hans : ∀ q ∈ za_ Z, q ≤ 100 + zp_ Z) {v t r : Nat} {x : Int32} (hv : v < 4) (ht : t ≤ 200) (hr : r ≤ 200) : zk_b l n (z_send Z v t x r).1 := by
  by_cases h0 : t = 0 ∨ 100 ≤ zp_ Z
  · rw [zsend_0 h0]
    exact hb
  · have hp : zp_ Z < 100 := by omega
    obtain ⟨hk, hA, hn⟩ := hb
    have hh := (hk.1 t ht).1
    rw [zsend_e (by omega) hp]
    have k1 := zprom_w hk hh
    have k2 := zprom_phi (l := l) (hm := zh_ Z t) (hnew hp) hp
    have k3 := zprom_a (hm := zh_ Z t) hA hans hp
    generalize hq : 101 + zp_ Z = q at k3
    generalize z_prom Z (zh_ Z t) = Z1 at k1 k2 k3
    split
    · have hz2 := zgo_phi (l := l) (Z := Z1) (lost := []) (w := v) (u := t) (v := x) (e := r) (q := q) (by omega)
      have hz1 := za_okp k3 (zgo_a (Z := Z1) (lost := []) (w := v) (u := t) (v := x) (e := r) (q := q).trans (by unfold za_1; rw [if_pos (by omega)]; exact List.Perm.refl _))
      obtain ⟨g1, g2, g3⟩ := zdone_w (l := l) hv (zgo_w k1 hv ht hr (by omega) (by omega)) hz1
      refine ⟨g1, g2, Nat.le_trans g3 ?_⟩
      simp only [List.length_nil] at hz2
      omega
    · have p1 := zphi_pack (Z := Z1) (l := l) (a := v) (b := zh_ Z t) (e := r)
      have p2 := zphi_post (Z := z_pack Z1 v (zh_ Z t) r) (l := l) (kind := 1) (a := v) (b := zh_ Z t) (what := t) (v := x) (e := r) (q := q)
      rw [if_pos rfl] at p2
      have w2 : zk_w (z_post (z_pack Z1 v (zh_ Z t) r) 1 v (zh_ Z t) t x r q) := zwp_post (zwp_pack k1 hv hh hr) (by decide) (by decide) hv hh ht hr (by omega) ⟨fun _ => by show 0 < q; omega, fun z => absurd (show (1:Nat) = 2 from z) (by decide), fun z => absurd (show (1:Nat) = 4 ∨ (1:Nat) = 5 from z) (by decide)⟩
      have a2 : za_ok (z_post (z_pack Z1 v (zh_ Z t) r) 1 v (zh_ Z t) t x r q) [] := by
        refine za_okp k3 ?_
        show (za_r (zr_ (z_pack Z1 v (zh_ Z t) r)) ++ za_l (zl_ (z_pack Z1 v (zh_ Z t) r) ++ [_])).Perm ([q] ++ (za_r (zr_ Z1) ++ za_l (zl_ Z1)))
        rw [zpk_r, za_la, zpk_l, za_l1, if_pos rfl]
        have : za_1 q = [q] := by unfold za_1; rw [if_pos (by omega)]
        show (za_r (zr_ Z1) ++ (za_l (zl_ Z1) ++ za_1 q)).Perm ([q] ++ (za_r (zr_ Z1) ++ za_l (zl_ Z1)))
        rw [this, ← List.append_assoc]
        exact List.perm_append_comm
      generalize z_post (z_pack Z1 v (zh_ Z t) r) 1 v (zh_ Z t) t x r q = Z2 at p2 w2 a2
      have p3 := zphi_ix (Z := Z2) (f := q) (c := 1) (d := 1) hl hv
      exact ⟨zwp_j w2 rfl rfl rfl rfl, a2, by dsimp only; omega⟩
/-- a promise where there was none -/
theorem ue_prom (h : rm_e Z M) (h0 : ze_ Z (101 + zp_ Z) = e0_) : rm_e (z_prom Z hm) (pu_a M 6 (101 + zp_ Z) (nI hm)) := by
  intro f hf
  have h8 := h f hf
  unfold z_prom
  by_cases hfe : f = 101 + zp_ Z
  · subst hfe
    unfold zh_ at h8 ⊢
    rw [ze_s]
    rw [h0] at h8
    obtain ⟨k1, k2, k3, k4, k5, k6, k7⟩ := h8
    exact ⟨pa_s, k2, k3, k4, k5, k6, fun h60 => absurd h60 (by omega)⟩
  · unfold zh_ at h8 ⊢
    rw [ze_n hfe]
    obtain ⟨k1, k2, k3, k4, k5, k6, k7⟩ := h8
    refine ⟨?_, k2, k3, k4, k5, k6, k7⟩
    rw [pa_n (Or.inr hfe)]
    exact k1
theorem zex_pack {a b e q c : Nat} (h : e ≠ q) : ex_ (ze_ (z_pack Z a b e) q) c = ex_ (ze_ Z q) c := by
  unfold z_pack
  split
  · rfl
  · split
    · rw [ze_n (Ne.symm h)]
    · split <;> rfl
theorem pm_send_ok (hl : l.Nodup) (h : rm_ Z M) (hz : zw_n Z) (hb : zk_b l 2080 Z) (hnew : zp_ Z < 100 → ze_ Z (101 + zp_ Z) = e0_) (hans : ∀ q ∈ za_ Z, q ≤ 100 + zp_ Z) {v t r : Nat} {x : Int32} (hv : v < 4) (ht : t ≤ 200) (hr : r ≤ 200) (htq : t ≠ 101 + zp_ Z) (hrq : r ≠ 101 + zp_ Z) (h34 : M.1 34 = x) (h35 : M.1 35 = nI r) :
    ∃ M', pm_send (nI v) (nI t) M = some (nI (z_send Z v t x r).2, M') ∧ rm_ (z_send Z v t x r).1 M' ∧ M'.1 34 = x := by
  have h100 := hz.2.2.2.2.1
  by_cases h0 : t = 0
  · subst h0
    rw [zsend_0 (Or.inl rfl)]
    exact ⟨M, pn_t rfl rfl, h, h34⟩
  · have hn0 : ¬ nI t = 0 := nI_ne0 (by omega) (by omega)
    by_cases hp : 100 ≤ zp_ Z
    · rw [zsend_0 (Or.inr hp)]
      refine ⟨M, ?_, h, h34⟩
      refine pn_f hn0 (pn_g _ rfl ?_)
      rw [h.1.2.2]
      exact pn_f (show ¬ nI (zp_ Z) < nI 100 from nI_nlt hp (by omega)) rfl
    · have hp : zp_ Z < 100 := by omega
      obtain ⟨hk, hA, hn⟩ := hb
      have hh := (hk.1 t ht).1
      have hu := ue_prom (hm := zh_ Z t) h.2.2.1 (hnew hp)
      have k1 := zprom_w hk hh
      have k2 := zprom_phi (l := l) (hm := zh_ Z t) (hnew hp) hp
      have k3 := zprom_a (hm := zh_ Z t) hA hans hp
      have kt : zh_ (z_prom Z (zh_ Z t)) t = zh_ Z t := by unfold zh_; rw [zprom_h htq]
      have kx : ∀ c, ex_ (ze_ (z_prom Z (zh_ Z t)) (101 + zp_ Z)) c = 0 := fun c => by unfold z_prom; rw [ze_s]; rfl
      have sc : ∀ k, k ≠ 2 → (pu_a (pu_s M 2 (nI (zp_ Z + 1))) 6 (101 + zp_ Z) (nI (zh_ Z t))).1 k = M.1 k := fun k hk => show (pu_s M 2 (nI (zp_ Z + 1))).1 k = M.1 k from ps_n hk
      have hri : ri_ (z_prom Z (zh_ Z t)) (pu_a (pu_s M 2 (nI (zp_ Z + 1))) 6 (101 + zp_ Z) (nI (zh_ Z t))) := by
        refine ri_f (rm_i h) ?_ hu rfl rfl rfl rfl (sc 18 (by decide)) (sc 24 (by decide)) (fun k hk => pa_q (by omega))
        obtain ⟨k1, k2, k3⟩ := h.1
        exact ⟨(sc 0 (by decide)).trans k1, (sc 1 (by decide)).trans k2, show (pu_s M 2 (nI (zp_ Z + 1))).1 2 = _ from ps_s⟩
      rw [zsend_e h0 hp]
      have hq1 : (100 : Int32) + nI (zp_ Z + 1) = nI (101 + zp_ Z) := by rw [show (100 : Int32) = nI 100 from rfl, nI_add]; congr 1; omega
      have front : ∀ y, (if nI (zh_ Z t) = nI v then
          (pg_ (pi_ 34) fun t5 => pg_ (pi_ 35) fun t6 => pb_ (pm_go (nI v) (nI t) t5 t6 (nI (101 + zp_ Z))) fun _ => pb_ (pm_mourn (nI v)) fun _ => pr_ (nI (101 + zp_ Z)))
          else (pg_ (pi_ 35) fun t9 => pb_ (pm_pack (nI v) (nI (zh_ Z t)) t9) fun _ => pg_ (pi_ 34) fun t11 => pg_ (pi_ 35) fun t12 =>
          pb_ (pm_post (1 : Int32) (((4 : Int32) * nI v) + nI (zh_ Z t)) (nI t) t11 t12 (nI (101 + zp_ Z))) fun _ =>
          pw_ (ps_ 15 (((4 : Int32) * nI (101 + zp_ Z)) + nI v) (1 : Int32)) (
          pw_ (ps_ 16 (((4 : Int32) * nI (101 + zp_ Z)) + nI v) (1 : Int32)) (pr_ (nI (101 + zp_ Z)))))) (pu_a (pu_s M 2 (nI (zp_ Z + 1))) 6 (101 + zp_ Z) (nI (zh_ Z t))) = some y → pm_send (nI v) (nI t) M = some y := by
        intro y hy
        unfold pm_send
        refine pn_f hn0 (pn_g _ rfl ?_)
        rw [h.1.2.2]
        refine pn_t (show nI (zp_ Z) < nI 100 from nI_lt hp (by omega)) ?_
        refine pn_g _ rfl ?_
        rw [h.1.2.2, nI_1]
        refine pn_w _ rfl ?_
        refine pn_g (nI (zp_ Z + 1)) (show some ((pu_s M 2 (nI (zp_ Z + 1))).1 2) = _ by rw [ps_s]) ?_
        rw [hq1]
        refine pn_g _ (po_l (show t < (mr_ 6).2 by show t < 201; omega)) ?_
        rw [show (pu_s M 2 (nI (zp_ Z + 1))).2 6 t = nI (zh_ Z t) from (h.2.2.1 t ht).1, b8_ (by omega), b8_ (by omega)]
        refine pn_w _ (po_s (show 101 + zp_ Z < (mr_ 6).2 by show _ < 201; omega)) ?_
        exact hy
      have m34 : (pu_a (pu_s M 2 (nI (zp_ Z + 1))) 6 (101 + zp_ Z) (nI (zh_ Z t))).1 34 = x := (sc 34 (by decide)).trans h34
      have m35 : (pu_a (pu_s M 2 (nI (zp_ Z + 1))) 6 (101 + zp_ Z) (nI (zh_ Z t))).1 35 = nI r := (sc 35 (by decide)).trans h35
      have m30 : (pu_a (pu_s M 2 (nI (zp_ Z + 1))) 6 (101 + zp_ Z) (nI (zh_ Z t))).1 30 = 0 := (sc 30 (by decide)).trans h.2.2.2.2.2.2
      generalize pu_a (pu_s M 2 (nI (zp_ Z + 1))) 6 (101 + zp_ Z) (nI (zh_ Z t)) = M1 at hri front m34 m35 m30
      generalize hq : 101 + zp_ Z = q at k3 front hrq kx ⊢
      generalize z_prom Z (zh_ Z t) = Z1 at k1 k2 k3 hri kt kx ⊢
      have hlen : (zl_ Z1).length ≤ 2080 := by
        have := zphi_l (Z := Z1)
        unfold zphi_n at k2 hn
        omega
      by_cases hc : zh_ Z t = v
      · rw [if_pos hc]
        obtain ⟨M2, g1, g2, g3⟩ := pm_go_ok (v := x) (w := v) (u := t) (e := r) (q := q) hri (rx_0 m30) k1.1 hv ht hr (by omega) (by have := zr_len k3 k1; omega) (fun y hy => by have := (k1.2.1 y hy).1; omega) (by omega) (by decide)
        have hz2 := zgo_phi (l := l) (Z := Z1) (lost := []) (w := v) (u := t) (v := x) (e := r) (q := q) (by omega)
        have hz1 := za_okp k3 (zgo_a (Z := Z1) (lost := []) (w := v) (u := t) (v := x) (e := r) (q := q).trans (by unfold za_1; rw [if_pos (by omega)]; exact List.Perm.refl _))
        simp only [List.length_nil] at hz2
        obtain ⟨M', m1, m2⟩ := pm_mourn_ok (l := l) hv g2 g3 (zgo_w k1 hv ht hr (by omega) (by omega)) hz1 (by omega)
        refine ⟨M', front _ ?_, m2, ?_⟩
        · refine pn_t (by rw [hc]) ?_
          refine pn_g x (show some (M1.1 34) = _ by rw [m34]) ?_
          refine pn_g (nI r) (show some (M1.1 35) = _ by rw [m35]) ?_
          refine pn_b _ g1 ?_
          exact pn_b _ m1 rfl
        · rw [pk_pm_mourn (by decide) _ _ _ _ m1, pk_pm_go (by decide) _ _ _ _ _ _ _ _ g1, m34]
      · rw [if_neg hc]
        obtain ⟨M2, g1, g2, g3, g4⟩ := pm_pack_ok hri (a := v) (b := zh_ Z t) (e := r) hv hh hr (k1.1 r hr).1 (by omega)
        have hl2 := zl_pack (Z := Z1) (a := v) (b := zh_ Z t) (e := r)
        obtain ⟨M3, p1, p2, p3, p4⟩ := pm_post_ok g2 (kind := 1) (a := v) (b := zh_ Z t) (what := t) (v := x) (e := r) (q := q) (by decide) hv hh ht hr (by omega) (by omega)
        have hx2 : ex_ (ze_ (z_post (z_pack Z1 v (zh_ Z t) r) 1 v (zh_ Z t) t x r q) q) v = 0 := by
          show ex_ (ze_ (z_pack Z1 v (zh_ Z t) r) q) v = 0
          rw [zex_pack hrq]
          exact kx v
        generalize z_post (z_pack Z1 v (zh_ Z t) r) 1 v (zh_ Z t) t x r q = Z2 at p2 hx2 ⊢
        have hq2 : q ≤ 200 := by omega
        have hM4 := ri_u p2 (by decide) (ue_x p2.2.2.1 hq2 hv 1)
        have hM5 := ri_u hM4 (by decide) (ue_i hM4.2.2.1 hq2 hv 1)
        rw [ze_s] at hM5
        have e1 : zj_e (zj_e Z2 q (ej_x (ze_ Z2 q) v 1)) q (ej_i (ej_x (ze_ Z2 q) v 1) v 1) = zj_e Z2 q (ej_i (ej_x (ze_ Z2 q) v 1) v 1) := by
          unfold zj_e
          congr 3
          funext k
          unfold va_up
          split
          · rfl
          · rename_i hk
            show (if k = q then _ else ze_ Z2 k) = _
            rw [if_neg hk]
        rw [e1, hx2] at hM5
        have keep : ∀ k, k ≠ 24 → M3.1 k = M1.1 k := fun k hk => by
          rw [p3]
          simp only [upd, if_neg hk]
          exact g3 k hk
        refine ⟨_, front _ ?_, rm_m hM5 ?_, ?_⟩
        · refine pn_f (fun z => hc ((nI_eq (by omega) (by omega)).mp z)) ?_
          refine pn_g (nI r) (show some (M1.1 35) = _ by rw [m35]) ?_
          refine pn_b _ g1 ?_
          refine pn_g x (show some (M2.1 34) = _ by rw [g3 34 (by decide), m34]) ?_
          refine pn_g (nI r) (show some (M2.1 35) = _ by rw [g3 35 (by decide), m35]) ?_
          rw [e4_, e4_]
          refine pn_b _ p1 ?_
          refine pn_w _ (po_s (show 4 * q + v < (mr_ 15).2 by show _ < 804; omega)) ?_
          exact pn_w _ (po_s (show 4 * q + v < (mr_ 16).2 by show _ < 804; omega)) rfl
        · exact (keep 30 (by decide)).trans m30
        · exact (keep 34 (by decide)).trans m34
end RSD
