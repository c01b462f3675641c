/-! The reference's deliver. -/
section RDL
variable {Z Z' : zz_S} {M M' : ms_S} {lost : List Nat} {w : Nat} {l : List Nat}
theorem pm_mourn_0 (hw : w < 4) (h : ri_ Z M) (hx : rx_ [] M) : ∃ M', pm_mourn (nI w) M = some ((), M') ∧ rm_ Z M' := by
  refine ⟨pu_s M 30 0, ?_, ?_⟩
  · unfold pm_mourn
    show pm_mourn_b2 _ (nI w) (nI 0) M = _
    unfold pm_mourn_b2
    refine pn_g _ rfl ?_
    rw [hx.1]
    refine pn_t (nI_le (Nat.le_refl _) (by decide)) ?_
    exact pn_w _ rfl rfl
  · obtain ⟨h1, h2, h3, h4, h5, h6⟩ := h
    exact ⟨fr_n h1 rfl (ps_n (by decide)) (ps_n (by decide)) (ps_n (by decide)), h2, h3, fr_r h4 rfl (ps_n (by decide)) rfl rfl rfl rfl rfl, fr_l h5 rfl (ps_n (by decide)) rfl rfl rfl rfl rfl, h6, ps_s⟩
theorem rx_0 (h : M.1 30 = 0) : rx_ [] M := ⟨h, Nat.zero_le _, fun k q hq => by simp at hq⟩
theorem rm_i (h : rm_ Z M) : ri_ Z M := ⟨h.1, h.2.1, h.2.2.1, h.2.2.2.1, h.2.2.2.2.1, h.2.2.2.2.2.1⟩
theorem i_sub (x : Int) (v : Int32) : Int32.ofInt x - v = Int32.ofInt (x + -v.toInt) := by
  conv => lhs; rw [show v = Int32.ofInt v.toInt from (Int32.ofInt_toInt v).symm]
  rw [← Int32.ofInt_sub]
  rfl
theorem nI_k {k j : Nat} (hk : k ≤ 5) (hj : j < 6) (h : k ≠ j) : ¬ nI k = nI j := fun z => h ((nI_eq (by omega) (by omega)).mp z)
theorem pm_deliver_ok (hl : l.Nodup) (h : rm_ Z M) (hz : zw_n Z) (hb : zk_b l 2080 Z) (ho : ∀ e, e ≤ 200 → ∀ a b, a < 4 → b < 4 → -1000000 < eo_ (ze_ Z e) a b ∧ eo_ (ze_ Z e) a b < 1000000) {a b : Nat} (ha : a < zn_ Z) (hb4 : b < zn_ Z) (hab : a ≠ b) :
    ∃ M', pm_deliver (nI a) (nI b) M = some ((z_deliver Z a b).2, M') ∧ rm_ (z_deliver Z a b).1 M' := by
  have h4 := hz.2.1
  have ha4 : a < 4 := by omega
  have hbb : b < 4 := by omega
  obtain ⟨hk, hA, hn⟩ := hb
  have hlen : (zl_ Z).length ≤ 2080 := by
    have := zphi_l (Z := Z)
    unfold zphi_n at hn
    omega
  have e4 : (4 : Int32) * nI a + nI b = nI (4 * a + b) := by rw [show (4 : Int32) = nI 4 from rfl, pk_mul, nI_add]
  have front : ∀ y, (pb_ (pm_oldest (nI (4 * a + b))) fun t3 =>
      if 0 ≤ t3 then
      (pg_ (pl_ 25 t3) fun t4 => pg_ (pl_ 26 t3) fun t5 => pg_ (pl_ 27 t3) fun t6 => pg_ (pl_ 28 t3) fun t7 => pg_ (pl_ 29 t3) fun t8 =>
      pb_ (pm_unmail t3) fun _ => pb_ (pm_unpack (nI a) (nI b) t7) fun _ =>
      if (t4 / (16 : Int32)) = (1 : Int32) then
      (pb_ (pm_go (nI b) t5 t6 t7 t8) fun _ => pm_deliver_b114 (nI a) (nI b) (t4 / (16 : Int32)) t5 t6 t7)
      else (pm_deliver_b114 (nI a) (nI b) (t4 / (16 : Int32)) t5 t6 t7))
      else (pr_ (0 : Int32))) M = some y → pm_deliver (nI a) (nI b) M = some y := by
    intro y hy
    unfold pm_deliver
    refine pn_b _ (pm_vat_y h.1 hz ha) ?_
    refine pn_f (by decide) ?_
    refine pn_b _ (pm_vat_y h.1 hz hb4) ?_
    refine pn_f (by decide) ?_
    refine pn_f (fun z => hab ((nI_eq (by omega) (by omega)).mp z)) ?_
    rw [e4]
    exact hy
  rcases pm_oldest_ok h.2.2.2.2.1 hk.2.2.1 (by omega) ha4 hbb with ⟨o1, o2⟩ | ⟨i, r, o1, o2, o3, o4, o5⟩
  · refine ⟨M, front _ ?_, ?_⟩
    · refine pn_b _ o2 ?_
      refine pn_f (by decide) ?_
      unfold z_deliver
      rw [o1]
      rfl
    · unfold z_deliver
      rw [o1]
      exact h
  · have hi : i < (zl_ Z).length := (List.getElem?_eq_some_iff.mp o1).1
    have hr : r ∈ zl_ Z := List.mem_of_getElem? o1
    obtain ⟨b1, b2, b3, b4, b5, b6, b7⟩ := hk.2.2.1 r hr
    obtain ⟨c1, c2, c3⟩ := hk.2.2.2.2.1 r hr
    obtain ⟨h1, -, -⟩ := zold_perm o2
    obtain ⟨row1, row2, row3, row4, row5⟩ := h.2.2.2.2.1.2 i r o1
    obtain ⟨M1, u1, u2, u3, u4⟩ := pm_unmail_ok (rm_i h) hk.2.2.1 hi (by omega)
    have hkm : zk_w (zj_l Z ((zl_ Z).eraseIdx i)) := zwp_l hk (fun x hx => h1.mem_iff.mpr (List.mem_cons_of_mem _ hx))
    have hml : ((zl_ Z).eraseIdx i).length ≤ 2080 := Nat.le_trans (List.eraseIdx_sublist _ _).length_le hlen
    obtain ⟨M2, v1, v2, v3, v4⟩ := pm_unpack_ok u2 (e := r.2.2.2.2.2.1) ha4 hbb b6 (hk.1 _ b6).1 (show ((zl_ Z).eraseIdx i).length < 2100 by omega)
    have hx2 : rx_ [] M2 := rx_0 (by rw [v3 30 (by decide), u3]; exact h.2.2.2.2.2.2)
    have hkY : zk_w (z_unpack (zj_l Z ((zl_ Z).eraseIdx i)) a b r.2.2.2.2.2.1) := zwp_unpack hkm ha4 hbb b6
    have haY : za_ (z_unpack (zj_l Z ((zl_ Z).eraseIdx i)) a b r.2.2.2.2.2.1) = za_ (zj_l Z ((zl_ Z).eraseIdx i)) := zun_a
    have hpY := zphi_unpack (Z := zj_l Z ((zl_ Z).eraseIdx i)) (a := a) (e := r.2.2.2.2.2.1) hl hbb
    have hpm := zphi_m (l := l) h1
    have ham := za_m h1
    have hoY : ∀ e, e ≤ 200 → ∀ c d, eo_ (ze_ (z_unpack (zj_l Z ((zl_ Z).eraseIdx i)) a b r.2.2.2.2.2.1) e) c d = eo_ (ze_ Z e) c d := by
      intro e _ c d
      unfold z_unpack
      split
      · rfl
      · dsimp only
        have : eo_ (ze_ (zj_e (zj_l Z ((zl_ Z).eraseIdx i)) r.2.2.2.2.2.1 (ej_i (ze_ (zj_l Z ((zl_ Z).eraseIdx i)) r.2.2.2.2.2.1) b (ei_ (ze_ (zj_l Z ((zl_ Z).eraseIdx i)) r.2.2.2.2.2.1) b + 1))) e) c d = eo_ (ze_ Z e) c d := by
          by_cases he : e = r.2.2.2.2.2.1
          · rw [he, ze_s]
            rfl
          · rw [ze_n he]
            rfl
        split
        · exact this
        · exact this
    have hik : ∀ k, (mr_ k).2 = 2100 → i < (mr_ k).2 := fun k hk2 => by rw [hk2]; omega
    have front2 : ∀ y, (if nI r.1 = (1 : Int32) then
        (pb_ (pm_go (nI b) (nI r.2.2.2.1) r.2.2.2.2.1 (nI r.2.2.2.2.2.1) (nI r.2.2.2.2.2.2)) fun _ => pm_deliver_b114 (nI a) (nI b) (nI r.1) (nI r.2.2.2.1) r.2.2.2.2.1 (nI r.2.2.2.2.2.1))
        else (pm_deliver_b114 (nI a) (nI b) (nI r.1) (nI r.2.2.2.1) r.2.2.2.2.1 (nI r.2.2.2.2.2.1))) M2 = some y → pm_deliver (nI a) (nI b) M = some y := by
      intro y hy
      refine front y ?_
      refine pn_b _ o5 ?_
      refine pn_t (nI_pos' (by omega)) ?_
      refine pn_g _ (po_l (hik 25 rfl)) ?_
      refine pn_g _ (po_l (hik 26 rfl)) ?_
      refine pn_g _ (po_l (hik 27 rfl)) ?_
      refine pn_g _ (po_l (hik 28 rfl)) ?_
      refine pn_g _ (po_l (hik 29 rfl)) ?_
      refine pn_b _ u1 ?_
      rw [row1, row2, row3, row4, row5, d16_ (by omega), show (16 * r.1 + (4 * r.2.1 + r.2.2.1)) / 16 = r.1 by omega]
      refine pn_b _ v1 ?_
      exact hy
    have hans : (z_deliver Z a b).2 = nI r.1 := by unfold z_deliver; rw [o2]
    have hst : (z_deliver Z a b).1 = (if r.1 = 1 then z_done b (z_go (z_unpack (zj_l Z ((zl_ Z).eraseIdx i)) a b r.2.2.2.2.2.1) [] b r.2.2.2.1 r.2.2.2.2.1 r.2.2.2.2.2.1 r.2.2.2.2.2.2)
      else if r.1 = 2 then z_done b (z_settle (z_unpack (zj_l Z ((zl_ Z).eraseIdx i)) a b r.2.2.2.2.2.1) [] b r.2.2.2.1 r.2.2.2.2.2.1)
      else if r.1 = 3 then zj_e (z_unpack (zj_l Z ((zl_ Z).eraseIdx i)) a b r.2.2.2.2.2.1) r.2.2.2.1 (ej_x (ze_ (z_unpack (zj_l Z ((zl_ Z).eraseIdx i)) a b r.2.2.2.2.2.1) r.2.2.2.1) a (-r.2.2.2.2.1.toInt))
      else if r.1 = 4 then z_pair (z_unpack (zj_l Z ((zl_ Z).eraseIdx i)) a b r.2.2.2.2.2.1) a r.2.2.2.2.1.toNatClampNeg r.2.2.2.1 1
      else z_pair (z_unpack (zj_l Z ((zl_ Z).eraseIdx i)) a b r.2.2.2.2.2.1) r.2.2.2.2.1.toNatClampNeg a r.2.2.2.1 (-1)) := by unfold z_deliver; rw [o2]
    rw [hans, hst]
    generalize z_unpack (zj_l Z ((zl_ Z).eraseIdx i)) a b r.2.2.2.2.2.1 = Z1 at v2 hkY haY hpY hoY ⊢
    rw [← haY] at ham
    generalize zphi_n l (zj_l Z ((zl_ Z).eraseIdx i)) = n0 at hpY hpm
    unfold zc_l at hpm
    have back : ∀ (S : zz_S × List Nat) (M3 : ms_S), ri_ S.1 M3 → rx_ S.2 M3 → zk_w S.1 → za_ok S.1 S.2 → zphi_n l S.1 + 2 * S.2.length ≤ 2090 → ∃ M', pm_deliver_b183 (nI b) (nI r.1) M3 = some (nI r.1, M') ∧ rm_ (z_done b S) M' := by
      intro S M3 s1 s2 s3 s4 s5
      obtain ⟨M', m1, m2⟩ := pm_mourn_ok (l := l) hbb s1 s2 s3 s4 s5
      exact ⟨M', pn_b _ m1 rfl, m2⟩
    have back0 : ∀ (S : zz_S) (M3 : ms_S), ri_ S M3 → rx_ [] M3 → ∃ M', pm_deliver_b183 (nI b) (nI r.1) M3 = some (nI r.1, M') ∧ rm_ S M' := by
      intro S M3 s1 s2
      obtain ⟨M', m1, m2⟩ := pm_mourn_0 hbb s1 s2
      exact ⟨M', pn_b _ m1 rfl, m2⟩
    have tail : ∀ (M3 : ms_S) (y : Int32 × ms_S), r.1 ≤ 2 → pm_deliver_b183 (nI b) (nI r.1) M3 = some y → pm_deliver_b129 (nI a) (nI b) (nI r.1) (nI r.2.2.2.1) r.2.2.2.2.1 M3 = some y := by
      intro M3 y h2 hy
      unfold pm_deliver_b129 pm_deliver_b151 pm_deliver_b167
      refine pn_f (nI_k b2 (j := 3) (by decide) (by omega)) ?_
      refine pn_f (nI_k b2 (j := 4) (by decide) (by omega)) ?_
      exact pn_f (nI_k b2 (j := 5) (by decide) (by omega)) hy
    have hlY : (zl_ Z1).length ≤ 2085 := by
      have := zphi_l (Z := Z1)
      unfold zphi_n at hpY
      split at hpm <;> omega
    by_cases k1 : r.1 = 1
    · rw [if_pos k1] at ham hpm
      rw [if_pos k1]
      have hq := c1 k1
      have hA2 : za_ok Z1 (za_1 r.2.2.2.2.2.2) := za_okp hA ham
      have hrl := zr_len hA2 hkY
      obtain ⟨M3, g1, g2, g3⟩ := pm_go_ok (v := r.2.2.2.2.1) v2 hx2 hkY.1 hbb b5 b6 b7 (by omega) (fun x hx => by have := (hkY.2.1 x hx).1; omega) (by omega) (by decide)
      have hz1 := za_okp hA (zgo_a (Z := Z1) (lost := []) (w := b) (u := r.2.2.2.1) (v := r.2.2.2.2.1) (e := r.2.2.2.2.2.1).trans ham)
      have hz2 := zgo_phi (l := l) (Z := Z1) (lost := []) (w := b) (u := r.2.2.2.1) (v := r.2.2.2.2.1) (e := r.2.2.2.2.2.1) hq
      simp only [List.length_nil] at hz2
      obtain ⟨M', m1, m2⟩ := back _ M3 g2 g3 (zgo_w hkY hbb b5 b6 b7 hq) hz1 (by omega)
      refine ⟨M', front2 _ ?_, m2⟩
      refine pn_t (by rw [k1]; rfl) ?_
      refine pn_b _ g1 ?_
      unfold pm_deliver_b114
      refine pn_f (nI_k b2 (j := 2) (by decide) (by omega)) ?_
      exact tail _ _ (by omega) m1
    · rw [if_neg k1] at ham hpm
      rw [if_neg k1]
      have hA1 : za_ok Z1 [] := za_okp hA ham
      have front3 : ∀ y, pm_deliver_b114 (nI a) (nI b) (nI r.1) (nI r.2.2.2.1) r.2.2.2.2.1 (nI r.2.2.2.2.2.1) M2 = some y → pm_deliver (nI a) (nI b) M = some y := fun y hy => front2 y (pn_f (nI_k b2 (j := 1) (by decide) k1) hy)
      by_cases k2 : r.1 = 2
      · rw [if_pos k2]
        have hp := c2 k2
        have hwt := za_waits hA1 hkY hp
        have hpw := zphi_waits (l := l) hkY hp
        obtain ⟨M3, g1, g2, g3⟩ := pm_settle_ok v2 hx2 hkY.1 hkY.2.1 hbb (Or.inr hp) b5 b6 (by have := zr_len hA1 hkY; omega) (by omega) hwt
        obtain ⟨w1, w2, w3⟩ := zsettle_w (l := l) (lost := []) hkY hbb (p := r.2.2.2.1) (ref := r.2.2.2.2.2.1) (Or.inr hp) b5 b6
        simp only [List.length_nil] at w3
        obtain ⟨M', m1, m2⟩ := back _ M3 g2 g3 w1 (za_okp hA1 w2) (by split at w3 <;> omega)
        refine ⟨M', front3 _ ?_, m2⟩
        unfold pm_deliver_b114
        refine pn_t (by rw [k2]; rfl) ?_
        refine pn_b _ g1 ?_
        exact tail _ _ (by omega) m1
      · rw [if_neg k2]
        have front4 : ∀ y, pm_deliver_b129 (nI a) (nI b) (nI r.1) (nI r.2.2.2.1) r.2.2.2.2.1 M2 = some y → pm_deliver (nI a) (nI b) M = some y := fun y hy => front3 y (pn_f (nI_k b2 (j := 2) (by decide) k2) hy)
        by_cases k3 : r.1 = 3
        · rw [if_pos k3]
          have e5 : (4 : Int32) * nI r.2.2.2.1 + nI a = nI (4 * r.2.2.2.1 + a) := by rw [show (4 : Int32) = nI 4 from rfl, pk_mul, nI_add]
          have hi15 : 4 * r.2.2.2.1 + a < (mr_ 15).2 := by show _ < 804; omega
          have hM3 := ri_e v2 (Or.inl rfl) (ue_x v2.2.2.1 b5 ha4 (-r.2.2.2.2.1.toInt))
          obtain ⟨M', m1, m2⟩ := back0 _ _ hM3 (rx_f hx2 rfl (pa_q (by decide)))
          refine ⟨M', front4 _ ?_, m2⟩
          unfold pm_deliver_b129 pm_deliver_b151 pm_deliver_b167
          refine pn_t (by rw [k3]; rfl) ?_
          rw [e5]
          refine pn_g _ (po_l hi15) ?_
          rw [((v2.2.2.1 _ b5).2.2.2.2.1 a ha4).1, i_sub]
          refine pn_w _ (po_s hi15) ?_
          refine pn_f (nI_k b2 (j := 4) (by decide) (by omega)) ?_
          exact pn_f (nI_k b2 (j := 5) (by decide) (by omega)) m1
        · rw [if_neg k3]
          have front5 : ∀ y, pm_deliver_b151 (nI a) (nI b) (nI r.1) (nI r.2.2.2.1) r.2.2.2.2.1 M2 = some y → pm_deliver (nI a) (nI b) M = some y := fun y hy => front4 y (pn_f (nI_k b2 (j := 3) (by decide) k3) hy)
          by_cases k4 : r.1 = 4
          · rw [if_pos k4]
            obtain ⟨c, hc, hv⟩ := c3 (Or.inl k4)
            rw [hv, nI_clamp (by omega)]
            have hoo := ho _ b5 a c ha4 hc
            rw [← hoY _ b5] at hoo
            obtain ⟨M3, g1, g2, g3⟩ := pm_pair_ok v2 ha4 hc b5 hoo.1 hoo.2 (d := 1) (Or.inl rfl)
            obtain ⟨M', m1, m2⟩ := back0 _ _ g2 (rx_0 (by rw [g3]; exact hx2.1))
            refine ⟨M', front5 _ ?_, m2⟩
            rw [hv]
            unfold pm_deliver_b151 pm_deliver_b167
            refine pn_t (by rw [k4]; rfl) ?_
            refine pn_b _ g1 ?_
            exact pn_f (nI_k b2 (j := 5) (by decide) (by omega)) m1
          · rw [if_neg k4]
            have k5 : r.1 = 5 := by omega
            obtain ⟨c, hc, hv⟩ := c3 (Or.inr k5)
            rw [hv, nI_clamp (by omega)]
            have hoo := ho _ b5 c a hc ha4
            rw [← hoY _ b5] at hoo
            obtain ⟨M3, g1, g2, g3⟩ := pm_pair_ok v2 hc ha4 b5 hoo.1 hoo.2 (d := -1) (Or.inr rfl)
            obtain ⟨M', m1, m2⟩ := back0 _ _ g2 (rx_0 (by rw [g3]; exact hx2.1))
            refine ⟨M', front5 _ ?_, m2⟩
            rw [hv]
            unfold pm_deliver_b151 pm_deliver_b167
            refine pn_f (nI_k b2 (j := 4) (by decide) k4) ?_
            refine pn_t (by rw [k5]; rfl) ?_
            exact pn_b _ g1 m1
end RDL
