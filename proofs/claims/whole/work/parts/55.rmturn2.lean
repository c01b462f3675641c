/-! The reference's turn. -/
theorem zfirst_or (v : Nat) : ∀ (L : List zr_R), (z_first v L = none ∧ ∀ r ∈ L, r.1 ≠ v) ∨ ∃ i r, L[i]? = some r ∧ z_first v L = some (r, L.eraseIdx i) ∧ r.1 = v ∧ ∀ j, j < i → ∀ y, L[j]? = some y → y.1 ≠ v
  | [] => Or.inl ⟨rfl, fun r hr => by cases hr⟩
  | x :: L => by
    by_cases hx : x.1 = v
    · refine Or.inr ⟨0, x, rfl, ?_, hx, fun j hj => by omega⟩
      unfold z_first
      rw [if_pos hx]
      rfl
    · rcases zfirst_or v L with ⟨h1, h2⟩ | ⟨i, r, h1, h2, h3, h4⟩
      · refine Or.inl ⟨?_, fun r hr => ?_⟩
        · unfold z_first
          rw [if_neg hx, h1]
          rfl
        · rcases List.mem_cons.mp hr with rfl | hr
          · exact hx
          · exact h2 r hr
      · refine Or.inr ⟨i + 1, r, by simpa using h1, ?_, h3, fun j hj y hy => ?_⟩
        · unfold z_first
          rw [if_neg hx, h2]
          rfl
        · cases j with
          | zero => cases hy; exact hx
          | succ j => exact h4 j (by omega) y (by simpa using hy)
theorem er_perm {α : Type} : ∀ {L : List α} {i : Nat} {r : α}, L[i]? = some r → L.Perm (r :: L.eraseIdx i)
  | [], _, _, h => by simp at h
  | x :: L, 0, r, h => by cases h; exact List.Perm.refl _
  | x :: L, i + 1, r, h => by
    have h : L[i]? = some r := by simpa using h
    exact (List.Perm.cons x (er_perm h)).trans (List.Perm.swap _ _ _)
section RTN
variable {Z X : zz_S} {M : ms_S} {l : List Nat} {n v : Nat}
theorem zwp_rs (h : zk_w Z) {L : List zr_R} (hm : ∀ r ∈ L, r ∈ zr_ Z) (hs : (L.filter (fun r => r.2.2.2.2 == 0)).length ≤ ((zr_ Z).filter (fun r => r.2.2.2.2 == 0)).length) : zk_w (zj_r Z L) := by
  obtain ⟨a1, a2, a3, a4, a5, a6⟩ := h
  exact ⟨a1, fun r hr => a2 r (hm r hr), a3, fun r hr => a4 r (hm r hr), a5, Nat.le_trans hs a6⟩
/-- a resting call is taken -/
theorem zi_take (h : zi_ l n Z) {r : zr_R} {L : List zr_R} (hp : (zr_ Z).Perm (r :: L)) : zi_ l (n - zc_r r) (zj_r Z L) ∧ zc_r r ≤ n ∧ za_ok (zj_r Z L) (za_1 r.2.2.2.2) := by
  obtain ⟨h1, ⟨h2, h3, h4⟩, h5, h6⟩ := h
  have hm : ∀ x ∈ L, x ∈ zr_ Z := fun x hx => hp.mem_iff.mpr (List.mem_cons_of_mem _ hx)
  have ha : (za_1 r.2.2.2.2 ++ za_ (zj_r Z L)).Perm (za_ Z) := by
    show (za_1 r.2.2.2.2 ++ (za_r L ++ za_l (zl_ Z))).Perm (za_r (zr_ Z) ++ za_l (zl_ Z))
    have e1 := za_rp hp
    rw [show r :: L = [r] ++ L from rfl, za_ra, za_r1] at e1
    rw [← List.append_assoc]
    exact (List.Perm.append_right _ e1).symm
  have hA : za_ok (zj_r Z L) (za_1 r.2.2.2.2) := za_okp h3 ha
  have hphi : zphi_n l (zj_r Z L) + zc_r r = zphi_n l Z := by
    have e1 := List.Perm.sum_nat (hp.map zc_r)
    rw [List.map_cons, List.sum_cons] at e1
    have e2 : zphi_n l (zj_r Z L) = (L.map zc_r).sum + ((zl_ Z).map zc_l).sum + zc_n l (ze_ Z) + 5 * (100 - zp_ Z) := rfl
    rw [e2]
    unfold zphi_n
    omega
  refine ⟨⟨h1, ⟨zwp_rs h2 hm ?_, ⟨hA.1.sublist (List.sublist_append_right _ _), fun q hq => hA.2 q (List.mem_append_right _ hq)⟩, by omega⟩, zd_r h5 (fun x hx => h5.2.2.1 x (hm x hx)), h6⟩, by omega, hA⟩
  have e1 := (hp.filter (fun r => r.2.2.2.2 == 0)).length_eq
  rw [e1, List.filter_cons]
  split
  · rw [List.length_cons]
    omega
  · exact Nat.le_refl _
theorem zi_f (h : zw_n Z ∧ zo_g Z) (f0 : X.1 = Z.1) (fg : zg_ X = zg_ Z) (hb : zk_b l n X) (hd : zd_ (zk_K Z) X) : zi_ l n X := by
  refine ⟨?_, hb, by rw [zk_KZ f0]; exact hd, ?_⟩
  · have hzw := h.1
    unfold zw_n zn_ zo_ zp_ at hzw ⊢
    rw [f0, fg]
    exact hzw
  · unfold zo_g
    rw [fg]
    exact h.2
/-- settling and mourning: what they leave -/
theorem zi_settle (h : zi_ l n Z) {m : Nat} (hw : v < 4) {p ref : Nat} (hp : p = 0 ∨ 100 < p) (hpK : zk_K Z p) (href : zk_K Z ref) (hm : zphi_n l Z + (if p = 0 then 0 else 2) ≤ m) : zi_ l m (z_done v (z_settle Z [] v p ref)) := by
  obtain ⟨h1, ⟨h2, h3, h4⟩, h5, h6⟩ := h
  have hf := zf_t (zf_settle (Z := Z) (lost := []) (w := v) (p := p) (ref := ref)) (zf_done (w := v))
  obtain ⟨w1, w2, w3⟩ := zsettle_w (l := l) (lost := []) h2 hw (p := p) (ref := ref) hp (zk_K2 h1 hpK) (zk_K2 h1 href)
  obtain ⟨d1, d2⟩ := zd_settle (lost := []) h5 zk_K0 hw hpK href (fun _ hx => by cases hx)
  obtain ⟨g1, g2, g3⟩ := zdone_w (l := l) hw w1 (za_okp h3 w2)
  refine zi_f ⟨h1, h6⟩ hf.1 hf.2.1 ⟨g1, g2, Nat.le_trans g3 ?_⟩ (zd_done d1 zk_K0 hw d2)
  by_cases h0 : p = 0
  · subst h0
    rw [if_pos rfl] at hm
    have : z_settle Z [] v 0 ref = (Z, []) := by unfold z_settle; rw [if_pos rfl]
    rw [this]
    simp only [List.length_nil]
    omega
  · rw [if_neg h0] at hm
    simp only [List.length_nil] at w3
    split at w3 <;> omega
/-- what a turn leaves -/
theorem zi_turn (hl : l.Nodup) (h : zi_ l n Z) (hv : v < 4) : zi_ l n (z_turn Z v).1 ∧ ∀ w, (zt_ (z_turn Z v).1 w).length ≤ (zt_ Z w).length + 8 := by
  unfold z_turn
  rcases zfirst_or v (zr_ Z) with ⟨h1, h2⟩ | ⟨i, r, h1, h2, h3, h4⟩
  · rw [h1]
    exact ⟨h, fun w => Nat.le_add_right _ _⟩
  · rw [h2]
    dsimp only
    have hr : r ∈ zr_ Z := List.mem_of_getElem? h1
    obtain ⟨t1, t2, t3⟩ := zi_take h (er_perm h1)
    obtain ⟨r1, r2, r3, r4⟩ := h.2.2.1.2.2.1 r hr
    have ho : 1 ≤ r.2.1 ∧ r.2.1 ≤ zo_ Z := by
      have := zk_K3 r1
      rcases r4 with c | c <;> omega
    have hG := h.1.2.2.2.2.2 _ (h.2.2.1.1 r.2.1).2.2
    obtain ⟨a1, a2, a3, a4, a5⟩ := zi_run (o := r.2.1) hl hv (zg_ Z (ep_ (ze_ Z r.2.1))) 0 (zj_r Z ((zr_ Z).eraseIdx i), r.2.2.1, r.2.2.2.1) t1 r2 ho (fun x hx => h.2.2.2 _ x hx)
    have hqq : r.2.2.2.2 = 0 ∨ 100 < r.2.2.2.2 := by
      rcases Nat.eq_zero_or_pos r.2.2.2.2 with c | c
      · exact Or.inl c
      · refine Or.inr (t3.2 _ (List.mem_append_left _ ?_)).1
        unfold za_1
        rw [if_pos c]
        exact List.mem_singleton.mpr rfl
    have hq3 := a3 _ r3
    generalize z_run v r.2.1 (zg_ Z (ep_ (ze_ Z r.2.1))) 0 (zj_r Z ((zr_ Z).eraseIdx i), r.2.2.1, r.2.2.2.1) = S at a1 a2 a3 a4 a5 hq3
    have hm : zphi_n l S.1 + (if r.2.2.2.2 = 0 then 0 else 2) ≤ n := by
      have := a1.2.1.2.2
      by_cases c : r.2.2.2.2 = 0
      · rw [if_pos c]
        omega
      · rw [if_neg c]
        have : 2 ≤ zc_r r := by
          unfold zc_r
          rw [if_pos (by omega)]
          split <;> omega
        omega
    refine ⟨zi_settle a1 hv hqq hq3 a2 hm, fun w => ?_⟩
    have hf := zf_t (zf_settle (Z := S.1) (lost := []) (w := v) (p := r.2.2.2.2) (ref := S.2.2)) (zf_done (w := v))
    rw [hf.2.2.1]
    have := a5 w
    have e1 : zt_ (zj_r Z ((zr_ Z).eraseIdx i)) = zt_ Z := rfl
    dsimp only at this
    rw [e1] at this
    omega
/-- the search for a vat's first call -/
theorem pm_turn_s (h : rm_r Z M) (hlen : (zr_ Z).length ≤ 200) (hp : ∀ r ∈ zr_ Z, r.1 < 1000) (hv : v < 4) {i : Nat} (hi : i ≤ (zr_ Z).length) (hn : ∀ j, j < i → ∀ y, (zr_ Z)[j]? = some y → y.1 ≠ v) {a : Int32 × ms_S} (hx : i = (zr_ Z).length ∨ ∃ r, (zr_ Z)[i]? = some r ∧ r.1 = v) (ha : pm_turn_b26 (nI v) (nI i) M = some a) : ∀ (d k fuel : Nat), i - k = d → k ≤ i → d < fuel →
    pt_ (fun rec2 => (fun x : Int32 × Int32 => pm_turn_b2 rec2 x.1 x.2)) fuel (nI v, nI k) M = some a := by
  intro d
  induction d with
  | zero =>
    intro k fuel hd hk hf
    obtain ⟨m, rfl⟩ : ∃ m, fuel = m + 1 := ⟨fuel - 1, by omega⟩
    have hki : k = i := by omega
    subst hki
    show pm_turn_b2 _ (nI v) (nI k) M = _
    unfold pm_turn_b2
    refine pn_g _ rfl ?_
    rw [h.1]
    rcases hx with hx | ⟨r, hx1, hx2⟩
    · exact pn_t (nI_le (by omega) (by omega)) ha
    · have hlt := (List.getElem?_eq_some_iff.mp hx1).1
      refine pn_f (nI_ge hlt (by omega)) ?_
      refine pn_g _ (po_l (show k < (mr_ 19).2 by show k < 200; omega)) ?_
      rw [(h.2 k r hx1).1]
      exact pn_t (by rw [hx2]) ha
  | succ d ih =>
    intro k fuel hd hk hf
    obtain ⟨m, rfl⟩ : ∃ m, fuel = m + 1 := ⟨fuel - 1, by omega⟩
    have hlt : k < (zr_ Z).length := by omega
    have hg : (zr_ Z)[k]? = some (zr_ Z)[k] := List.getElem?_eq_getElem hlt
    have hne := hn k (by omega) _ hg
    have hpl := hp _ (List.getElem_mem hlt)
    show pm_turn_b2 _ (nI v) (nI k) M = _
    unfold pm_turn_b2
    refine pn_g _ rfl ?_
    rw [h.1]
    refine pn_f (nI_ge hlt (by omega)) ?_
    refine pn_g _ (po_l (show k < (mr_ 19).2 by show k < 200; omega)) ?_
    rw [(h.2 k _ hg).1]
    refine pn_f (fun z => hne ((nI_eq (by omega) (by omega)).mp z)) ?_
    rw [nI_1]
    exact ih (k + 1) m (by omega) (by omega) (by omega)
theorem pm_turn_ok (hl : l.Nodup) (h : rm_ Z M) (hi : zi_ l 2080 Z) (hv : v < zn_ Z) (ht : ∀ w, (zt_ Z w).length < 90000) : ∃ M', pm_turn (nI v) M = some ((z_turn Z v).2, M') ∧ rm_ (z_turn Z v).1 M' := by
  have h4 := hi.1.2.1
  have hv4 : v < 4 := by omega
  have hlen := zr_len hi.2.1.2.1 hi.2.1.1
  have hp : ∀ r ∈ zr_ Z, r.1 < 1000 := fun r hr => by have := (hi.2.1.1.2.1 r hr).1; omega
  unfold z_turn pm_turn
  rcases zfirst_or v (zr_ Z) with ⟨h1, h2⟩ | ⟨i, r, h1, h2, h3, h4⟩
  · rw [h1]
    refine ⟨M, pm_turn_s (i := (zr_ Z).length) h.2.2.2.1 (by omega) hp hv4 (Nat.le_refl _) (fun j _ y hy => h2 y (List.mem_of_getElem? hy)) (Or.inl rfl) ?_ ((zr_ Z).length - 0) 0 fu_ rfl (Nat.zero_le _) (by unfold fu_; omega), h⟩
    unfold pm_turn_b26
    refine pn_b _ (pm_vat_y h.1 hi.1 hv) (pn_f (by decide) ?_)
    refine pn_g _ rfl ?_
    rw [h.2.2.2.1.1]
    exact pn_f (nI_nlt (Nat.le_refl _) (by omega)) rfl
  · rw [h2]
    dsimp only
    have hlt := (List.getElem?_eq_some_iff.mp h1).1
    have hr : r ∈ zr_ Z := List.mem_of_getElem? h1
    obtain ⟨t1, t2, t3⟩ := zi_take hi (er_perm h1)
    obtain ⟨r1, r2, r3, r4⟩ := hi.2.2.1.2.2.1 r hr
    have ho : 1 ≤ r.2.1 ∧ r.2.1 ≤ zo_ Z := by
      have := zk_K3 r1
      rcases r4 with c | c <;> omega
    have h60 : r.2.1 ≤ 60 := Nat.le_trans ho.2 hi.1.2.2.2.1
    have hep := (hi.2.2.1.1 r.2.1).2.2
    have hG := hi.1.2.2.2.2.2 _ hep
    obtain ⟨w1, w2, w3, w4, w5⟩ := h.2.2.2.1.2 i r h1
    have hi3 : ri_ Z (pu_s (pu_s M 34 r.2.2.1) 35 (nI r.2.2.2.1)) := rm_i (rm_s (rm_s h (by decide)) (by decide))
    obtain ⟨M1, u1, u2, u3, u4⟩ := pm_unrest_ok hi3 hlt (by omega)
    have q34 : M1.1 34 = r.2.2.1 := by rw [pk_pm_unrest (by decide) _ _ _ _ u1, ps_n (by decide), ps_s]
    have q35 : M1.1 35 = nI r.2.2.2.1 := by rw [pk_pm_unrest (by decide) _ _ _ _ u1, ps_s]
    have hrt : rt_ (zj_r Z ((zr_ Z).eraseIdx i), r.2.2.1, r.2.2.2.1) M1 := ⟨rm_m u2 (by rw [u3, ps_n (by decide), ps_n (by decide)]; exact h.2.2.2.2.2.2), q34, q35⟩
    have ti : zi_ l 2080 (zj_r Z ((zr_ Z).eraseIdx i)) := ⟨t1.1, ⟨t1.2.1.1, t1.2.1.2.1, by have := t1.2.1.2.2; omega⟩, t1.2.2⟩
    obtain ⟨a1, a2, a3, a4, a5⟩ := zi_run (o := r.2.1) hl hv4 (zg_ Z (ep_ (ze_ Z r.2.1))) 0 (zj_r Z ((zr_ Z).eraseIdx i), r.2.2.1, r.2.2.2.1) t1 r2 ho (fun x hx => hi.2.2.2 _ x hx)
    obtain ⟨M2, e1, e2⟩ := pm_turn_run (o := r.2.1) (q := r.2.2.2.2) hl hv4 hep hG (fun x hx => hi.2.2.2 _ x hx) (8 - 0) 0 fu_ (zj_r Z ((zr_ Z).eraseIdx i), r.2.2.1, r.2.2.2.1) M1 rfl (by unfold fu_; omega) (by decide) hrt ti r2 ho rfl (fun w => by
      show (zt_ Z w).length + (8 - 0) < 100000
      have := ht w
      omega)
    rw [List.drop_zero] at e1
    have hqq : r.2.2.2.2 = 0 ∨ 100 < r.2.2.2.2 := by
      rcases Nat.eq_zero_or_pos r.2.2.2.2 with c | c
      · exact Or.inl c
      · refine Or.inr (t3.2 _ (List.mem_append_left _ ?_)).1
        unfold za_1
        rw [if_pos c]
        exact List.mem_singleton.mpr rfl
    have hq3 := a3 _ r3
    generalize z_run v r.2.1 (zg_ Z (ep_ (ze_ Z r.2.1))) 0 (zj_r Z ((zr_ Z).eraseIdx i), r.2.2.1, r.2.2.2.1) = S at a1 a2 a3 a4 a5 hq3 e1
    obtain ⟨s1, ⟨s2, s3, s4⟩, s5, s6⟩ := a1
    have hqle := zk_K2 s1 hq3
    have hset : ∃ M3, pm_settle (nI v) (nI r.2.2.2.2) (nI S.2.2) M2 = some ((), M3) ∧ ri_ (z_settle S.1 [] v r.2.2.2.2 S.2.2).1 M3 ∧ rx_ (z_settle S.1 [] v r.2.2.2.2 S.2.2).2 M3 := by
      rcases Nat.eq_zero_or_pos r.2.2.2.2 with c | c
      · rw [c]
        have e0 : z_settle S.1 [] v 0 S.2.2 = (S.1, []) := by unfold z_settle; rw [if_pos rfl]
        rw [e0]
        exact ⟨M2, pn_t rfl rfl, rm_i e1.1, rx_0 e1.1.2.2.2.2.2.2⟩
      · have c : 100 < r.2.2.2.2 := by omega
        have e5 := za_waits s3 s2 c
        have e6 := zphi_waits (l := l) s2 c
        simp only [List.length_nil] at e5
        exact pm_settle_ok (rm_i e1.1) (rx_0 e1.1.2.2.2.2.2.2) s2.1 s2.2.1 hv4 hqq hqle (zk_K2 s1 a2) (by have := zr_len s3 s2; omega) (by omega) (by simp only [List.length_nil]; omega)
    obtain ⟨M3, g1, g2, g3⟩ := hset
    obtain ⟨y1, y2, y3⟩ := zsettle_w (l := l) (lost := []) s2 hv4 (p := r.2.2.2.2) (ref := S.2.2) hqq hqle (zk_K2 s1 a2)
    simp only [List.length_nil] at y3
    obtain ⟨M', m1, m2⟩ := pm_mourn_ok (l := l) hv4 g2 g3 y1 (za_okp s3 y2) (by split at y3 <;> omega)
    refine ⟨M', ?_, m2⟩
    refine pm_turn_s (i := i) h.2.2.2.1 (by omega) hp hv4 (by omega) h4 (Or.inr ⟨r, h1, h3⟩) ?_ (i - 0) 0 fu_ rfl (Nat.zero_le _) (by unfold fu_; omega)
    unfold pm_turn_b26
    refine pn_b _ (pm_vat_y h.1 hi.1 hv) (pn_f (by decide) ?_)
    refine pn_g _ rfl ?_
    rw [h.2.2.2.1.1]
    refine pn_t (nI_lt hlt (by omega)) ?_
    have j20 : ∀ k, (mr_ k).2 = 200 → i < (mr_ k).2 := fun k hk => by rw [hk]; omega
    refine pn_g _ (po_l (j20 20 rfl)) ?_
    refine pn_g _ (po_l (j20 21 rfl)) ?_
    refine pn_w _ rfl ?_
    refine pn_g _ (po_l (j20 22 rfl)) ?_
    refine pn_w _ rfl ?_
    refine pn_g _ (po_l (j20 23 rfl)) ?_
    show pb_ (pm_unrest (nI i)) (fun _ => pg_ (pl_ 11 (M.2 20 i)) fun t10 => pt_ (fun rec95 => (fun x : Int32 × Int32 × Int32 × Int32 × Int32 => pm_turn_b95 rec95 x.1 x.2.1 x.2.2.1 x.2.2.2.1 x.2.2.2.2)) fu_ (nI v, M.2 20 i, M.2 23 i, t10, (0 : Int32))) (pu_s (pu_s M 34 (M.2 21 i)) 35 (M.2 22 i)) = _
    rw [w2, w3, w4, w5]
    refine pn_b _ u1 ?_
    refine pn_g _ (po_l (show r.2.1 < (mr_ 11).2 by show r.2.1 < 61; omega)) ?_
    rw [((u2.2.2.1 r.2.1 (by omega)).2.2.2.2.2.2 h60).1]
    refine e2 _ ?_
    refine pn_g (nI S.2.2) (show some (M2.1 35) = _ by rw [e1.2.2]) ?_
    refine pn_b _ g1 ?_
    exact pn_b _ m1 rfl
theorem pm_turn_n (h : rm_r Z M) (hlen : (zr_ Z).length ≤ 200) {x : Int32} (h0 : pm_vat x M = some (0, M)) : pm_turn x M = some (-1, M) := by
  have key : ∀ (d k fuel : Nat), (zr_ Z).length - k = d → k ≤ (zr_ Z).length → d < fuel → pt_ (fun rec2 => (fun x : Int32 × Int32 => pm_turn_b2 rec2 x.1 x.2)) fuel (x, nI k) M = some (-1, M) := by
    have b26 : ∀ k, pm_turn_b26 x k M = some (-1, M) := fun k => pn_b _ h0 (pn_t rfl rfl)
    intro d
    induction d with
    | zero =>
      intro k fuel hd hk hf
      obtain ⟨m, rfl⟩ : ∃ m, fuel = m + 1 := ⟨fuel - 1, by omega⟩
      show pm_turn_b2 _ x (nI k) M = _
      unfold pm_turn_b2
      refine pn_g _ rfl ?_
      rw [h.1]
      exact pn_t (nI_le (by omega) (by omega)) (b26 _)
    | succ d ih =>
      intro k fuel hd hk hf
      obtain ⟨m, rfl⟩ : ∃ m, fuel = m + 1 := ⟨fuel - 1, by omega⟩
      show pm_turn_b2 _ x (nI k) M = _
      unfold pm_turn_b2
      refine pn_g _ rfl ?_
      rw [h.1]
      refine pn_f (nI_ge (by omega) (by omega)) ?_
      refine pn_g _ (po_l (show k < (mr_ 19).2 by show k < 200; omega)) ?_
      by_cases hc : M.2 19 k = x
      · exact pn_t hc (b26 _)
      · refine pn_f hc ?_
        rw [nI_1]
        exact ih (k + 1) m (by omega) (by omega) (by omega)
  exact key ((zr_ Z).length - 0) 0 fu_ rfl (Nat.zero_le _) (by unfold fu_; omega)
end RTN
