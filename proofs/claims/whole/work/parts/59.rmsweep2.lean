/-! The reference's sweep: the marks are what is in reach; what it frees; what it lets go. -/
section RSX
variable {Z : zz_S} {M M' : ms_S} {D D' D0 : Nat → Bool} {v : Nat} {l : List Nat}
/-- the roots among the resting calls -/
theorem pm_sweep_b (h : rm_ Z M) (hw : zk_w Z) (hv : v < 4) (hlen : (zr_ Z).length ≤ 200) (hR : ∀ r ∈ zr_ Z, (r.1 = v → (r.2.1 ≠ 0 → zk_R Z v r.2.1) ∧ (r.2.2.2.1 ≠ 0 → zk_R Z v r.2.2.2.1)) ∧ (100 < r.1 → zh_ Z r.1 = v → zk_R Z v r.1)) : ∀ (d k fuel : Nat) (M1 : ms_S) (D1 : Nat → Bool), (zr_ Z).length - k = d → k ≤ (zr_ Z).length → d < fuel → mk_ (zk_R Z v) M D M1 D1 →
    ∃ M2 D2, mk_ (zk_R Z v) M D M2 D2 ∧ (∀ e, D1 e = true → D2 e = true) ∧ (∀ i r, k ≤ i → (zr_ Z)[i]? = some r → (r.1 = v → (r.2.1 ≠ 0 → D2 r.2.1 = true) ∧ (r.2.2.2.1 ≠ 0 → D2 r.2.2.2.1 = true)) ∧ (100 < r.1 → zh_ Z r.1 = v → D2 r.1 = true)) ∧
      ∀ y, (pw_ (pp_ 14 (1 : Int32)) (pt_ (fun rec155 => (fun x : Int32 × Int32 => pm_sweep_b155 rec155 x.1 x.2)) fu_ (nI v, (0 : Int32)))) M2 = some y →
      pt_ (fun rec65 => (fun x : Int32 × Int32 => pm_sweep_b65 rec65 x.1 x.2)) fuel (nI v, nI k) M1 = some y := by
  intro d
  induction d with
  | zero =>
    intro k fuel M1 D1 hdk hk hfu hm
    obtain ⟨m, rfl⟩ : ∃ m, fuel = m + 1 := ⟨fuel - 1, by omega⟩
    refine ⟨M1, D1, hm, fun _ he => he, fun i r hi hr => ?_, fun y hy => ?_⟩
    · have := (List.getElem?_eq_some_iff.mp hr).1
      omega
    · show pm_sweep_b65 _ (nI v) (nI k) M1 = _
      unfold pm_sweep_b65
      refine pn_g _ rfl ?_
      rw [(rq_m h hm.1).2.2.2.1.1]
      exact pn_t (nI_le (by omega) (by omega)) hy
  | succ d ih =>
    intro k fuel M1 D1 hdk hk hfu hm
    obtain ⟨m, rfl⟩ : ∃ m, fuel = m + 1 := ⟨fuel - 1, by omega⟩
    have h1 : rm_ Z M1 := rq_m h hm.1
    have hlt : k < (zr_ Z).length := by omega
    have hg : (zr_ Z)[k]? = some (zr_ Z)[k] := List.getElem?_eq_getElem hlt
    have hmem := List.getElem_mem hlt
    have hrow := h1.2.2.2.1.2 k _ hg
    have hwr := hw.2.1 _ hmem
    have hRr := hR _ hmem
    generalize (zr_ Z)[k] = r at hg hmem hrow hwr hRr
    have j : ∀ q, (mr_ q).2 = 200 → k < (mr_ q).2 := fun q hq => by rw [hq]; omega
    -- what is to be shown, once this call's marks are set
    have step : ∀ (M3 : ms_S) (D3 : Nat → Bool), mk_ (zk_R Z v) M D M3 D3 → (∀ e, D1 e = true → D3 e = true) → ((r.1 = v → (r.2.1 ≠ 0 → D3 r.2.1 = true) ∧ (r.2.2.2.1 ≠ 0 → D3 r.2.2.2.1 = true)) ∧ (100 < r.1 → zh_ Z r.1 = v → D3 r.1 = true)) →
        (∀ y, pt_ (fun rec65 => (fun x : Int32 × Int32 => pm_sweep_b65 rec65 x.1 x.2)) m (nI v, nI (k + 1)) M3 = some y → pt_ (fun rec65 => (fun x : Int32 × Int32 => pm_sweep_b65 rec65 x.1 x.2)) (m + 1) (nI v, nI k) M1 = some y) →
        ∃ M2 D2, mk_ (zk_R Z v) M D M2 D2 ∧ (∀ e, D1 e = true → D2 e = true) ∧ (∀ i r, k ≤ i → (zr_ Z)[i]? = some r → (r.1 = v → (r.2.1 ≠ 0 → D2 r.2.1 = true) ∧ (r.2.2.2.1 ≠ 0 → D2 r.2.2.2.1 = true)) ∧ (100 < r.1 → zh_ Z r.1 = v → D2 r.1 = true)) ∧
        ∀ y, (pw_ (pp_ 14 (1 : Int32)) (pt_ (fun rec155 => (fun x : Int32 × Int32 => pm_sweep_b155 rec155 x.1 x.2)) fu_ (nI v, (0 : Int32)))) M2 = some y →
        pt_ (fun rec65 => (fun x : Int32 × Int32 => pm_sweep_b65 rec65 x.1 x.2)) (m + 1) (nI v, nI k) M1 = some y := by
      intro M3 D3 m3 d3 r3 f3
      obtain ⟨M2, D2, e1, e2, e3, e4⟩ := ih (k + 1) m M3 D3 (by omega) (by omega) (by omega) m3
      refine ⟨M2, D2, e1, fun e he => e2 e (d3 e he), fun i x hi hx => ?_, fun y hy => f3 y (e4 y hy)⟩
      by_cases hik : i = k
      · subst hik
        rw [hg] at hx
        cases hx
        exact ⟨fun c => ⟨fun c0 => e2 _ ((r3.1 c).1 c0), fun c0 => e2 _ ((r3.1 c).2 c0)⟩, fun c c2 => e2 _ (r3.2 c c2)⟩
      · exact e3 i x (by omega) hx
    have front : ∀ y, (if nI r.1 = nI v then (pg_ (pl_ 20 (nI k)) fun t7 => pb_ (pm_mark t7) fun _ => pg_ (pl_ 22 (nI k)) fun t9 => pb_ (pm_mark t9) fun _ => pm_sweep_b142 (pt_ (fun rec65 => (fun x : Int32 × Int32 => pm_sweep_b65 rec65 x.1 x.2)) m) (nI v) (nI k)) else (pg_ (pl_ 19 (nI k)) fun t11 => if t11 ≤ (100 : Int32) then (pm_sweep_b142 (pt_ (fun rec65 => (fun x : Int32 × Int32 => pm_sweep_b65 rec65 x.1 x.2)) m) (nI v) (nI k)) else (pg_ (pl_ 19 (nI k)) fun t12 => pg_ (pl_ 6 t12) fun t13 => if t13 = nI v then (pg_ (pl_ 19 (nI k)) fun t14 => pb_ (pm_mark t14) fun _ => pm_sweep_b142 (pt_ (fun rec65 => (fun x : Int32 × Int32 => pm_sweep_b65 rec65 x.1 x.2)) m) (nI v) (nI k)) else (pm_sweep_b142 (pt_ (fun rec65 => (fun x : Int32 × Int32 => pm_sweep_b65 rec65 x.1 x.2)) m) (nI v) (nI k))))) M1 = some y →
        pt_ (fun rec65 => (fun x : Int32 × Int32 => pm_sweep_b65 rec65 x.1 x.2)) (m + 1) (nI v, nI k) M1 = some y := by
      intro y hy
      show pm_sweep_b65 _ (nI v) (nI k) M1 = _
      unfold pm_sweep_b65
      refine pn_g _ rfl ?_
      rw [h1.2.2.2.1.1]
      refine pn_f (nI_ge hlt (by omega)) ?_
      refine pn_g _ (po_l (j 19 rfl)) ?_
      rw [hrow.1]
      exact hy
    have skip : ∀ (M3 : ms_S) y, pt_ (fun rec65 => (fun x : Int32 × Int32 => pm_sweep_b65 rec65 x.1 x.2)) m (nI v, nI (k + 1)) M3 = some y → pm_sweep_b142 (pt_ (fun rec65 => (fun x : Int32 × Int32 => pm_sweep_b65 rec65 x.1 x.2)) m) (nI v) (nI k) M3 = some y := by
      intro M3 y hy
      unfold pm_sweep_b142
      rw [nI_1]
      exact hy
    by_cases hrv : r.1 = v
    · obtain ⟨hr1, hr2⟩ := hRr.1 hrv
      obtain ⟨M3, D3, c1, c2, c3⟩ := pm_mark_ok (R := zk_R Z v) (u := r.2.1) hwr.2.1 hm.2.1 hm.2.2.2.1 hr1
      obtain ⟨M4, D4, d1, d2, d3⟩ := pm_mark_ok (R := zk_R Z v) (u := r.2.2.2.1) hwr.2.2.1 c2.2.1 c2.2.2.2.1 hr2
      refine step M4 D4 (mk_t hm (mk_t c2 d2)) (fun e he => d2.2.2.1 e (c2.2.2.1 e he)) ⟨fun _ => ⟨fun c0 => d2.2.2.1 _ (c3 c0), d3⟩, fun c => by omega⟩ (fun y hy => front y (pn_t (by rw [hrv]) ?_))
      refine pn_g _ (po_l (j 20 rfl)) ?_
      rw [hrow.2.1]
      refine pn_b _ c1 ?_
      refine pn_g _ (po_l (j 22 rfl)) ?_
      rw [c2.1.1 22 (by decide), hrow.2.2.2.1]
      exact pn_b _ d1 (skip M4 y hy)
    · have hne : ¬ nI r.1 = nI v := fun z => hrv ((nI_eq (by omega) (by omega)).mp z)
      by_cases h100 : r.1 ≤ 100
      · refine step M1 D1 hm (fun _ he => he) ⟨fun c => absurd c hrv, fun c => by omega⟩ (fun y hy => front y (pn_f hne ?_))
        refine pn_g _ (po_l (j 19 rfl)) ?_
        rw [hrow.1]
        exact pn_t (show nI r.1 ≤ nI 100 from nI_le h100 (by omega)) (skip M1 y hy)
      · have front2 : ∀ y, (if nI (zh_ Z r.1) = nI v then (pg_ (pl_ 19 (nI k)) fun t14 => pb_ (pm_mark t14) fun _ => pm_sweep_b142 (pt_ (fun rec65 => (fun x : Int32 × Int32 => pm_sweep_b65 rec65 x.1 x.2)) m) (nI v) (nI k)) else (pm_sweep_b142 (pt_ (fun rec65 => (fun x : Int32 × Int32 => pm_sweep_b65 rec65 x.1 x.2)) m) (nI v) (nI k))) M1 = some y →
            pt_ (fun rec65 => (fun x : Int32 × Int32 => pm_sweep_b65 rec65 x.1 x.2)) (m + 1) (nI v, nI k) M1 = some y := by
          intro y hy
          refine front y (pn_f hne ?_)
          refine pn_g _ (po_l (j 19 rfl)) ?_
          rw [hrow.1]
          refine pn_f (show ¬ nI r.1 ≤ nI 100 from nI_ge (by omega) (by omega)) ?_
          refine pn_g _ (po_l (j 19 rfl)) ?_
          rw [hrow.1]
          refine pn_g _ (po_l (show r.1 < (mr_ 6).2 by show r.1 < 201; omega)) ?_
          rw [(h1.2.2.1 r.1 hwr.1).1]
          exact hy
        have h4 := (hw.1 r.1 hwr.1).1
        by_cases hh : zh_ Z r.1 = v
        · obtain ⟨M3, D3, c1, c2, c3⟩ := pm_mark_ok (R := zk_R Z v) (u := r.1) hwr.1 hm.2.1 hm.2.2.2.1 (fun _ => hRr.2 (by omega) hh)
          refine step M3 D3 (mk_t hm c2) c2.2.2.1 ⟨fun c => absurd c hrv, fun _ _ => c3 (by omega)⟩ (fun y hy => front2 y (pn_t (by rw [hh]) ?_))
          refine pn_g _ (po_l (j 19 rfl)) ?_
          rw [hrow.1]
          exact pn_b _ c1 (skip M3 y hy)
        · exact step M1 D1 hm (fun _ he => he) ⟨fun c => absurd c hrv, fun _ c => absurd c hh⟩ (fun y hy => front2 y (pn_f (fun z => hh ((nI_eq (by omega) (by omega)).mp z)) (skip M1 y hy)))
theorem root_or {e : Nat} : zk_root Z v e = true ↔ zk_r1 Z v e = true ∨ ∃ r ∈ zr_ Z, (r.1 = v ∧ (r.2.1 = e ∨ r.2.2.2.1 = e)) ∨ (100 < r.1 ∧ zh_ Z r.1 = v ∧ r.1 = e) := by
  unfold zk_root zk_r1
  rw [Bool.or_eq_true]
  refine or_congr Iff.rfl ?_
  rw [List.any_eq_true]
  simp only [Bool.and_eq_true, Bool.or_eq_true, beq_iff_eq, decide_eq_true_eq, and_assoc]
/-- the marks at the end are what is in reach -/
theorem pm_sweep_m (h : rm_ Z M) (hz : zw_n Z) (hd : zd_ (zk_K Z) Z) (hw : zk_w Z) (hx : zx_b Z 1000000) (hv : v < zn_ Z) (hlen : (zr_ Z).length ≤ 200) :
    ∃ M2 D, rq_ M M2 ∧ rk_ D M2 ∧ zk_isR Z v D ∧ ∀ y, pm_sweep_b185 (nI v) M2 = some y → pm_sweep (nI v) M = some y := by
  have h4 := hz.2.1
  have hv4 : v < 4 := by omega
  obtain ⟨M1, a1, a2, a3⟩ := pm_sweep_a h hz hw hx hv4 200 1 fu_ M rfl (by omega) (by omega) (by unfold fu_; omega) rq_i (fun e e1 e2 => by omega)
  have hr1 : ∀ e, zk_r1 Z v e = true → 1 ≤ e ∧ e ≤ 200 := fun e he => by
    unfold zk_r1 at he
    rw [Bool.and_eq_true, Bool.and_eq_true] at he
    exact live_le hz he.1.1
  have hR1 : ∀ e, zk_r1 Z v e = true → zk_R Z v e := fun e he => R_root (by have := hr1 e he; omega) (root_or.mpr (Or.inl he))
  have hRr : ∀ r ∈ zr_ Z, (r.1 = v → (r.2.1 ≠ 0 → zk_R Z v r.2.1) ∧ (r.2.2.2.1 ≠ 0 → zk_R Z v r.2.2.2.1)) ∧ (100 < r.1 → zh_ Z r.1 = v → zk_R Z v r.1) := fun r hr =>
    ⟨fun c => ⟨fun c0 => R_root c0 (root_or.mpr (Or.inr ⟨r, hr, Or.inl ⟨c, Or.inl rfl⟩⟩)), fun c0 => R_root c0 (root_or.mpr (Or.inr ⟨r, hr, Or.inl ⟨c, Or.inr rfl⟩⟩))⟩, fun c c2 => R_root (by omega) (root_or.mpr (Or.inr ⟨r, hr, Or.inr ⟨c, c2, rfl⟩⟩))⟩
  obtain ⟨M2, D2, b1, b2, b3, b4⟩ := pm_sweep_b (D := zk_r1 Z v) (rq_m h a1) hw hv4 hlen hRr ((zr_ Z).length - 0) 0 fu_ M1 (zk_r1 Z v) rfl (Nat.zero_le _) (by unfold fu_; omega) (mk_i a2 hR1)
  have hq : rq_ M2 (pu_s M2 14 1) := ⟨fun _ _ => rfl, fun k hk => ps_n hk⟩
  obtain ⟨M3, D3, c1, c2, c3, c4, c5, c6⟩ := pm_sweep_c h hz hd hw hv4 hlen 201 0 fu_ (pu_s M2 14 1) D2 (by omega) (Nat.zero_le _) (by unfold fu_; omega) ps_s (rq_t a1 (rq_t b1.1 hq)) b1.2.1 b1.2.2.2.1
  refine ⟨M3, D3, c1, c2, fun e => ⟨c4 e, fun ⟨k, hk⟩ => R_in (fun e e0 he => ?_) c5 k e hk⟩, fun y hy => ?_⟩
  · rcases root_or.mp he with he | ⟨r, hr, ⟨k1, k2 | k2⟩ | ⟨k1, k2, k3⟩⟩
    · exact c3 e (b2 e he)
    · obtain ⟨i, hi⟩ := List.getElem?_of_mem hr
      subst k2
      exact c3 _ (((b3 i r (Nat.zero_le _) hi).1 k1).1 e0)
    · obtain ⟨i, hi⟩ := List.getElem?_of_mem hr
      subst k2
      exact c3 _ (((b3 i r (Nat.zero_le _) hi).1 k1).2 e0)
    · obtain ⟨i, hi⟩ := List.getElem?_of_mem hr
      subst k3
      exact c3 _ ((b3 i r (Nat.zero_le _) hi).2 k1 k2)
  · unfold pm_sweep
    refine pn_b _ (pm_vat_y h.1 hz hv) (pn_f (by decide) ?_)
    refine a3 y ?_
    refine b4 y ?_
    exact pn_w _ rfl (c6 y hy)
theorem zfree_s (k : Nat) : z_free Z v D (k + 1) = if zk_fr Z v D k = true then zj_e (z_free Z v D k) k (ej_g (ze_ (z_free Z v D k) k)) else z_free Z v D k := by
  unfold z_free
  rw [List.range_succ, List.foldl_append]
  rfl
theorem zdrop_s {X : zz_S} (k : Nat) : z_drop D v X (k + 1) = if 0 < ei_ (ze_ (z_drop D v X k) k) v ∧ D k = false then z_post (zj_e (z_drop D v X k) k (ej_i (ze_ (z_drop D v X k) k) v 0)) 3 v (zh_ (z_drop D v X k) k) k (Int32.ofInt (ei_ (ze_ (z_drop D v X k) k) v)) 0 0 else z_drop D v X k := by
  unfold z_drop
  rw [List.range_succ, List.foldl_append]
  rfl
theorem zfree_n : ∀ (k e : Nat), k ≤ e → ze_ (z_free Z v D k) e = ze_ Z e
  | 0, _, _ => rfl
  | k + 1, e, h => by
    rw [zfree_s]
    split
    · rw [ze_n (by omega)]
      exact zfree_n k e (by omega)
    · exact zfree_n k e (by omega)
theorem zfree_f : ∀ (k : Nat), (z_free Z v D k).1 = Z.1 ∧ zg_ (z_free Z v D k) = zg_ Z ∧ zr_ (z_free Z v D k) = zr_ Z ∧ zl_ (z_free Z v D k) = zl_ Z ∧ zt_ (z_free Z v D k) = zt_ Z ∧ ∀ e, zh_ (z_free Z v D k) e = zh_ Z e ∧ (ze_ (z_free Z v D k) e).2.2 = (ze_ Z e).2.2
  | 0 => ⟨rfl, rfl, rfl, rfl, rfl, fun _ => ⟨rfl, rfl⟩⟩
  | k + 1 => by
    have ih := zfree_f k
    rw [zfree_s]
    split
    · refine ⟨ih.1, ih.2.1, ih.2.2.1, ih.2.2.2.1, ih.2.2.2.2.1, fun e => ?_⟩
      unfold zh_
      by_cases he : e = k
      · subst he
        rw [ze_s]
        exact ih.2.2.2.2.2 e
      · rw [ze_n he]
        exact ih.2.2.2.2.2 e
    · exact ih
theorem ue_g (h : rm_e Z M) {e : Nat} : rm_e (zj_e Z e (ej_g (ze_ Z e))) (pu_a M 7 e 1) := by
  intro f hf
  have h8 := h f hf
  unfold zh_ at h8 ⊢
  by_cases hfe : f = e
  · subst hfe
    rw [ze_s]
    exact ⟨h8.1, pa_s, h8.2.2⟩
  · rw [ze_n hfe]
    refine ⟨h8.1, ?_, h8.2.2⟩
    rw [pa_n (Or.inr hfe)]
    exact h8.2.1
/-- what is freed -/
theorem pm_sweep_f (hz : zw_n Z) (hw : zw_e Z) (hv : v < 4) : ∀ (d k fuel : Nat) (M1 : ms_S), 201 - k = d → 1 ≤ k → k ≤ 201 → d < fuel → rm_ (z_free Z v D k) M1 → rk_ D M1 →
    ∃ M2, rm_ (z_free Z v D 201) M2 ∧ rk_ D M2 ∧ ∀ y, pt_ (fun rec241 => (fun x : Int32 × Int32 × Int32 => pm_sweep_b241 rec241 x.1 x.2.1 x.2.2)) fu_ (nI v, nI ((List.range 201).filter (zk_fr Z v D)).length, nI 1) M2 = some y →
      pt_ (fun rec189 => (fun x : Int32 × Int32 × Int32 => pm_sweep_b189 rec189 x.1 x.2.1 x.2.2)) fuel (nI v, nI ((List.range k).filter (zk_fr Z v D)).length, nI k) M1 = some y := by
  intro d
  induction d with
  | zero =>
    intro k fuel M1 hdk hk1 hk2 hfu h hk
    obtain ⟨m, rfl⟩ : ∃ m, fuel = m + 1 := ⟨fuel - 1, by omega⟩
    have : k = 201 := by omega
    subst this
    refine ⟨M1, h, hk, fun y hy => ?_⟩
    show pm_sweep_b189 _ (nI v) _ (nI 201) M1 = _
    unfold pm_sweep_b189
    exact pn_t (show nI 200 < nI 201 from nI_lt (by omega) (by omega)) hy
  | succ d ih =>
    intro k fuel M1 hdk hk1 hk2 hfu h hk
    obtain ⟨m, rfl⟩ : ∃ m, fuel = m + 1 := ⟨fuel - 1, by omega⟩
    have hk200 : k ≤ 200 := by omega
    have ff := zfree_f (Z := Z) (v := v) (D := D) k
    have hzk : zw_n (z_free Z v D k) := by
      unfold zw_n zn_ zo_ zp_ at hz ⊢
      rw [ff.1, ff.2.1]
      exact hz
    have hlvk : zk_live (z_free Z v D k) k = zk_live Z k := by
      unfold zk_live zk_made zo_ zp_
      rw [ff.1, zfree_n k k (Nat.le_refl _)]
    have hlv := pm_lives_ok h hzk hk200
    rw [hlvk] at hlv
    have hrow := h.2.2.1 k hk200
    have hhk : zh_ (z_free Z v D k) k = zh_ Z k := (ff.2.2.2.2.2 k).1
    rw [hhk] at hrow
    have hmr := hk k hk1 hk200
    have h4 := (hw k hk200).1
    have hrng : (List.range (k + 1)).filter (zk_fr Z v D) = (List.range k).filter (zk_fr Z v D) ++ (if zk_fr Z v D k = true then [k] else []) := by
      rw [List.range_succ, List.filter_append, List.filter_cons]
      rfl
    have hs := zfree_s (Z := Z) (v := v) (D := D) k
    have j7 : k < (mr_ 7).2 := by show k < 201; omega
    have j6 : k < (mr_ 6).2 := by show k < 201; omega
    have j10 : k < (mr_ 10).2 := by show k < 201; omega
    by_cases hfr : zk_fr Z v D k = true
    · rw [if_pos hfr] at hs hrng
      have hu : rm_ (z_free Z v D (k + 1)) (pu_a M1 7 k 1) := by
        rw [hs]
        exact rm_m (ri_u (rm_i h) (by decide) (ue_g h.2.2.1)) h.2.2.2.2.2.2
      obtain ⟨M2, b1, b2, b3⟩ := ih (k + 1) m (pu_a M1 7 k 1) (by omega) (by omega) (by omega) (by omega) hu (fun e e1 e2 => by rw [pa_q (by decide)]; exact hk e e1 e2)
      refine ⟨M2, b1, b2, fun y hy => ?_⟩
      unfold zk_fr at hfr
      rw [Bool.and_eq_true, Bool.and_eq_true, decide_eq_true_eq] at hfr
      obtain ⟨⟨f1, f2⟩, f3⟩ := hfr
      have f3 : D k = false := by simpa using f3
      show pm_sweep_b189 _ (nI v) _ (nI k) M1 = _
      unfold pm_sweep_b189 pm_sweep_b233
      refine pn_f (show ¬ nI 200 < nI k from nI_nlt hk200 (by omega)) ?_
      refine pn_b _ hlv ?_
      rw [f1]
      refine pn_f (by decide) ?_
      refine pn_g _ (po_l j6) ?_
      rw [hrow.1]
      refine pn_t (by rw [f2]) ?_
      refine pn_g _ (po_l j10) ?_
      rw [hmr, f3]
      refine pn_t rfl ?_
      refine pn_g () rfl ?_
      refine pn_w _ (po_s j7) ?_
      rw [nI_1, nI_1]
      have := b3 y hy
      rw [hrng, List.length_append] at this
      exact this
    · rw [if_neg hfr] at hs hrng
      obtain ⟨M2, b1, b2, b3⟩ := ih (k + 1) m M1 (by omega) (by omega) (by omega) (by omega) (by rw [hs]; exact h) hk
      refine ⟨M2, b1, b2, fun y hy => ?_⟩
      have hb := b3 y hy
      rw [hrng, List.append_nil] at hb
      have hf : zk_fr Z v D k = false := by simpa using hfr
      show pm_sweep_b189 _ (nI v) _ (nI k) M1 = _
      unfold pm_sweep_b189 pm_sweep_b233
      refine pn_f (show ¬ nI 200 < nI k from nI_nlt hk200 (by omega)) ?_
      refine pn_b _ hlv ?_
      unfold zk_fr at hf
      cases hl2 : zk_live Z k with
      | false =>
        refine pn_t rfl ?_
        rw [nI_1]
        exact hb
      | true =>
        rw [hl2] at hf
        refine pn_f (by decide) ?_
        refine pn_g _ (po_l j6) ?_
        rw [hrow.1]
        by_cases hh : zh_ Z k = v
        · rw [decide_eq_true hh] at hf
          have hD : D k = true := by simpa using hf
          refine pn_t (by rw [hh]) ?_
          refine pn_g _ (po_l j10) ?_
          rw [hmr, hD]
          refine pn_f (by decide) ?_
          rw [nI_1]
          exact hb
        · refine pn_f (fun z => hh ((nI_eq (by omega) (by omega)).mp z)) ?_
          rw [nI_1]
          exact hb
end RSX
