/-! The reference's spread. -/
/-- what a live entity f of v leads to -/
def zk_n1 (Z : zz_S) (v f e : Nat) : Bool := zk_live Z f && decide (zh_ Z f = v) && ((decide (100 < f) && es_ (ze_ Z f) && et_ (ze_ Z f) == e) || (decide (f ≤ 60) && (List.range 4).any (fun s => el_ (ze_ Z f) s == e)))
section RSP
variable {Z : zz_S} {M M' : ms_S} {D D' D0 : Nat → Bool} {R : Nat → Prop} {v : Nat}
theorem pm_spread_s {rec2 : Int32 × Int32 → pm_M Unit} (h : rm_ Z M) (hz : zw_n Z) (hd : zd_ (zk_K Z) Z) {f : Nat} (hf : f ≤ 200) (hRf : f ≤ 60 → ∀ s, s < 4 → el_ (ze_ Z f) s ≠ 0 → R (el_ (ze_ Z f) s)) : ∀ (d k fuel : Nat) (M1 : ms_S) (D1 : Nat → Bool), 4 - k = d → k ≤ 4 → d < fuel → mk_ R M D M1 D1 →
    ∃ M2 D2, mk_ R M D M2 D2 ∧ (∀ e, D1 e = true → D2 e = true) ∧ (f ≤ 60 → ∀ s, k ≤ s → s < 4 → el_ (ze_ Z f) s ≠ 0 → D2 (el_ (ze_ Z f) s) = true) ∧ ∀ y, rec2 (nI v, nI (f + 1)) M2 = some y →
      pt_ (fun rec67 => (fun x : Int32 × Int32 × Int32 => pm_spread_b67 rec2 rec67 x.1 x.2.1 x.2.2)) fuel (nI v, nI f, nI k) M1 = some y := by
  intro d
  induction d with
  | zero =>
    intro k fuel M1 D1 hdk hk hfu hm
    obtain ⟨m, rfl⟩ : ∃ m, fuel = m + 1 := ⟨fuel - 1, by omega⟩
    refine ⟨M1, D1, hm, fun _ he => he, fun _ s h1 h2 => by omega, fun y hy => ?_⟩
    show pm_spread_b67 _ _ (nI v) (nI f) (nI k) M1 = _
    unfold pm_spread_b67 pm_spread_b98
    refine pn_t (show nI 4 ≤ nI k from nI_le (by omega) (by omega)) ?_
    rw [nI_1]
    exact hy
  | succ d ih =>
    intro k fuel M1 D1 hdk hk hfu hm
    obtain ⟨m, rfl⟩ : ∃ m, fuel = m + 1 := ⟨fuel - 1, by omega⟩
    have h4 : ¬ nI 4 ≤ nI k := nI_ge (by omega) (by omega)
    by_cases h60 : 60 < f
    · refine ⟨M1, D1, hm, fun _ he => he, fun c => by omega, fun y hy => ?_⟩
      show pm_spread_b67 _ _ (nI v) (nI f) (nI k) M1 = _
      unfold pm_spread_b67 pm_spread_b98
      refine pn_f h4 (pn_t (show nI 60 < nI f from nI_lt h60 (by omega)) ?_)
      rw [nI_1]
      exact hy
    · have hKu := (hd.1 f).2.1 k
      obtain ⟨M2, D2, c1, c2, c3⟩ := pm_mark_ok (R := R) (u := el_ (ze_ Z f) k) (zk_K2 hz hKu) hm.2.1 hm.2.2.2.1 (hRf (by omega) k (by omega))
      obtain ⟨M3, D3, e1, e2, e3, e4⟩ := ih (k + 1) m M2 D2 (by omega) (by omega) (by omega) (mk_t hm c2)
      refine ⟨M3, D3, e1, fun e he => e2 e (c2.2.2.1 e he), fun c s s1 s2 s3 => ?_, fun y hy => ?_⟩
      · by_cases hs : s = k
        · subst hs
          exact e2 _ (c3 s3)
        · exact e3 c s (by omega) s2 s3
      · show pm_spread_b67 _ _ (nI v) (nI f) (nI k) M1 = _
        unfold pm_spread_b67
        refine pn_f h4 (pn_f (show ¬ nI 60 < nI f from nI_nlt (by omega) (by omega)) ?_)
        rw [e4_]
        refine pn_g _ (po_l (show 4 * f + k < (mr_ 13).2 by show _ < 244; omega)) ?_
        rw [hm.1.1 13 (by decide), ((h.2.2.1 f hf).2.2.2.2.2.2 (by omega)).2.2 k (by omega)]
        refine pn_b _ c1 ?_
        rw [nI_1]
        exact e4 y hy
theorem n1_dest {f e : Nat} (h : zk_n1 Z v f e = true) : zk_live Z f = true ∧ zh_ Z f = v ∧ ((100 < f ∧ es_ (ze_ Z f) = true ∧ et_ (ze_ Z f) = e) ∨ (f ≤ 60 ∧ ∃ s, s < 4 ∧ el_ (ze_ Z f) s = e)) := by
  unfold zk_n1 at h
  simp only [Bool.and_eq_true, Bool.or_eq_true, decide_eq_true_eq, beq_iff_eq, List.any_eq_true, List.mem_range] at h
  obtain ⟨⟨h1, h2⟩, h3⟩ := h
  refine ⟨h1, h2, ?_⟩
  rcases h3 with ⟨⟨c1, c2⟩, c3⟩ | ⟨c1, s, c2, c3⟩
  · exact Or.inl ⟨c1, c2, c3⟩
  · exact Or.inr ⟨c1, s, c2, c3⟩
theorem n1_mk {f e : Nat} (h1 : zk_live Z f = true) (h2 : zh_ Z f = v) (h3 : (100 < f ∧ es_ (ze_ Z f) = true ∧ et_ (ze_ Z f) = e) ∨ (f ≤ 60 ∧ ∃ s, s < 4 ∧ el_ (ze_ Z f) s = e)) : zk_n1 Z v f e = true := by
  unfold zk_n1
  simp only [Bool.and_eq_true, Bool.or_eq_true, decide_eq_true_eq, beq_iff_eq, List.any_eq_true, List.mem_range]
  refine ⟨⟨h1, h2⟩, ?_⟩
  rcases h3 with ⟨c1, c2, c3⟩ | ⟨c1, s, c2, c3⟩
  · exact Or.inl ⟨⟨c1, c2⟩, c3⟩
  · exact Or.inr ⟨c1, s, c2, c3⟩
theorem live_le (hz : zw_n Z) {f : Nat} (h : zk_live Z f = true) : 1 ≤ f ∧ f ≤ 200 := by
  unfold zk_live at h
  rw [Bool.and_eq_true] at h
  have h1 := zk_K2 hz (Or.inr h.1)
  have h2 : f ≠ 0 := fun c => by
    subst c
    have := h.1
    unfold zk_made at this
    simp at this
  omega
/-- one entity of a pass -/
theorem pm_spread_e {rec2 : Int32 × Int32 → pm_M Unit} (h : rm_ Z M) (hz : zw_n Z) (hd : zd_ (zk_K Z) Z) (hv : v < 4) (he4 : zw_e Z) {f : Nat} (hf1 : 1 ≤ f) (hf : f ≤ 200) (hRn : ∀ f e, R f → e ≠ 0 → zk_n1 Z v f e = true → R e) {M1 : ms_S} {D1 : Nat → Bool} (hm : mk_ R M D M1 D1) :
    ∃ M2 D2, mk_ R M D M2 D2 ∧ (∀ e, D1 e = true → D2 e = true) ∧ (D1 f = true → ∀ e, e ≠ 0 → zk_n1 Z v f e = true → D2 e = true) ∧ ∀ y, rec2 (nI v, nI (f + 1)) M2 = some y → pm_spread_b2 rec2 (nI v) (nI f) M1 = some y := by
  have h1 : rm_ Z M1 := rq_m h hm.1
  have hrow := h1.2.2.1 f hf
  have j6 : f < (mr_ 6).2 := by show f < 201; omega
  have j10 : f < (mr_ 10).2 := by show f < 201; omega
  have front : ∀ y, (pb_ (pm_lives (nI f)) fun t1 => if t1 = 0 then (pm_spread_b98 rec2 (nI v) (nI f)) else (pg_ (pl_ 6 (nI f)) fun t2 => if t2 = nI v then (pg_ (pl_ 10 (nI f)) fun t3 => if t3 = 0 then (pm_spread_b98 rec2 (nI v) (nI f)) else (if nI f ≤ (100 : Int32) then (pm_spread_b65 rec2 (nI v) (nI f)) else (pg_ (pl_ 8 (nI f)) fun t4 => if t4 = 0 then (pm_spread_b62 rec2 (nI v) (nI f) (0 : Int32)) else (pg_ (pl_ 9 (nI f)) fun t5 => pm_spread_b62 rec2 (nI v) (nI f) t5)))) else (pm_spread_b98 rec2 (nI v) (nI f)))) M1 = some y → pm_spread_b2 rec2 (nI v) (nI f) M1 = some y := by
    intro y hy
    unfold pm_spread_b2
    exact pn_f (show ¬ nI 200 < nI f from nI_nlt hf (by omega)) hy
  have skip : ∀ y, rec2 (nI v, nI (f + 1)) M1 = some y → pm_spread_b98 rec2 (nI v) (nI f) M1 = some y := by
    intro y hy
    unfold pm_spread_b98
    rw [nI_1]
    exact hy
  cases hlv : zk_live Z f with
  | false =>
    refine ⟨M1, D1, hm, fun _ he => he, fun _ e _ hn => ?_, fun y hy => front y ?_⟩
    · have := (n1_dest hn).1
      rw [hlv] at this
      cases this
    · refine pn_b _ (pm_lives_ok h1 hz hf) ?_
      rw [hlv]
      exact pn_t rfl (skip y hy)
  | true =>
    by_cases hh : zh_ Z f = v
    · cases hD : D1 f with
      | false =>
        refine ⟨M1, D1, hm, fun _ he => he, fun c => (by cases c), fun y hy => front y ?_⟩
        refine pn_b _ (pm_lives_ok h1 hz hf) ?_
        rw [hlv]
        refine pn_f (by decide) ?_
        refine pn_g _ (po_l j6) ?_
        rw [hrow.1]
        refine pn_t (by rw [hh]) ?_
        refine pn_g _ (po_l j10) ?_
        rw [hm.2.1 f hf1 hf, hD]
        exact pn_t rfl (skip y hy)
      | true =>
        have hRf := hm.2.2.2.1 f hD
        have front2 : ∀ y, (if nI f ≤ (100 : Int32) then (pm_spread_b65 rec2 (nI v) (nI f)) else (pg_ (pl_ 8 (nI f)) fun t4 => if t4 = 0 then (pm_spread_b62 rec2 (nI v) (nI f) (0 : Int32)) else (pg_ (pl_ 9 (nI f)) fun t5 => pm_spread_b62 rec2 (nI v) (nI f) t5))) M1 = some y → pm_spread_b2 rec2 (nI v) (nI f) M1 = some y := by
          intro y hy
          refine front y ?_
          refine pn_b _ (pm_lives_ok h1 hz hf) ?_
          rw [hlv]
          refine pn_f (by decide) ?_
          refine pn_g _ (po_l j6) ?_
          rw [hrow.1]
          refine pn_t (by rw [hh]) ?_
          refine pn_g _ (po_l j10) ?_
          rw [hm.2.1 f hf1 hf, hD]
          exact pn_f (by decide) hy
        have slots : ∀ (M3 : ms_S) (D3 : Nat → Bool), mk_ R M D M3 D3 → ∃ M2 D2, mk_ R M D M2 D2 ∧ (∀ e, D3 e = true → D2 e = true) ∧ (f ≤ 60 → ∀ s, 0 ≤ s → s < 4 → el_ (ze_ Z f) s ≠ 0 → D2 (el_ (ze_ Z f) s) = true) ∧ ∀ y, rec2 (nI v, nI (f + 1)) M2 = some y → pm_spread_b65 rec2 (nI v) (nI f) M3 = some y := by
          intro M3 D3 hm3
          exact pm_spread_s h hz hd hf (fun c s hs h0 => hRn f _ hRf h0 (n1_mk hlv hh (Or.inr ⟨c, s, hs, rfl⟩))) 4 0 fu_ M3 D3 rfl (by decide) (by unfold fu_; decide) hm3
        by_cases h100 : f ≤ 100
        · obtain ⟨M2, D2, s1, s2, s3, s4⟩ := slots M1 D1 hm
          refine ⟨M2, D2, s1, s2, fun _ e h0 hn => ?_, fun y hy => front2 y (pn_t (show nI f ≤ nI 100 from nI_le h100 (by omega)) (s4 y hy))⟩
          rcases (n1_dest hn).2.2 with c | ⟨c, s, c2, c3⟩
          · omega
          · rw [← c3] at h0 ⊢
            exact s3 c s (Nat.zero_le _) c2 h0
        · have j8 : f < (mr_ 8).2 := by show f < 201; omega
          have j9 : f < (mr_ 9).2 := by show f < 201; omega
          have hto : ∃ u, u ≤ 200 ∧ (u = if es_ (ze_ Z f) = true then et_ (ze_ Z f) else 0) ∧ ∀ y, pm_spread_b62 rec2 (nI v) (nI f) (nI u) M1 = some y → pm_spread_b2 rec2 (nI v) (nI f) M1 = some y := by
            cases hs : es_ (ze_ Z f) with
            | false =>
              refine ⟨0, by omega, by simp, fun y hy => front2 y (pn_f (show ¬ nI f ≤ nI 100 from nI_ge (by omega) (by omega)) ?_)⟩
              refine pn_g _ (po_l j8) ?_
              rw [hrow.2.2.1, hs]
              exact pn_t rfl hy
            | true =>
              refine ⟨et_ (ze_ Z f), (he4 f hf).2, by simp, fun y hy => front2 y (pn_f (show ¬ nI f ≤ nI 100 from nI_ge (by omega) (by omega)) ?_)⟩
              refine pn_g _ (po_l j8) ?_
              rw [hrow.2.2.1, hs]
              refine pn_f (by decide) ?_
              refine pn_g _ (po_l j9) ?_
              rw [hrow.2.2.2.1]
              exact hy
          obtain ⟨u, hu, hue, hu3⟩ := hto
          obtain ⟨M3, D3, c1, c2, c3⟩ := pm_mark_ok (R := R) hu hm.2.1 hm.2.2.2.1 (fun h0 => by
            split at hue
            · exact hRn f u hRf h0 (n1_mk hlv hh (Or.inl ⟨by omega, by assumption, hue.symm⟩))
            · exact absurd hue h0)
          obtain ⟨M2, D2, s1, s2, s3, s4⟩ := slots M3 D3 (mk_t hm c2)
          refine ⟨M2, D2, s1, fun e he => s2 e (c2.2.2.1 e he), fun _ e h0 hn => ?_, fun y hy => hu3 y ?_⟩
          · rcases (n1_dest hn).2.2 with ⟨-, c4, c5⟩ | ⟨c, -⟩
            · rw [if_pos c4] at hue
              rw [hue, c5] at c3
              exact s2 e (c3 h0)
            · omega
          · unfold pm_spread_b62
            exact pn_b _ c1 (s4 y hy)
    · refine ⟨M1, D1, hm, fun _ he => he, fun _ e _ hn => absurd (n1_dest hn).2.1 hh, fun y hy => front y ?_⟩
      refine pn_b _ (pm_lives_ok h1 hz hf) ?_
      rw [hlv]
      refine pn_f (by decide) ?_
      refine pn_g _ (po_l j6) ?_
      rw [hrow.1]
      have := (he4 f hf).1
      exact pn_f (fun z => hh ((nI_eq (by omega) (by omega)).mp z)) (skip y hy)
/-- the calls that wait at marked promises of v -/
theorem pm_spread_r (h : rm_ Z M) (hd : zd_ (zk_K Z) Z) (hz : zw_n Z) (hr2 : zw_r Z) (hv : v < 4) (he4 : zw_e Z) (hlen : (zr_ Z).length ≤ 200) (hRn : ∀ r ∈ zr_ Z, 100 < r.1 → zh_ Z r.1 = v → R r.1 → r.2.2.2.1 ≠ 0 → R r.2.2.2.1) : ∀ (d k fuel : Nat) (M1 : ms_S) (D1 : Nat → Bool), (zr_ Z).length - k = d → k ≤ (zr_ Z).length → d < fuel → mk_ R M D M1 D1 →
    ∃ M2 D2, mk_ R M D M2 D2 ∧ (∀ e, D1 e = true → D2 e = true) ∧ (∀ i r, k ≤ i → (zr_ Z)[i]? = some r → 100 < r.1 → zh_ Z r.1 = v → D1 r.1 = true → r.2.2.2.1 ≠ 0 → D2 r.2.2.2.1 = true) ∧
      pt_ (fun rec106 => (fun x : Int32 × Int32 => pm_spread_b106 rec106 x.1 x.2)) fuel (nI v, nI k) M1 = some ((), M2) := by
  intro d
  induction d with
  | zero =>
    intro k fuel M1 D1 hdk hk hfu hm
    obtain ⟨m, rfl⟩ : ∃ m, fuel = m + 1 := ⟨fuel - 1, by omega⟩
    refine ⟨M1, D1, hm, fun _ he => he, fun i r hi hr => ?_, ?_⟩
    · have := (List.getElem?_eq_some_iff.mp hr).1
      omega
    · show pm_spread_b106 _ (nI v) (nI k) M1 = _
      unfold pm_spread_b106
      refine pn_g _ rfl ?_
      rw [(rq_m h hm.1).2.2.2.1.1]
      exact pn_t (nI_le (by omega) (by omega)) rfl
  | succ d ih =>
    intro k fuel M1 D1 hdk hk hfu hm
    obtain ⟨m, rfl⟩ : ∃ m, fuel = m + 1 := ⟨fuel - 1, by omega⟩
    have h1 : rm_ Z M1 := rq_m h hm.1
    have hlt : k < (zr_ Z).length := by omega
    have hg : (zr_ Z)[k]? = some (zr_ Z)[k] := List.getElem?_eq_getElem hlt
    have hmem := List.getElem_mem hlt
    have hrow := h1.2.2.2.1.2 k _ hg
    have hw := hr2 _ hmem
    have hRr := hRn _ hmem
    generalize (zr_ Z)[k] = r at hg hmem hrow hw hRr
    have j : ∀ q, (mr_ q).2 = 200 → k < (mr_ q).2 := fun q hq => by rw [hq]; omega
    have front : ∀ y, (if nI r.1 ≤ (100 : Int32) then (pm_spread_b164 (pt_ (fun rec106 => (fun x : Int32 × Int32 => pm_spread_b106 rec106 x.1 x.2)) m) (nI v) (nI k)) else (pg_ (pl_ 19 (nI k)) fun t11 => pg_ (pl_ 6 t11) fun t12 => if t12 = nI v then (pg_ (pl_ 19 (nI k)) fun t13 => pg_ (pl_ 10 t13) fun t14 => if t14 = 0 then (pm_spread_b164 (pt_ (fun rec106 => (fun x : Int32 × Int32 => pm_spread_b106 rec106 x.1 x.2)) m) (nI v) (nI k)) else (pg_ (pl_ 22 (nI k)) fun t15 => pb_ (pm_mark t15) fun _ => pm_spread_b164 (pt_ (fun rec106 => (fun x : Int32 × Int32 => pm_spread_b106 rec106 x.1 x.2)) m) (nI v) (nI k))) else (pm_spread_b164 (pt_ (fun rec106 => (fun x : Int32 × Int32 => pm_spread_b106 rec106 x.1 x.2)) m) (nI v) (nI k)))) M1 = some y →
        pt_ (fun rec106 => (fun x : Int32 × Int32 => pm_spread_b106 rec106 x.1 x.2)) (m + 1) (nI v, nI k) M1 = some y := by
      intro y hy
      show pm_spread_b106 _ (nI v) (nI k) M1 = _
      unfold pm_spread_b106
      refine pn_g _ rfl ?_
      rw [h1.2.2.2.1.1]
      refine pn_f (nI_ge hlt (by omega)) ?_
      refine pn_g _ (po_l (j 19 rfl)) ?_
      rw [hrow.1]
      exact hy
    have skip : ∀ (M3 : ms_S) y, pt_ (fun rec106 => (fun x : Int32 × Int32 => pm_spread_b106 rec106 x.1 x.2)) m (nI v, nI (k + 1)) M3 = some y → pm_spread_b164 (pt_ (fun rec106 => (fun x : Int32 × Int32 => pm_spread_b106 rec106 x.1 x.2)) m) (nI v) (nI k) M3 = some y := by
      intro M3 y hy
      unfold pm_spread_b164
      rw [nI_1]
      exact hy
    have pass : (¬ (100 < r.1 ∧ zh_ Z r.1 = v ∧ D1 r.1 = true)) → (∀ y, pm_spread_b164 (pt_ (fun rec106 => (fun x : Int32 × Int32 => pm_spread_b106 rec106 x.1 x.2)) m) (nI v) (nI k) M1 = some y → pt_ (fun rec106 => (fun x : Int32 × Int32 => pm_spread_b106 rec106 x.1 x.2)) (m + 1) (nI v, nI k) M1 = some y) →
        ∃ M2 D2, mk_ R M D M2 D2 ∧ (∀ e, D1 e = true → D2 e = true) ∧ (∀ i r, k ≤ i → (zr_ Z)[i]? = some r → 100 < r.1 → zh_ Z r.1 = v → D1 r.1 = true → r.2.2.2.1 ≠ 0 → D2 r.2.2.2.1 = true) ∧
        pt_ (fun rec106 => (fun x : Int32 × Int32 => pm_spread_b106 rec106 x.1 x.2)) (m + 1) (nI v, nI k) M1 = some ((), M2) := by
      intro hno hfr
      obtain ⟨M2, D2, e1, e2, e3, e4⟩ := ih (k + 1) m M1 D1 (by omega) (by omega) (by omega) hm
      refine ⟨M2, D2, e1, e2, fun i x hi hx x1 x2 x3 x4 => ?_, hfr _ (skip M1 _ e4)⟩
      by_cases hik : i = k
      · subst hik
        rw [hg] at hx
        cases hx
        exact absurd ⟨x1, x2, x3⟩ hno
      · exact e3 i x (by omega) hx x1 x2 x3 x4
    by_cases h100 : r.1 ≤ 100
    · exact pass (fun c => by omega) (fun y hy => front y (pn_t (show nI r.1 ≤ nI 100 from nI_le h100 (by omega)) hy))
    · have hrow6 := h1.2.2.1 r.1 hw.1
      have j6 : r.1 < (mr_ 6).2 := by show r.1 < 201; omega
      have j10 : r.1 < (mr_ 10).2 := by show r.1 < 201; omega
      by_cases hh : zh_ Z r.1 = v
      · cases hD : D1 r.1 with
        | false =>
          refine pass (fun c => by rw [hD] at c; cases c.2.2) (fun y hy => front y (pn_f (show ¬ nI r.1 ≤ nI 100 from nI_ge (by omega) (by omega)) ?_))
          refine pn_g _ (po_l (j 19 rfl)) ?_
          rw [hrow.1]
          refine pn_g _ (po_l j6) ?_
          rw [hrow6.1]
          refine pn_t (by rw [hh]) ?_
          refine pn_g _ (po_l (j 19 rfl)) ?_
          rw [hrow.1]
          refine pn_g _ (po_l j10) ?_
          rw [hm.2.1 r.1 (by omega) hw.1, hD]
          exact pn_t rfl hy
        | true =>
          obtain ⟨M3, D3, c1, c2, c3⟩ := pm_mark_ok (R := R) (u := r.2.2.2.1) hw.2.2.1 hm.2.1 hm.2.2.2.1 (hRr (by omega) hh (hm.2.2.2.1 _ hD))
          obtain ⟨M2, D2, e1, e2, e3, e4⟩ := ih (k + 1) m M3 D3 (by omega) (by omega) (by omega) (mk_t hm c2)
          refine ⟨M2, D2, e1, fun e he => e2 e (c2.2.2.1 e he), fun i x hi hx x1 x2 x3 x4 => ?_, front _ (pn_f (show ¬ nI r.1 ≤ nI 100 from nI_ge (by omega) (by omega)) ?_)⟩
          · by_cases hik : i = k
            · subst hik
              rw [hg] at hx
              cases hx
              exact e2 _ (c3 x4)
            · exact e3 i x (by omega) hx x1 x2 (c2.2.2.1 _ x3) x4
          · refine pn_g _ (po_l (j 19 rfl)) ?_
            rw [hrow.1]
            refine pn_g _ (po_l j6) ?_
            rw [hrow6.1]
            refine pn_t (by rw [hh]) ?_
            refine pn_g _ (po_l (j 19 rfl)) ?_
            rw [hrow.1]
            refine pn_g _ (po_l j10) ?_
            rw [hm.2.1 r.1 (by omega) hw.1, hD]
            refine pn_f (by decide) ?_
            refine pn_g _ (po_l (j 22 rfl)) ?_
            rw [hrow.2.2.2.1]
            exact pn_b _ c1 (skip M3 _ e4)
      · refine pass (fun c => hh c.2.1) (fun y hy => front y (pn_f (show ¬ nI r.1 ≤ nI 100 from nI_ge (by omega) (by omega)) ?_))
        refine pn_g _ (po_l (j 19 rfl)) ?_
        rw [hrow.1]
        refine pn_g _ (po_l j6) ?_
        rw [hrow6.1]
        have := (he4 r.1 hw.1).1
        exact pn_f (fun z => hh ((nI_eq (by omega) (by omega)).mp z)) hy
end RSP
