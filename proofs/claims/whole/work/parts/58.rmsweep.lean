/-! The reference's sweep: the marks. -/
theorem fl_lt {α : Type} {p p' : α → Bool} (hs : ∀ x, p x = true → p' x = true) {e : α} (h1 : p e = false) (h2 : p' e = true) : ∀ (l : List α), e ∈ l → (l.filter p).length < (l.filter p').length
  | [], h => by cases h
  | x :: l, h => by
    have hle : ∀ m : List α, (m.filter p).length ≤ (m.filter p').length := by
      intro m
      induction m with
      | nil => exact Nat.le_refl _
      | cons y m ih =>
        rw [List.filter_cons, List.filter_cons]
        by_cases hy : p y = true
        · rw [if_pos hy, if_pos (hs y hy), List.length_cons, List.length_cons]
          omega
        · rw [if_neg hy]
          split
          · rw [List.length_cons]
            omega
          · exact ih
    rw [List.filter_cons, List.filter_cons]
    by_cases hx : x = e
    · subst hx
      rw [if_neg (by rw [h1]; decide), if_pos h2, List.length_cons]
      have := hle l
      omega
    · have ih := fl_lt hs h1 h2 l ((List.mem_cons.mp h).resolve_left (fun c => hx c.symm))
      by_cases hy : p x = true
      · rw [if_pos hy, if_pos (hs x hy), List.length_cons, List.length_cons]
        omega
      · rw [if_neg hy]
        split
        · rw [List.length_cons]
          omega
        · exact ih
/-- in reach of a sweep of v -/
def zk_R (Z : zz_S) (v e : Nat) : Prop := ∃ k, z_reach Z v k e = true
section RSW
variable {Z : zz_S} {M M' : ms_S} {D D' D0 : Nat → Bool} {v : Nat}
theorem R_root {e : Nat} (h0 : e ≠ 0) (h : zk_root Z v e = true) : zk_R Z v e := ⟨0, by unfold z_reach; simp [h0, h]⟩
theorem R_next {f e : Nat} (hf : f ≤ 200) (h1 : zk_R Z v f) (h0 : e ≠ 0) (h : zk_next Z v f e = true) : zk_R Z v e := by
  obtain ⟨k, hk⟩ := h1
  refine ⟨k + 1, ?_⟩
  unfold z_reach
  rw [Bool.or_eq_true]
  refine Or.inr ?_
  rw [Bool.and_eq_true, List.any_eq_true]
  exact ⟨by simp [h0], f, List.mem_range.mpr (by omega), by simp [hk, h]⟩
theorem R_in (hroot : ∀ e, e ≠ 0 → zk_root Z v e = true → D e = true) (hnext : ∀ f e, D f = true → e ≠ 0 → zk_next Z v f e = true → D e = true) : ∀ k e, z_reach Z v k e = true → D e = true
  | 0, e, h => by
    unfold z_reach at h
    rw [Bool.and_eq_true] at h
    exact hroot e (by simpa using h.1) h.2
  | k + 1, e, h => by
    unfold z_reach at h
    rw [Bool.or_eq_true] at h
    rcases h with h | h
    · exact R_in hroot hnext k e h
    · rw [Bool.and_eq_true, List.any_eq_true] at h
      obtain ⟨h0, f, -, hf⟩ := h
      rw [Bool.and_eq_true] at hf
      exact hnext f e (R_in hroot hnext k f hf.1) (by simpa using h0) hf.2
theorem next_or {f e : Nat} : zk_next Z v f e = true ↔ zk_n1 Z v f e = true ∨ ∃ r ∈ zr_ Z, r.1 = f ∧ 100 < f ∧ zh_ Z f = v ∧ r.2.2.2.1 = e := by
  unfold zk_next zk_n1
  rw [Bool.or_eq_true]
  refine or_congr Iff.rfl ?_
  rw [List.any_eq_true]
  simp only [Bool.and_eq_true, beq_iff_eq, decide_eq_true_eq]
  constructor
  · rintro ⟨r, h1, ⟨⟨h2, h3⟩, h4⟩, h5⟩
    exact ⟨r, h1, h2, h3, h4, h5⟩
  · rintro ⟨r, h1, h2, h3, h4, h5⟩
    exact ⟨r, h1, ⟨⟨h2, h3⟩, h4⟩, h5⟩
theorem pm_spread_ok (h : rm_ Z M) (hz : zw_n Z) (hd : zd_ (zk_K Z) Z) (hw : zk_w Z) (hv : v < 4) (hlen : (zr_ Z).length ≤ 200) (hk : rk_ D M) (hR : ∀ e, D e = true → zk_R Z v e) :
    ∃ M' D', pm_spread (nI v) M = some ((), M') ∧ mk_ (zk_R Z v) M D M' D' ∧ ∀ f e, D f = true → e ≠ 0 → zk_next Z v f e = true → D' e = true := by
  have hRn : ∀ f e, zk_R Z v f → e ≠ 0 → zk_n1 Z v f e = true → zk_R Z v e := fun f e h1 h0 hn => R_next (live_le hz (n1_dest hn).1).2 h1 h0 (next_or.mpr (Or.inl hn))
  have key : ∀ (d k fuel : Nat) (M1 : ms_S) (D1 : Nat → Bool), 201 - k = d → 1 ≤ k → k ≤ 201 → d < fuel → mk_ (zk_R Z v) M D M1 D1 →
      ∃ M2 D2, mk_ (zk_R Z v) M D M2 D2 ∧ (∀ e, D1 e = true → D2 e = true) ∧ (∀ f, k ≤ f → f ≤ 200 → D1 f = true → ∀ e, e ≠ 0 → zk_n1 Z v f e = true → D2 e = true) ∧ ∀ y, pt_ (fun rec106 => (fun x : Int32 × Int32 => pm_spread_b106 rec106 x.1 x.2)) fu_ (nI v, nI 0) M2 = some y →
        pt_ (fun rec2 => (fun x : Int32 × Int32 => pm_spread_b2 rec2 x.1 x.2)) fuel (nI v, nI k) M1 = some y := by
    intro d
    induction d with
    | zero =>
      intro k fuel M1 D1 hdk hk1 hk2 hfu hm
      obtain ⟨m, rfl⟩ : ∃ m, fuel = m + 1 := ⟨fuel - 1, by omega⟩
      refine ⟨M1, D1, hm, fun _ he => he, fun f h1 h2 => by omega, fun y hy => ?_⟩
      show pm_spread_b2 _ (nI v) (nI k) M1 = _
      unfold pm_spread_b2
      exact pn_t (show nI 200 < nI k from nI_lt (by omega) (by omega)) hy
    | succ d ih =>
      intro k fuel M1 D1 hdk hk1 hk2 hfu hm
      obtain ⟨m, rfl⟩ : ∃ m, fuel = m + 1 := ⟨fuel - 1, by omega⟩
      obtain ⟨M2, D2, a1, a2, a3, a4⟩ := pm_spread_e (rec2 := pt_ (fun rec2 => (fun x : Int32 × Int32 => pm_spread_b2 rec2 x.1 x.2)) m) h hz hd hv hw.1 hk1 (show k ≤ 200 by omega) hRn hm
      obtain ⟨M3, D3, b1, b2, b3, b4⟩ := ih (k + 1) m M2 D2 (by omega) (by omega) (by omega) (by omega) a1
      refine ⟨M3, D3, b1, fun e he => b2 e (a2 e he), fun f f1 f2 f3 e e1 e2 => ?_, fun y hy => a4 y (b4 y hy)⟩
      by_cases hfk : f = k
      · subst hfk
        exact b2 e (a3 f3 e e1 e2)
      · exact b3 f (by omega) f2 (a2 f f3) e e1 e2
  obtain ⟨M2, D2, a1, a2, a3, a4⟩ := key 200 1 fu_ M D rfl (by omega) (by omega) (by unfold fu_; omega) (mk_i hk hR)
  obtain ⟨M3, D3, b1, b2, b3, b4⟩ := pm_spread_r (R := zk_R Z v) h hd hz hw.2.1 hv hw.1 hlen (fun r hr h1 h2 h3 h0 => R_next (hw.2.1 r hr).1 h3 h0 (next_or.mpr (Or.inr ⟨r, hr, rfl, h1, h2, rfl⟩))) ((zr_ Z).length - 0) 0 fu_ M2 D2 rfl (Nat.zero_le _) (by unfold fu_; omega) a1
  refine ⟨M3, D3, a4 _ b4, b1, fun f e hf h0 hn => ?_⟩
  rcases next_or.mp hn with hn | ⟨r, r1, r2, r3, r4, r5⟩
  · have := live_le hz (n1_dest hn).1
    exact b2 e (a3 f this.1 this.2 hf e h0 hn)
  · subst r2 r5
    obtain ⟨i, hi⟩ := List.getElem?_of_mem r1
    exact b3 i r (Nat.zero_le _) hi r3 r4 (a2 _ hf) h0
/-- passes until nothing is marked -/
theorem pm_sweep_c (h : rm_ Z M) (hz : zw_n Z) (hd : zd_ (zk_K Z) Z) (hw : zk_w Z) (hv : v < 4) (hlen : (zr_ Z).length ≤ 200) : ∀ (n p fuel : Nat) (M1 : ms_S) (D1 : Nat → Bool), 201 ≤ ((List.range 201).filter D1).length + n → p ≤ ((List.range 201).filter D1).length → n + 1 < fuel → M1.1 14 = 1 → rq_ M M1 → rk_ D1 M1 → (∀ e, D1 e = true → zk_R Z v e) →
    ∃ M2 D2, rq_ M M2 ∧ rk_ D2 M2 ∧ (∀ e, D1 e = true → D2 e = true) ∧ (∀ e, D2 e = true → zk_R Z v e) ∧ (∀ f e, D2 f = true → e ≠ 0 → zk_next Z v f e = true → D2 e = true) ∧ ∀ y, pm_sweep_b185 (nI v) M2 = some y →
      pt_ (fun rec155 => (fun x : Int32 × Int32 => pm_sweep_b155 rec155 x.1 x.2)) fuel (nI v, nI p) M1 = some y := by
  intro n
  induction n with
  | zero =>
    intro p fuel M1 D1 hn hp hfu hfl hq hk hR
    exfalso
    have hall : ∀ x ∈ List.range 201, D1 x = true := List.length_filter_eq_length_iff.mp (by
      have := List.length_filter_le D1 (List.range 201)
      rw [List.length_range] at this ⊢
      omega)
    have h0 := hall 0 (by decide)
    obtain ⟨k, hk0⟩ := hR 0 h0
    have : ∀ k, z_reach Z v k 0 = false := by
      intro k
      induction k with
      | zero => unfold z_reach; simp
      | succ k ih => unfold z_reach; rw [ih]; simp
    rw [this k] at hk0
    cases hk0
  | succ n ih =>
    intro p fuel M1 D1 hn hp hfu hfl hq hk hR
    obtain ⟨m, rfl⟩ : ∃ m, fuel = m + 1 := ⟨fuel - 1, by omega⟩
    have hc201 : ((List.range 201).filter D1).length ≤ 201 := by
      have := List.length_filter_le D1 (List.range 201)
      rw [List.length_range] at this
      exact this
    have hq0 : rq_ M1 (pu_s M1 14 0) := ⟨fun _ _ => rfl, fun k hk => ps_n hk⟩
    obtain ⟨M2, D2, s1, s2, s3⟩ := pm_spread_ok (rq_m h (rq_t hq hq0)) hz hd hw hv hlen (D := D1) hk hR
    have front : ∀ y, pt_ (fun rec155 => (fun x : Int32 × Int32 => pm_sweep_b155 rec155 x.1 x.2)) m (nI v, nI (p + 1)) M2 = some y → pt_ (fun rec155 => (fun x : Int32 × Int32 => pm_sweep_b155 rec155 x.1 x.2)) (m + 1) (nI v, nI p) M1 = some y := by
      intro y hy
      show pm_sweep_b155 _ (nI v) (nI p) M1 = _
      unfold pm_sweep_b155
      refine pn_f (show ¬ nI 300 ≤ nI p from nI_ge (by omega) (by decide)) ?_
      refine pn_g _ rfl ?_
      rw [hfl]
      refine pn_f (by decide) ?_
      refine pn_w _ rfl ?_
      refine pn_b _ s1 ?_
      rw [nI_1]
      exact hy
    have e0 : (pu_s M1 14 0).1 14 = 0 := ps_s
    rcases s2.2.2.2.2.1 with c | ⟨c1, c2⟩
    · obtain ⟨e, e1, e2, e3, e4⟩ := s2.2.2.2.2.2 (by rw [c, e0]; decide)
      have hlt := fl_lt s2.2.2.1 e3 e4 (List.range 201) (List.mem_range.mpr (by omega))
      obtain ⟨M3, D3, b1, b2, b3, b4, b5, b6⟩ := ih (p + 1) m M2 D2 (by omega) (by omega) (by omega) c (rq_t (rq_t hq hq0) s2.1) s2.2.1 s2.2.2.2.1
      exact ⟨M3, D3, b1, b2, fun x hx => b3 x (s2.2.2.1 x hx), b4, b5, fun y hy => front y (b6 y hy)⟩
    · subst c2
      refine ⟨M2, D2, rq_t (rq_t hq hq0) s2.1, s2.2.1, fun _ he => he, s2.2.2.2.1, s3, fun y hy => front y ?_⟩
      obtain ⟨j, rfl⟩ : ∃ j, m = j + 1 := ⟨m - 1, by omega⟩
      show pm_sweep_b155 _ (nI v) (nI (p + 1)) M2 = _
      unfold pm_sweep_b155
      refine pn_f (show ¬ nI 300 ≤ nI (p + 1) from nI_ge (by omega) (by decide)) ?_
      refine pn_g _ rfl ?_
      rw [c1, e0]
      exact pn_t rfl hy
/-- the roots among the entities -/
def zk_r1 (Z : zz_S) (v e : Nat) : Bool := zk_live Z e && decide (zh_ Z e = v) && (decide (e = v + 1) || (List.range 4).any (fun b => decide (0 < ex_ (ze_ Z e) b)) || (List.range 16).any (fun q => decide (0 < eo_ (ze_ Z e) (q / 4) (q % 4))))
theorem pm_sweep_a (h : rm_ Z M) (hz : zw_n Z) (hw : zk_w Z) (hx : zx_b Z 1000000) (hv : v < 4) : ∀ (d k fuel : Nat) (M1 : ms_S), 201 - k = d → 1 ≤ k → k ≤ 201 → d < fuel → rq_ M M1 → (∀ e, 1 ≤ e → e < k → M1.2 10 e = bi_ (zk_r1 Z v e)) →
    ∃ M2, rq_ M M2 ∧ (∀ e, 1 ≤ e → e ≤ 200 → M2.2 10 e = bi_ (zk_r1 Z v e)) ∧ ∀ y, pt_ (fun rec65 => (fun x : Int32 × Int32 => pm_sweep_b65 rec65 x.1 x.2)) fu_ (nI v, nI 0) M2 = some y →
      pt_ (fun rec12 => (fun x : Int32 × Int32 => pm_sweep_b12 rec12 x.1 x.2)) fuel (nI v, nI k) M1 = some y := by
  intro d
  induction d with
  | zero =>
    intro k fuel M1 hdk hk1 hk2 hfu hq hm
    obtain ⟨m, rfl⟩ : ∃ m, fuel = m + 1 := ⟨fuel - 1, by omega⟩
    refine ⟨M1, hq, fun e h1 h2 => hm e h1 (by omega), fun y hy => ?_⟩
    show pm_sweep_b12 _ (nI v) (nI k) M1 = _
    unfold pm_sweep_b12
    exact pn_t (show nI 200 < nI k from nI_lt (by omega) (by omega)) hy
  | succ d ih =>
    intro k fuel M1 hdk hk1 hk2 hfu hq hm
    obtain ⟨m, rfl⟩ : ∃ m, fuel = m + 1 := ⟨fuel - 1, by omega⟩
    have h1 : rm_ Z M1 := rq_m h hq
    have hk200 : k ≤ 200 := by omega
    obtain ⟨M2, b1, b2, b3⟩ := ih (k + 1) m (pu_a M1 10 k (bi_ (zk_r1 Z v k))) (by omega) (by omega) (by omega) (by omega) (rq_t hq ⟨fun q hq => pa_q hq, fun _ _ => rfl⟩) (fun e e1 e2 => by
      by_cases hek : e = k
      · subst hek
        exact pa_s
      · rw [pa_n (Or.inr hek)]
        exact hm e e1 (by omega))
    refine ⟨M2, b1, b2, fun y hy => ?_⟩
    have w56 : ∀ c : Bool, c = zk_r1 Z v k → pm_sweep_b56 (pt_ (fun rec12 => (fun x : Int32 × Int32 => pm_sweep_b12 rec12 x.1 x.2)) m) (nI v) (nI k) (bi_ c) (nI k) M1 = some y := by
      intro c hc
      unfold pm_sweep_b56
      refine pn_g () bi_z ?_
      refine pn_w _ (po_s (show k < (mr_ 10).2 by show k < 201; omega)) ?_
      rw [nI_1, hc]
      exact b3 y hy
    have hr1 : zk_r1 Z v k = (zk_live Z k && decide (zh_ Z k = v) && (decide (k = v + 1) || (List.range 4).any (fun b => decide (0 < ex_ (ze_ Z k) b)) || (List.range 16).any (fun q => decide (0 < eo_ (ze_ Z k) (q / 4) (q % 4))))) := rfl
    have hro := pm_rooted_ok h1 hx hv hk200
    generalize (decide (k = v + 1) || (List.range 4).any (fun b => decide (0 < ex_ (ze_ Z k) b)) || (List.range 16).any (fun q => decide (0 < eo_ (ze_ Z k) (q / 4) (q % 4)))) = B at hr1 hro
    show pm_sweep_b12 _ (nI v) (nI k) M1 = _
    unfold pm_sweep_b12 pm_sweep_b55
    refine pn_f (show ¬ nI 200 < nI k from nI_nlt hk200 (by omega)) ?_
    refine pn_b _ (pm_lives_ok h1 hz hk200) ?_
    cases hlv : zk_live Z k with
    | false => exact pn_t rfl (w56 false (by rw [hr1, hlv]; rfl))
    | true =>
      refine pn_f (by decide) ?_
      refine pn_g _ (po_l (show k < (mr_ 6).2 by show k < 201; omega)) ?_
      rw [(h1.2.2.1 k hk200).1]
      have h4 := (hw.1 k hk200).1
      by_cases hh : zh_ Z k = v
      · refine pn_t (by rw [hh]) ?_
        refine pn_b _ hro ?_
        cases B with
        | false => exact pn_t rfl (w56 false (by rw [hr1]; simp))
        | true => exact pn_f (by decide) (w56 true (by rw [hr1, hlv, decide_eq_true hh]; rfl))
      · refine pn_f (fun z => hh ((nI_eq (by omega) (by omega)).mp z)) (w56 false ?_)
        rw [hr1, decide_eq_false hh]
        simp
end RSW
