/-! The reference's lives, rooted, mark. -/
/-- two pictures that differ in marks alone -/
def rq_ (M M' : ms_S) : Prop := (∀ k, k ≠ 10 → M'.2 k = M.2 k) ∧ ∀ k, k ≠ 14 → M'.1 k = M.1 k
def rk_ (D : Nat → Bool) (M : ms_S) : Prop := ∀ e, 1 ≤ e → e ≤ 200 → M.2 10 e = bi_ (D e)
/-- marking, from the marks D on to D', all of them in R; the flag tells whether anything was marked -/
def mk_ (R : Nat → Prop) (M : ms_S) (D : Nat → Bool) (M' : ms_S) (D' : Nat → Bool) : Prop := rq_ M M' ∧ rk_ D' M' ∧ (∀ e, D e = true → D' e = true) ∧ (∀ e, D' e = true → R e) ∧ (M'.1 14 = 1 ∨ (M'.1 14 = M.1 14 ∧ D' = D)) ∧ (M'.1 14 ≠ M.1 14 → ∃ e, 1 ≤ e ∧ e ≤ 200 ∧ D e = false ∧ D' e = true)
section RMK
variable {Z : zz_S} {M M' M2 : ms_S} {D D' D2 : Nat → Bool} {R : Nat → Prop}
theorem rq_i : rq_ M M := ⟨fun _ _ => rfl, fun _ _ => rfl⟩
theorem rq_t (h1 : rq_ M M') (h2 : rq_ M' M2) : rq_ M M2 := ⟨fun k hk => (h2.1 k hk).trans (h1.1 k hk), fun k hk => (h2.2 k hk).trans (h1.2 k hk)⟩
theorem rq_m (h : rm_ Z M) (q : rq_ M M') : rm_ Z M' := by
  obtain ⟨h1, h2, h3, h4, h5, h6, h7⟩ := h
  obtain ⟨q2, q1⟩ := q
  refine ⟨fr_n h1 rfl (q1 0 (by decide)) (q1 1 (by decide)) (q1 2 (by decide)), fr_g h2 rfl (q2 3 (by decide)) (q2 4 (by decide)) (q2 5 (by decide)), ?_, ?_, ?_, fr_t h6 rfl (q2 32 (by decide)) (q2 33 (by decide)), (q1 30 (by decide)).trans h7⟩
  · exact fr_e h3 rfl (q2 6 (by decide)) (q2 7 (by decide)) (q2 8 (by decide)) (q2 9 (by decide)) (q2 11 (by decide)) (q2 12 (by decide)) (q2 13 (by decide)) (q2 15 (by decide)) (q2 16 (by decide)) (q2 17 (by decide))
  · exact fr_r h4 rfl (q1 18 (by decide)) (q2 19 (by decide)) (q2 20 (by decide)) (q2 21 (by decide)) (q2 22 (by decide)) (q2 23 (by decide))
  · exact fr_l h5 rfl (q1 24 (by decide)) (q2 25 (by decide)) (q2 26 (by decide)) (q2 27 (by decide)) (q2 28 (by decide)) (q2 29 (by decide))
theorem mk_i (hk : rk_ D M) (hR : ∀ e, D e = true → R e) : mk_ R M D M D := ⟨rq_i, hk, fun _ h => h, hR, Or.inr ⟨rfl, rfl⟩, fun c => absurd rfl c⟩
theorem mk_t (h1 : mk_ R M D M' D') (h2 : mk_ R M' D' M2 D2) : mk_ R M D M2 D2 := by
  obtain ⟨a1, a2, a3, a4, a5, a6⟩ := h1
  obtain ⟨b1, b2, b3, b4, b5, b6⟩ := h2
  refine ⟨rq_t a1 b1, b2, fun e he => b3 e (a3 e he), b4, ?_, fun c => ?_⟩
  · rcases b5 with b5 | ⟨b5, b7⟩
    · exact Or.inl b5
    · rcases a5 with a5 | ⟨a5, a7⟩
      · exact Or.inl (b5.trans a5)
      · exact Or.inr ⟨b5.trans a5, b7.trans a7⟩
  · by_cases c1 : M'.1 14 = M.1 14
    · obtain ⟨e, e1, e2, e3, e4⟩ := b6 (fun z => c (z.trans c1))
      refine ⟨e, e1, e2, ?_, e4⟩
      cases hde : D e with
      | false => rfl
      | true => rw [a3 e hde] at e3; cases e3
    · obtain ⟨e, e1, e2, e3, e4⟩ := a6 c1
      exact ⟨e, e1, e2, e3, b3 e e4⟩
theorem bi_0 {b : Bool} : bi_ b = 0 ↔ b = false := by cases b <;> decide
theorem bi_z {b : Bool} : pz_ (bi_ b) M = some () := by cases b <;> rfl
theorem pm_mark_ok {u : Nat} (hu : u ≤ 200) (hk : rk_ D M) (hR : ∀ e, D e = true → R e) (hu2 : u ≠ 0 → R u) : ∃ M' D', pm_mark (nI u) M = some ((), M') ∧ mk_ R M D M' D' ∧ (u ≠ 0 → D' u = true) := by
  unfold pm_mark
  by_cases h0 : u = 0
  · subst h0
    exact ⟨M, D, pn_t rfl rfl, mk_i hk hR, fun c => absurd rfl c⟩
  · have hn0 : ¬ nI u = 0 := nI_ne0 (by omega) (by omega)
    have ju : u < (mr_ 10).2 := by show u < 201; omega
    have hrow := hk u (by omega) hu
    cases hDu : D u with
    | true =>
      rw [hDu] at hrow
      refine ⟨M, D, pn_f hn0 (pn_g _ (po_l ju) ?_), mk_i hk hR, fun _ => hDu⟩
      rw [hrow]
      exact pn_f (by decide) rfl
    | false =>
      rw [hDu] at hrow
      refine ⟨pu_s (pu_a M 10 u 1) 14 1, fun e => D e || e == u, ?_, ⟨⟨fun k hk => pa_q hk, fun k hk => ps_n hk⟩, fun e e1 e2 => ?_, fun e he => by simp [he], fun e he => ?_, Or.inl ps_s, fun _ => ⟨u, by omega, hu, hDu, by simp⟩⟩, fun _ => by simp⟩
      · refine pn_f hn0 (pn_g _ (po_l ju) ?_)
        rw [hrow]
        refine pn_t rfl ?_
        refine pn_g () rfl ?_
        refine pn_w _ (po_s ju) ?_
        exact pn_w _ rfl rfl
      · show (pu_a M 10 u 1).2 10 e = _
        by_cases heu : e = u
        · subst heu
          rw [pa_s]
          simp [bi_]
        · rw [pa_n (Or.inr heu), hk e e1 e2]
          show bi_ (D e) = bi_ (D e || e == u)
          rw [show (e == u) = false from beq_false_of_ne heu, Bool.or_false]
      · rcases (Bool.or_eq_true _ _).mp he with he | he
        · exact hR e he
        · rw [beq_iff_eq] at he
          rw [he]
          exact hu2 h0
theorem pm_lives_ok (h : rm_ Z M) (hz : zw_n Z) {e : Nat} (he : e ≤ 200) : pm_lives (nI e) M = some (bi_ (zk_live Z e), M) := by
  unfold pm_lives zk_live
  cases hm : zk_made Z e with
  | false =>
    refine pn_b _ (pm_made_n h.1 hz (fun f hf hf2 => ?_)) (pn_t rfl rfl)
    rw [← (nI_eq (by omega) (by omega)).mp hf]
    exact hm
  | true =>
    refine pn_b _ (pm_made_y h.1 hz hm) (pn_f (by decide) ?_)
    refine pn_g _ (po_l (show e < (mr_ 7).2 by show e < 201; omega)) ?_
    rw [(h.2.2.1 e he).2.1]
    cases eg_ (ze_ Z e) with
    | false => exact pn_t rfl rfl
    | true => exact pn_f (by decide) rfl
theorem pm_lives_n (h : rm_ Z M) (hz : zw_n Z) {x : Int32} (hx : ∀ e, x = nI e → e ≤ 200 → zk_made Z e = false) : pm_lives x M = some (0, M) := pn_b _ (pm_made_n h.1 hz hx) (pn_t rfl rfl)
/-- an entity's exports and what is owed for it, small -/
def zx_b (Z : zz_S) (m : Int) : Prop := ∀ e, e ≤ 200 → (∀ b, b < 4 → -m < ex_ (ze_ Z e) b ∧ ex_ (ze_ Z e) b < m ∧ -m < ei_ (ze_ Z e) b ∧ ei_ (ze_ Z e) b < m) ∧ ∀ a b, a < 4 → b < 4 → -m < eo_ (ze_ Z e) a b ∧ eo_ (ze_ Z e) a b < m
theorem bi_or {c : Bool} {x : Int} (h : 0 < x) : (c || decide (0 < x)) = true := by simp [h]
theorem pm_rooted_o (h : rm_ Z M) (hx : zx_b Z 1000000) {e : Nat} (he : e ≤ 200) : ∀ (d k fuel : Nat) (c : Bool), 16 - k = d → k ≤ 16 → d < fuel →
    pt_ (fun rec55 => (fun x : Int32 × Int32 × Int32 => pm_rooted_b55 rec55 x.1 x.2.1 x.2.2)) fuel (nI e, bi_ c, nI k) M = some (bi_ (c || (List.range' k d).any (fun q => decide (0 < eo_ (ze_ Z e) (q / 4) (q % 4)))), M) := by
  intro d
  induction d with
  | zero =>
    intro k fuel c hd hk hf
    obtain ⟨m, rfl⟩ : ∃ m, fuel = m + 1 := ⟨fuel - 1, by omega⟩
    show pm_rooted_b55 _ (nI e) (bi_ c) (nI k) M = _
    unfold pm_rooted_b55
    refine pn_t (show nI 16 ≤ nI k from nI_le (by omega) (by omega)) ?_
    refine pn_g () bi_z ?_
    simp
    rfl
  | succ d ih =>
    intro k fuel c hd hk hf
    obtain ⟨m, rfl⟩ : ∃ m, fuel = m + 1 := ⟨fuel - 1, by omega⟩
    show pm_rooted_b55 _ (nI e) (bi_ c) (nI k) M = _
    unfold pm_rooted_b55
    refine pn_f (show ¬ nI 16 ≤ nI k from nI_ge (by omega) (by omega)) ?_
    rw [List.range'_succ, List.any_cons]
    cases c with
    | true =>
      refine pn_f (by decide) ?_
      unfold pm_rooted_b81 pm_rooted_b86
      rw [nI_1]
      refine (ih (k + 1) m true (by omega) (by omega) (by omega)).trans ?_
      simp
    | false =>
      refine pn_t rfl ?_
      have e16 : (16 : Int32) * nI e + nI k = nI (16 * e + k) := by rw [show (16 : Int32) = nI 16 from rfl, pk_mul, nI_add]
      rw [e16]
      refine pn_g _ (po_l (show 16 * e + k < (mr_ 17).2 by show _ < 3216; omega)) ?_
      have hrow := (h.2.2.1 e he).2.2.2.2.2.1 (k / 4) (k % 4) (by omega) (by omega)
      rw [show 16 * e + 4 * (k / 4) + k % 4 = 16 * e + k by omega] at hrow
      rw [hrow]
      obtain ⟨o1, o2⟩ := (hx e he).2 (k / 4) (k % 4) (by omega) (by omega)
      by_cases hc : eo_ (ze_ Z e) (k / 4) (k % 4) ≤ 0
      · refine pn_t ((oi_le0 o1 o2).mpr hc) ?_
        unfold pm_rooted_b86
        rw [nI_1]
        refine (ih (k + 1) m false (by omega) (by omega) (by omega)).trans ?_
        rw [decide_eq_false (show ¬ 0 < eo_ (ze_ Z e) (k / 4) (k % 4) by omega)]
        simp
      · refine pn_f (fun z => hc ((oi_le0 o1 o2).mp z)) ?_
        unfold pm_rooted_b81 pm_rooted_b86
        rw [nI_1]
        refine (ih (k + 1) m true (by omega) (by omega) (by omega)).trans ?_
        rw [decide_eq_true (show 0 < eo_ (ze_ Z e) (k / 4) (k % 4) by omega)]
        simp
theorem pm_rooted_x (h : rm_ Z M) (hx : zx_b Z 1000000) {e : Nat} (he : e ≤ 200) : ∀ (d k fuel : Nat) (c : Bool), 4 - k = d → k ≤ 4 → d < fuel →
    pt_ (fun rec16 => (fun x : Int32 × Int32 × Int32 => pm_rooted_b16 rec16 x.1 x.2.1 x.2.2)) fuel (nI e, bi_ c, nI k) M = some (bi_ ((c || (List.range' k d).any (fun b => decide (0 < ex_ (ze_ Z e) b))) || (List.range 16).any (fun q => decide (0 < eo_ (ze_ Z e) (q / 4) (q % 4)))), M) := by
  intro d
  induction d with
  | zero =>
    intro k fuel c hd hk hf
    obtain ⟨m, rfl⟩ : ∃ m, fuel = m + 1 := ⟨fuel - 1, by omega⟩
    show pm_rooted_b16 _ (nI e) (bi_ c) (nI k) M = _
    unfold pm_rooted_b16
    refine pn_t (show nI 4 ≤ nI k from nI_le (by omega) (by omega)) ?_
    refine (pm_rooted_o h hx he 16 0 fu_ c rfl (by decide) (by unfold fu_; decide)).trans ?_
    rw [← List.range_eq_range']
    simp
  | succ d ih =>
    intro k fuel c hd hk hf
    obtain ⟨m, rfl⟩ : ∃ m, fuel = m + 1 := ⟨fuel - 1, by omega⟩
    show pm_rooted_b16 _ (nI e) (bi_ c) (nI k) M = _
    unfold pm_rooted_b16
    refine pn_f (show ¬ nI 4 ≤ nI k from nI_ge (by omega) (by omega)) ?_
    rw [List.range'_succ, List.any_cons]
    cases c with
    | true =>
      refine pn_f (by decide) ?_
      unfold pm_rooted_b40 pm_rooted_b45
      rw [nI_1]
      refine (ih (k + 1) m true (by omega) (by omega) (by omega)).trans ?_
      simp
    | false =>
      refine pn_t rfl ?_
      rw [e4_]
      refine pn_g _ (po_l (show 4 * e + k < (mr_ 15).2 by show _ < 804; omega)) ?_
      rw [((h.2.2.1 e he).2.2.2.2.1 k (by omega)).1]
      obtain ⟨o1, o2, -, -⟩ := (hx e he).1 k (by omega)
      by_cases hc : ex_ (ze_ Z e) k ≤ 0
      · refine pn_t ((oi_le0 o1 o2).mpr hc) ?_
        unfold pm_rooted_b45
        rw [nI_1]
        refine (ih (k + 1) m false (by omega) (by omega) (by omega)).trans ?_
        rw [decide_eq_false (show ¬ 0 < ex_ (ze_ Z e) k by omega)]
        simp
      · refine pn_f (fun z => hc ((oi_le0 o1 o2).mp z)) ?_
        unfold pm_rooted_b40 pm_rooted_b45
        rw [nI_1]
        refine (ih (k + 1) m true (by omega) (by omega) (by omega)).trans ?_
        rw [decide_eq_true (show 0 < ex_ (ze_ Z e) k by omega)]
        simp
theorem pm_rooted_ok (h : rm_ Z M) (hx : zx_b Z 1000000) {v e : Nat} (hv : v < 4) (he : e ≤ 200) : pm_rooted (nI v) (nI e) M = some (bi_ (decide (e = v + 1) || (List.range 4).any (fun b => decide (0 < ex_ (ze_ Z e) b)) || (List.range 16).any (fun q => decide (0 < eo_ (ze_ Z e) (q / 4) (q % 4)))), M) := by
  unfold pm_rooted pm_rooted_b12
  rw [nI_1, List.range_eq_range' (n := 4)]
  by_cases hc : e = v + 1
  · refine pn_t (by rw [hc]) ?_
    refine (pm_rooted_x h hx he 4 0 fu_ true rfl (by decide) (by unfold fu_; decide)).trans ?_
    rw [decide_eq_true hc]
  · refine pn_f (fun z => hc ((nI_eq (by omega) (by omega)).mp z)) ?_
    refine (pm_rooted_x h hx he 4 0 fu_ false rfl (by decide) (by unfold fu_; decide)).trans ?_
    rw [decide_eq_false hc]
end RMK
