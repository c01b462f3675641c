/-! The reference's flying and count. -/
section RCT
variable {Z : zz_S} {M : ms_S} {v : Nat}
theorem pm_flying_it (h : rm_l Z M) (hn : rm_n Z M) (hz : zw_n Z) (hw : zw_l Z) (hl : (zl_ Z).length ≤ 2100) {a b : Nat} (ha : a < zn_ Z) (hb : b < zn_ Z) : ∀ (d k c fuel : Nat), (zl_ Z).length - k = d → k ≤ (zl_ Z).length → d < fuel → c ≤ k →
    pt_ (fun rec5 => (fun x : Int32 × Int32 × Int32 × Int32 => pm_flying_b5 rec5 x.1 x.2.1 x.2.2.1 x.2.2.2)) fuel (nI a, nI b, nI c, nI k) M = some (nI (c + (((zl_ Z).drop k).filter (fun r => r.2.1 == a && r.2.2.1 == b)).length), M) := by
  have h4 := hz.2.1
  intro d
  induction d with
  | zero =>
    intro k c fuel hd hk hf hc
    obtain ⟨m, rfl⟩ : ∃ m, fuel = m + 1 := ⟨fuel - 1, by omega⟩
    show pm_flying_b5 _ (nI a) (nI b) (nI c) (nI k) M = _
    unfold pm_flying_b5
    refine pn_g _ rfl ?_
    rw [h.1]
    refine pn_t (nI_le (by omega) (by omega)) ?_
    rw [List.drop_eq_nil_of_le (by omega)]
    rfl
  | succ d ih =>
    intro k c fuel hd hk hf hc
    obtain ⟨m, rfl⟩ : ∃ m, fuel = m + 1 := ⟨fuel - 1, by omega⟩
    have hlt : k < (zl_ Z).length := by omega
    have hx : (zl_ Z)[k]? = some (zl_ Z)[k] := List.getElem?_eq_getElem hlt
    have hrow := h.2 k _ hx
    have hwl := hw _ (List.getElem_mem hlt)
    rw [dr_s hx, List.filter_cons]
    generalize (zl_ Z)[k] = r at hx hrow hwl
    show pm_flying_b5 _ (nI a) (nI b) (nI c) (nI k) M = _
    unfold pm_flying_b5 pm_flying_b55
    refine pn_g _ rfl ?_
    rw [h.1]
    refine pn_f (nI_ge (by omega) (by omega)) ?_
    refine pn_b _ (pm_vat_y hn hz ha) (pn_f (by decide) ?_)
    refine pn_b _ (pm_vat_y hn hz hb) (pn_f (by decide) ?_)
    refine pn_g _ (po_l (show k < (mr_ 25).2 by show k < 2100; omega)) ?_
    rw [hrow.1, m16_ (by omega), e4_]
    by_cases he : r.2.1 = a ∧ r.2.2.1 = b
    · refine pn_t (by congr 1; omega) ?_
      rw [nI_1, nI_1, if_pos (by simp [he])]
      refine (ih (k + 1) (c + 1) m (by omega) (by omega) (by omega) (by omega)).trans ?_
      rw [List.length_cons]
      congr 3
      omega
    · refine pn_f (fun z => he ?_) ?_
      · have := (nI_eq (by omega) (by omega)).mp z
        omega
      · rw [nI_1, if_neg (by simpa using he)]
        exact ih (k + 1) c m (by omega) (by omega) (by omega) (by omega)
theorem pm_flying_ok (h : rm_ Z M) (hz : zw_n Z) (hw : zw_l Z) (hl : (zl_ Z).length ≤ 2100) {a b : Nat} (ha : a < zn_ Z) (hb : b < zn_ Z) : pm_flying (nI a) (nI b) M = some (nI (z_flying Z a b), M) := by
  unfold pm_flying
  have := pm_flying_it h.2.2.2.2.1 h.1 hz hw hl ha hb ((zl_ Z).length - 0) 0 0 fu_ rfl (Nat.zero_le _) (by unfold fu_; omega) (by omega)
  rw [Nat.zero_add, List.drop_zero] at this
  exact this
theorem pm_flying_n (h : rm_ Z M) (hz : zw_n Z) {x y : Int32} (hxy : pm_vat x M = some (0, M) ∨ ((∃ j, j < zn_ Z ∧ x = nI j) ∧ pm_vat y M = some (0, M))) : pm_flying x y M = some (0, M) := by
  unfold pm_flying
  show pm_flying_b5 _ x y 0 0 M = _
  unfold pm_flying_b5
  refine pn_g _ rfl ?_
  by_cases hc : M.1 24 ≤ 0
  · exact pn_t hc rfl
  · refine pn_f hc ?_
    rcases hxy with hx | ⟨⟨j, hj, rfl⟩, hy⟩
    · exact pn_b _ hx (pn_t rfl rfl)
    · exact pn_b _ (pm_vat_y h.1 hz hj) (pn_f (by decide) (pn_b _ hy (pn_t rfl rfl)))
theorem pm_counts_ok (h : rm_ Z M) (hz : zw_n Z) (hw : zw_e Z) (hx : zx_b Z 1000000) (hv : v < 4) {k e : Nat} (hk : k < 4) (he : e ≤ 200) : pm_counts (nI v) (nI k) (nI e) M = some (bi_ (zq_c Z v k e), M) := by
  have hrow := h.2.2.1 e he
  have h44 := (hw e he).1
  unfold pm_counts zq_c
  by_cases k3 : k = 3
  · rw [if_pos k3]
    refine pn_t (by rw [k3]; rfl) ?_
    rw [e4_]
    refine pn_g _ (po_l (show 4 * e + v < (mr_ 16).2 by show _ < 804; omega)) ?_
    rw [(hrow.2.2.2.2.1 v hv).2]
    obtain ⟨-, -, o1, o2⟩ := (hx e he).1 v hv
    by_cases hc : ei_ (ze_ Z e) v ≤ 0
    · refine pn_t ((oi_le0 o1 o2).mpr hc) ?_
      rw [decide_eq_false (by omega)]
      rfl
    · refine pn_f (fun z => hc ((oi_le0 o1 o2).mp z)) ?_
      rw [decide_eq_true (by omega)]
      rfl
  · rw [if_neg k3]
    refine pn_f (nI_k (k := k) (by omega) (j := 3) (by decide) k3) ?_
    refine pn_b _ (pm_lives_ok h hz he) ?_
    cases hl : zk_live Z e with
    | false => exact pn_t rfl rfl
    | true =>
      refine pn_f (by decide) ?_
      refine pn_g _ (po_l (show e < (mr_ 6).2 by show e < 201; omega)) ?_
      rw [hrow.1]
      by_cases hh : zh_ Z e = v
      · rw [decide_eq_true hh]
        refine pn_t (by rw [hh]) ?_
        have j8 : e < (mr_ 8).2 := by show e < 201; omega
        by_cases h100 : e ≤ 100
        · have g100 : nI e ≤ (100 : Int32) := show nI e ≤ nI 100 from nI_le h100 (by omega)
          rw [decide_eq_false (show ¬ 100 < e by omega)]
          have b74 : pm_counts_b74 (nI k) (nI e) M = some (0, M) := by
            unfold pm_counts_b74
            by_cases k2 : k = 2
            · exact pn_t (by rw [k2]; rfl) (pn_t g100 rfl)
            · exact pn_f (nI_k (k := k) (by omega) (j := 2) (by decide) k2) rfl
          have b54 : pm_counts_b54 (nI k) (nI e) M = some (0, M) := by
            unfold pm_counts_b54
            by_cases k1 : k = 1
            · exact pn_t (by rw [k1]; rfl) (pn_t g100 b74)
            · exact pn_f (nI_k (k := k) (by omega) (j := 1) (by decide) k1) b74
          by_cases k0 : k = 0
          · refine pn_t (by rw [k0]; rfl) ?_
            rw [k0]
            by_cases h60 : e ≤ 60
            · exact pn_t (show nI e ≤ nI 60 from nI_le h60 (by omega)) (by rw [decide_eq_true h60]; rfl)
            · rw [k0] at b54
              exact pn_f (show ¬ nI e ≤ nI 60 from nI_ge (by omega) (by omega)) (by rw [decide_eq_false h60, b54]; rfl)
          · refine pn_f (nI_k (k := k) (by omega) (j := 0) (by decide) k0) ?_
            rw [decide_eq_false k0, b54]
            simp
            rfl
        · have g100 : ¬ nI e ≤ (100 : Int32) := show ¬ nI e ≤ nI 100 from nI_ge (by omega) (by omega)
          rw [decide_eq_true (show 100 < e by omega), decide_eq_false (show ¬ e ≤ 60 by omega)]
          have b74 : pm_counts_b74 (nI k) (nI e) M = some (bi_ (decide (k = 2) && es_ (ze_ Z e)), M) := by
            unfold pm_counts_b74
            by_cases k2 : k = 2
            · refine pn_t (by rw [k2]; rfl) (pn_f g100 ?_)
              refine pn_g _ (po_l j8) ?_
              rw [hrow.2.2.1, decide_eq_true k2]
              cases es_ (ze_ Z e) with
              | false => exact pn_t rfl rfl
              | true => exact pn_f (by decide) rfl
            · rw [decide_eq_false k2]
              exact pn_f (nI_k (k := k) (by omega) (j := 2) (by decide) k2) rfl
          have b54 : pm_counts_b54 (nI k) (nI e) M = some (bi_ ((decide (k = 1) && !es_ (ze_ Z e)) || (decide (k = 2) && es_ (ze_ Z e))), M) := by
            unfold pm_counts_b54
            by_cases k1 : k = 1
            · refine pn_t (by rw [k1]; rfl) (pn_f g100 ?_)
              refine pn_g _ (po_l j8) ?_
              rw [hrow.2.2.1, decide_eq_true k1, decide_eq_false (show ¬ k = 2 by omega)]
              rw [decide_eq_false (show ¬ k = 2 by omega)] at b74
              cases es_ (ze_ Z e) with
              | false => exact pn_t rfl rfl
              | true => exact pn_f (by decide) b74
            · rw [decide_eq_false k1]
              exact pn_f (nI_k (k := k) (by omega) (j := 1) (by decide) k1) (by rw [b74]; simp)
          by_cases k0 : k = 0
          · refine pn_t (by rw [k0]; rfl) ?_
            refine pn_f (show ¬ nI e ≤ nI 60 from nI_ge (by omega) (by omega)) ?_
            rw [b54]
            simp
          · refine pn_f (nI_k (k := k) (by omega) (j := 0) (by decide) k0) ?_
            rw [b54]
            simp
      · rw [decide_eq_false hh]
        exact pn_f (fun z => hh ((nI_eq (by omega) (by omega)).mp z)) rfl
theorem d16b_ {x : Nat} (h : x < 100000) : nI x / (16 : Int32) = nI (x / 16) := by
  rw [show (16 : Int32) = nI 16 from rfl, pk_div (by omega) (by decide) (by decide)]
/-- the tail: kinds 4, 5 and 7 -/
theorem pm_count_b204_ok (h : rm_ Z M) (hv : v < 4) {k : Nat} (hk : k < 8) {c : Int32} : pm_count_b204 (nI v) (nI k) c M = some (if k = 7 then nI (zt_ Z v).length else c, M) := by
  unfold pm_count_b204
  by_cases k7 : k = 7
  · refine pn_t (by rw [k7]; rfl) ?_
    refine pn_g _ (po_l (show v < (mr_ 32).2 by show v < 4; omega)) ?_
    rw [(h.2.2.2.2.2.1 v hv).1, if_pos k7]
    rfl
  · rw [if_neg k7]
    exact pn_f (fun z => k7 ((nI_eq (b := 7) (by omega) (by decide)).mp z)) rfl
theorem oi_add (a b : Int) : Int32.ofInt a + Int32.ofInt b = Int32.ofInt (a + b) := (Int32.ofInt_add a b).symm
theorem pm_count_o (h : rm_ Z M) (hw : zw_e Z) (hx : zx_b Z 1000000) (hv : v < 4) {k : Nat} (hk : k = 4 ∨ k = 5) {s : Int} (hs : s = if k = 4 then 1 else -1) : ∀ (d i fuel : Nat) (c : Int), 3216 - i = d → i ≤ 3216 → d < fuel →
    pt_ (fun rec127 => (fun x : Int32 × Int32 × Int32 × Int32 => pm_count_b127 rec127 x.1 x.2.1 x.2.2.1 x.2.2.2)) fuel (nI v, nI k, Int32.ofInt c, nI i) M = some (Int32.ofInt (c + ((List.range' i d).map (zq_o Z v s)).sum), M) := by
  intro d
  induction d with
  | zero =>
    intro i fuel c hd hi hf
    obtain ⟨m, rfl⟩ : ∃ m, fuel = m + 1 := ⟨fuel - 1, by omega⟩
    show pm_count_b127 _ (nI v) (nI k) (Int32.ofInt c) (nI i) M = _
    unfold pm_count_b127
    refine pn_t (show nI 3216 ≤ nI i from nI_le (by omega) (by omega)) ?_
    rw [pm_count_b204_ok h hv (by omega), if_neg (by omega)]
    simp
  | succ d ih =>
    intro i fuel c hd hi hf
    obtain ⟨m, rfl⟩ : ∃ m, fuel = m + 1 := ⟨fuel - 1, by omega⟩
    rw [List.range'_succ, List.map_cons, List.sum_cons]
    have hE : i / 16 ≤ 200 := by omega
    have hrow := (h.2.2.1 (i / 16) hE).2.2.2.2.2.1 (i / 4 % 4) (i % 4) (by omega) (by omega)
    rw [show 16 * (i / 16) + 4 * (i / 4 % 4) + i % 4 = i by omega] at hrow
    obtain ⟨o1, o2⟩ := (hx (i / 16) hE).2 (i / 4 % 4) (i % 4) (by omega) (by omega)
    have hh4 := (hw (i / 16) hE).1
    have hr6 := (h.2.2.1 (i / 16) hE).1
    have goon : ∀ c2 : Int, pt_ (fun rec127 => (fun x : Int32 × Int32 × Int32 × Int32 => pm_count_b127 rec127 x.1 x.2.1 x.2.2.1 x.2.2.2)) m (nI v, nI k, Int32.ofInt c2, nI (i + 1)) M = some (Int32.ofInt (c2 + ((List.range' (i + 1) d).map (zq_o Z v s)).sum), M) := fun c2 => ih (i + 1) m c2 (by omega) (by omega) (by omega)
    have hzo : zq_o Z v s i = if zh_ Z (i / 16) = v ∧ 0 < s * eo_ (ze_ Z (i / 16)) (i / 4 % 4) (i % 4) then s * eo_ (ze_ Z (i / 16)) (i / 4 % 4) (i % 4) else 0 := rfl
    have b168 : pm_count_b168 (pt_ (fun rec127 => (fun x : Int32 × Int32 × Int32 × Int32 => pm_count_b127 rec127 x.1 x.2.1 x.2.2.1 x.2.2.2)) m) (nI v) (nI k) (Int32.ofInt c) (nI i) (Int32.ofInt (s * eo_ (ze_ Z (i / 16)) (i / 4 % 4) (i % 4))) M = some (Int32.ofInt (c + (zq_o Z v s i + ((List.range' (i + 1) d).map (zq_o Z v s)).sum)), M) := by
      have hs1 : -1000000 < s * eo_ (ze_ Z (i / 16)) (i / 4 % 4) (i % 4) ∧ s * eo_ (ze_ Z (i / 16)) (i / 4 % 4) (i % 4) < 1000000 := by
        rw [hs]
        split <;> omega
      rw [hzo]
      generalize s * eo_ (ze_ Z (i / 16)) (i / 4 % 4) (i % 4) = t at hs1
      unfold pm_count_b168 pm_count_b196 pm_count_b197
      rw [nI_1]
      by_cases ht : t ≤ 0
      · refine pn_t ((oi_le0 hs1.1 hs1.2).mpr ht) ?_
        rw [if_neg (by omega), goon c]
        congr 4
        omega
      · refine pn_f (fun z => ht ((oi_le0 hs1.1 hs1.2).mp z)) ?_
        rw [d16b_ (by omega)]
        refine pn_g _ (po_l (show i / 16 < (mr_ 6).2 by show _ < 201; omega)) ?_
        rw [hr6]
        by_cases hh : zh_ Z (i / 16) = v
        · refine pn_t (by rw [hh]) ?_
          rw [if_pos ⟨hh, by omega⟩, oi_add, goon (c + t), Int.add_assoc]
        · refine pn_f (fun z => hh ((nI_eq (by omega) (by omega)).mp z)) ?_
          rw [if_neg (fun z => hh z.1), goon c]
          congr 4
          omega
    have j17 : i < (mr_ 17).2 := by show i < 3216; omega
    have b145 : pm_count_b145 (pt_ (fun rec127 => (fun x : Int32 × Int32 × Int32 × Int32 => pm_count_b127 rec127 x.1 x.2.1 x.2.2.1 x.2.2.2)) m) (nI v) (nI k) (Int32.ofInt c) (nI i) M = some (Int32.ofInt (c + (zq_o Z v s i + ((List.range' (i + 1) d).map (zq_o Z v s)).sum)), M) := by
      unfold pm_count_b145
      by_cases k4 : k = 4
      · refine pn_t (by rw [k4]; rfl) ?_
        refine pn_g _ (po_l j17) ?_
        rw [if_pos k4] at hs
        rw [hrow]
        rw [hs, Int.one_mul] at b168
        rw [hs]
        exact b168
      · refine pn_f (fun z => k4 ((nI_eq (b := 4) (by omega) (by decide)).mp z)) ?_
        refine pn_g _ (po_l j17) ?_
        rw [if_neg k4] at hs
        rw [hrow, ← Int32.ofInt_neg]
        rw [hs, Int.neg_mul, Int.one_mul] at b168
        rw [hs]
        exact b168
    show pm_count_b127 _ (nI v) (nI k) (Int32.ofInt c) (nI i) M = _
    unfold pm_count_b127
    refine pn_f (show ¬ nI 3216 ≤ nI i from nI_ge (by omega) (by omega)) ?_
    by_cases k4 : k = 4
    · exact pn_t (by rw [k4]; rfl) b145
    · exact pn_f (fun z => k4 ((nI_eq (b := 4) (by omega) (by decide)).mp z)) (pn_t (by rw [show k = 5 by omega]; rfl) b145)
theorem pm_count_r (h : rm_ Z M) (hw : zk_w Z) (hx : zx_b Z 1000000) (hv : v < 4) {k : Nat} (hk : k = 6) (hlen : (zr_ Z).length ≤ 200) : ∀ (d i c fuel : Nat), (zr_ Z).length - i = d → i ≤ (zr_ Z).length → d < fuel → c ≤ i →
    pt_ (fun rec66 => (fun x : Int32 × Int32 × Int32 × Int32 => pm_count_b66 rec66 x.1 x.2.1 x.2.2.1 x.2.2.2)) fuel (nI v, nI k, nI c, nI i) M = some (nI (c + (((zr_ Z).drop i).filter (fun r => decide (100 < r.1) && decide (zh_ Z r.1 = v))).length), M) := by
  intro d
  induction d with
  | zero =>
    intro i c fuel hd hi hf hc
    obtain ⟨m, rfl⟩ : ∃ m, fuel = m + 1 := ⟨fuel - 1, by omega⟩
    show pm_count_b66 _ (nI v) (nI k) (nI c) (nI i) M = _
    unfold pm_count_b66 pm_count_b123
    refine pn_g _ rfl ?_
    rw [h.2.2.2.1.1]
    refine pn_t (nI_le (by omega) (by omega)) ?_
    rw [List.drop_eq_nil_of_le (by omega), hk]
    show pm_count_b127 _ (nI v) (nI 6) (nI c) (nI 16) M = _
    unfold pm_count_b127
    refine pn_f (show ¬ nI 3216 ≤ nI 16 from nI_ge (by omega) (by omega)) (pn_f (by decide) (pn_f (by decide) ?_))
    exact pm_count_b204_ok h hv (by omega)
  | succ d ih =>
    intro i c fuel hd hi hf hc
    obtain ⟨m, rfl⟩ : ∃ m, fuel = m + 1 := ⟨fuel - 1, by omega⟩
    have hlt : i < (zr_ Z).length := by omega
    have hg : (zr_ Z)[i]? = some (zr_ Z)[i] := List.getElem?_eq_getElem hlt
    have hrow := h.2.2.2.1.2 i _ hg
    have hwr := hw.2.1 _ (List.getElem_mem hlt)
    rw [dr_s hg, List.filter_cons]
    generalize (zr_ Z)[i] = r at hg hrow hwr
    have j19 : i < (mr_ 19).2 := by show i < 200; omega
    have goon := fun c2 (hc2 : c2 ≤ i + 1) => ih (i + 1) c2 m (by omega) (by omega) (by omega) hc2
    have h4 := (hw.1 r.1 hwr.1).1
    show pm_count_b66 _ (nI v) (nI k) (nI c) (nI i) M = _
    unfold pm_count_b66 pm_count_b115 pm_count_b116
    refine pn_g _ rfl ?_
    rw [h.2.2.2.1.1]
    refine pn_f (nI_ge hlt (by omega)) (pn_t (by rw [hk]; rfl) ?_)
    refine pn_g _ (po_l j19) ?_
    rw [hrow.1, nI_1, nI_1]
    by_cases h100 : r.1 ≤ 100
    · refine pn_t (show nI r.1 ≤ nI 100 from nI_le h100 (by omega)) ?_
      rw [decide_eq_false (show ¬ 100 < r.1 by omega), if_neg (by simp)]
      exact goon c (by omega)
    · refine pn_f (show ¬ nI r.1 ≤ nI 100 from nI_ge (by omega) (by omega)) ?_
      refine pn_g _ (po_l j19) ?_
      rw [hrow.1]
      refine pn_g _ (po_l (show r.1 < (mr_ 6).2 by show r.1 < 201; omega)) ?_
      rw [(h.2.2.1 r.1 hwr.1).1, decide_eq_true (show 100 < r.1 by omega)]
      by_cases hh : zh_ Z r.1 = v
      · refine pn_t (by rw [hh]) ?_
        rw [decide_eq_true hh, if_pos (by simp)]
        refine (goon (c + 1) (by omega)).trans ?_
        rw [List.length_cons]
        congr 3
        omega
      · refine pn_f (fun z => hh ((nI_eq (by omega) (by omega)).mp z)) ?_
        rw [decide_eq_false hh, if_neg (by simp)]
        exact goon c (by omega)
theorem pm_count_b63_ok (h : rm_ Z M) (hw : zk_w Z) (hx : zx_b Z 1000000) (hv : v < 4) (hlen : (zr_ Z).length ≤ 200) {k c : Nat} (hk : k < 8) (hc : 4 ≤ k → c = 0) : pm_count_b63 (nI v) (nI k) (nI c) M = some (if k < 4 then nI c else zq_count Z v k, M) := by
  unfold zq_count
  by_cases k6 : k = 6
  · have := pm_count_r h hw hx hv k6 hlen ((zr_ Z).length - 0) 0 0 fu_ rfl (Nat.zero_le _) (by unfold fu_; omega) (Nat.le_refl _)
    rw [Nat.zero_add, List.drop_zero] at this
    rw [hc (by omega), if_neg (show ¬ k < 4 by omega), if_neg (show ¬ k < 4 by omega), if_neg (show ¬ k = 4 by omega), if_neg (show ¬ k = 5 by omega), if_pos k6]
    exact this
  · have b66 : ∀ y, pm_count_b123 (nI v) (nI k) (nI c) M = some y → pm_count_b63 (nI v) (nI k) (nI c) M = some y := by
      intro y hy
      unfold pm_count_b63
      show pm_count_b66 _ (nI v) (nI k) (nI c) 0 M = _
      unfold pm_count_b66
      refine pn_g _ rfl ?_
      by_cases hm : M.1 18 ≤ 0
      · exact pn_t hm hy
      · exact pn_f hm (pn_f (fun z => k6 ((nI_eq (b := 6) (by omega) (by decide)).mp z)) hy)
    refine b66 _ ?_
    unfold pm_count_b123
    by_cases k45 : k = 4 ∨ k = 5
    · have e0 : nI c = Int32.ofInt 0 := by rw [hc (by omega)]; rfl
      rw [if_neg (show ¬ k < 4 by omega), if_neg (show ¬ k < 4 by omega), e0]
      have := pm_count_o h hw.1 hx hv k45 rfl 3200 16 fu_ 0 rfl (by omega) (by unfold fu_; omega)
      refine this.trans ?_
      rw [Int.zero_add]
      by_cases k4 : k = 4
      · rw [if_pos k4, if_pos k4]
      · rw [if_neg k4, if_neg k4, if_pos (show k = 5 by omega)]
    · show pm_count_b127 _ (nI v) (nI k) (nI c) (nI 16) M = _
      unfold pm_count_b127
      refine pn_f (show ¬ nI 3216 ≤ nI 16 from nI_ge (by omega) (by omega)) (pn_f (fun z => k45 (Or.inl ((nI_eq (b := 4) (by omega) (by decide)).mp z))) (pn_f (fun z => k45 (Or.inr ((nI_eq (b := 5) (by omega) (by decide)).mp z))) ?_))
      rw [pm_count_b204_ok h hv hk]
      by_cases k4 : k < 4
      · rw [if_pos k4, if_neg (show ¬ k = 7 by omega)]
      · rw [if_neg k4, if_neg k4, if_neg (show ¬ k = 4 by omega), if_neg (show ¬ k = 5 by omega), if_neg k6, if_pos (show k = 7 by omega)]
theorem pm_count_a (h : rm_ Z M) (hz : zw_n Z) (hw : zk_w Z) (hx : zx_b Z 1000000) (hv : v < 4) (hlen : (zr_ Z).length ≤ 200) {k : Nat} (hk : k < 4) : ∀ (d i c fuel : Nat), 201 - i = d → 1 ≤ i → i ≤ 201 → d < fuel → c ≤ i →
    pt_ (fun rec25 => (fun x : Int32 × Int32 × Int32 × Int32 => pm_count_b25 rec25 x.1 x.2.1 x.2.2.1 x.2.2.2)) fuel (nI v, nI k, nI c, nI i) M = some (nI (c + ((List.range' i d).filter (zq_c Z v k)).length), M) := by
  intro d
  induction d with
  | zero =>
    intro i c fuel hd hi1 hi hf hc
    obtain ⟨m, rfl⟩ : ∃ m, fuel = m + 1 := ⟨fuel - 1, by omega⟩
    show pm_count_b25 _ (nI v) (nI k) (nI c) (nI i) M = _
    unfold pm_count_b25
    refine pn_t (show nI 200 < nI i from nI_lt (by omega) (by omega)) ?_
    rw [pm_count_b63_ok h hw hx hv hlen (by omega) (by omega), if_pos hk]
    rfl
  | succ d ih =>
    intro i c fuel hd hi1 hi hf hc
    obtain ⟨m, rfl⟩ : ∃ m, fuel = m + 1 := ⟨fuel - 1, by omega⟩
    rw [List.range'_succ, List.filter_cons]
    show pm_count_b25 _ (nI v) (nI k) (nI c) (nI i) M = _
    unfold pm_count_b25 pm_count_b56
    refine pn_f (show ¬ nI 200 < nI i from nI_nlt (by omega) (by omega)) (pn_f (show ¬ nI 4 ≤ nI k from nI_ge hk (by omega)) ?_)
    refine pn_b _ (pm_counts_ok h hz hw.1 hx hv hk (show i ≤ 200 by omega)) ?_
    rw [nI_1, nI_1]
    cases zq_c Z v k i with
    | false =>
      refine pn_t rfl ?_
      rw [if_neg (by decide)]
      exact ih (i + 1) c m (by omega) (by omega) (by omega) (by omega) (by omega)
    | true =>
      refine pn_f (by decide) ?_
      rw [if_pos rfl, List.length_cons]
      refine (ih (i + 1) (c + 1) m (by omega) (by omega) (by omega) (by omega) (by omega)).trans ?_
      congr 3
      omega
theorem pm_count_ok (h : rm_ Z M) (hz : zw_n Z) (hw : zk_w Z) (hx : zx_b Z 1000000) (hv : v < zn_ Z) (hlen : (zr_ Z).length ≤ 200) {k : Nat} (hk : k < 8) : pm_count (nI v) (nI k) M = some (zq_count Z v k, M) := by
  have h4 := hz.2.1
  unfold pm_count
  refine pn_b _ (pm_vat_y h.1 hz hv) (pn_f (by decide) ?_)
  refine pn_f (nI_pos (by omega)) (pn_t (show nI k ≤ nI 7 from nI_le (by omega) (by omega)) ?_)
  by_cases k4 : k < 4
  · have := pm_count_a h hz hw hx (show v < 4 by omega) hlen k4 200 1 0 fu_ rfl (by omega) (by omega) (by unfold fu_; omega) (by omega)
    rw [Nat.zero_add] at this
    unfold zq_count
    rw [if_pos k4]
    exact this
  · show pm_count_b25 _ (nI v) (nI k) (nI 0) (nI 1) M = _
    unfold pm_count_b25
    refine pn_f (show ¬ nI 200 < nI 1 from nI_nlt (by omega) (by omega)) (pn_t (show nI 4 ≤ nI k from nI_le (by omega) (by omega)) ?_)
    rw [pm_count_b63_ok h hw hx (by omega) hlen hk (fun _ => rfl), if_neg k4]
theorem pm_count_n (h : rm_ Z M) (hz : zw_n Z) {x k : Int32} (hx : pm_vat x M = some (0, M) ∨ ((∃ j, j < zn_ Z ∧ x = nI j) ∧ (k < 0 ∨ nI 8 ≤ k))) : pm_count x k M = some (0, M) := by
  unfold pm_count
  rcases hx with hx | ⟨⟨j, hj, rfl⟩, hk⟩
  · exact pn_b _ hx (pn_t rfl rfl)
  · refine pn_b _ (pm_vat_y h.1 hz hj) (pn_f (by decide) ?_)
    rcases hk with hk | hk
    · exact pn_t hk rfl
    · by_cases h0 : k < 0
      · exact pn_t h0 rfl
      · refine pn_f h0 (pn_f (fun z => ?_) rfl)
        have := Int32.le_trans hk z
        exact absurd this (by decide)
end RCT
