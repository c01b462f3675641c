/-! The class: with a new entity, the picture still shows the state. -/
section CNR
variable {gl : gl_T} {fx : fx_T} {ad : Nat × Nat → Nat} {W W' : cw_W} {st st' : st_S} {Z X : zz_S} {e a b s v L g u q t h p w ref c n f y : Nat} {x op : Int32} {lost l : List Nat} {E : ze_E} {N : Nat × Nat × Nat}
theorem mem_rwl (h : rwl_ Z W L) (ha : a ∈ cwl_ W L) : ∃ r ∈ zr_ Z, cwC_ W a = some r.2 := by
  have h2 : cwC_ W a ∈ (cwl_ W L).map (cwC_ W) := List.mem_map.mpr ⟨a, ha, rfl⟩
  unfold rwl_ at h
  rw [h] at h2
  obtain ⟨r, hr, h3⟩ := List.mem_map.mp h2
  exact ⟨r, (List.mem_filter.mp hr).1, h3.symm⟩
theorem mem_rwc (h : rwc_ Z W a b) (hy : y ∈ cwl_ W (4 + (4 * a + b))) : ∃ r ∈ zl_ Z, mwv_ W y = some (mzv_ r) := by
  have h2 : mwv_ W y ∈ (cwl_ W (4 + (4 * a + b))).map (mwv_ W) := List.mem_map.mpr ⟨y, hy, rfl⟩
  unfold rwc_ at h
  rw [h] at h2
  obtain ⟨r, hr, h3⟩ := List.mem_map.mp h2
  exact ⟨r, (List.mem_filter.mp hr).1, h3.symm⟩
theorem bk_new (hd : cwd_ W e = false) (hN : N.1 = cwn_ W) : bk_ (cw_new (cj_N W N) e E) = bk_ W := by
  unfold bk_
  congr 1
  refine List.map_congr_left (fun L hL => ?_)
  have hv0 : ∀ L, cwv_ (cj_N W N) L = cwv_ W L := fun L => by
    unfold cwv_
    show (decide (L < N.1 ∧ L < 4) || decide (4 ≤ L ∧ L < 20 ∧ (L - 4) / 4 < N.1 ∧ (L - 4) % 4 < N.1) || (decide (100 < L) && cwd_ W L)) = _
    rw [hN]
  by_cases c : L ≠ e ∨ L ≤ 100
  · rw [nw_v c, nw_k c, hv0]
    rfl
  · have c1 : L = e := by omega
    have c2 : 100 < e := by omega
    subst c1
    rw [nw_ks c2]
    have : cwv_ W L = false := by
      cases hh : cwv_ W L with
      | false => rfl
      | true =>
        rcases cwv_c hh with z | z | z
        · omega
        · omega
        · rw [hd] at z
          cases z.2
    rw [this]
    simp
theorem RW_new (hR : RW Z W 50) (hn4 : zn_ Z ≤ 4) (hd : zd_ (zk_K Z) Z) (he0 : zk_made Z e = false) (hen : e ≠ 0) (hN : N.1 = zn_ Z) (h1 : X.1 = N) (hm : ∀ f, zk_made X f = if f = e then true else zk_made Z f) (hg : zg_ X = zg_ Z) (hze : ze_ X = va_up (ze_ Z) e E) (hr : zr_ X = zr_ Z) (hl : zl_ X = zl_ Z) (ht : zt_ X = zt_ Z) : RW X (cw_new (cj_N W N) e E) 50 := by
  obtain ⟨r1, r2, r3, r4, r5, r6, r7, r8⟩ := hR
  have hn : cwn_ (cj_N W N) = cwn_ W := by
    show N.1 = (cwN_ W).1
    rw [hN, r1]
    rfl
  have hKe : ∀ f, zk_K Z f → f ≠ e := fun f hf z => by
    subst z
    rcases hf with z | z
    · exact hen z
    · rw [he0] at z
      cases z
  have hv0 : ∀ L, cwv_ (cj_N W N) L = cwv_ W L := fun L => by
    unfold cwv_
    rw [hn]
    rfl
  have hC : ∀ a c, cwC_ W a = some c → zk_K Z c.1 → zk_K Z c.2.2.1 → zk_K Z c.2.2.2 → cwC_ (cw_new (cj_N W N) e E) a = some c := fun a c hc k1 k2 k3 => fi_of (o := cwC_ W a) hc (decide_eq_true ⟨hKe _ k1, hKe _ k2, hKe _ k3⟩)
  have hM : ∀ y r, r ∈ zl_ Z → mwv_ W y = some (mzv_ r) → mwv_ (cw_new (cj_N W N) e E) y = some (mzv_ r) := fun y r hrl hy => by
    obtain ⟨k0, k1, k2, k3⟩ := hd.2.2.2 r hrl
    unfold mwv_ at hy
    obtain ⟨m, hm1, hm2⟩ := Option.map_eq_some_iff.mp hy
    have e1 : m.2.1 = r.2.2.2.1 := congrArg (fun z => z.2.1) hm2
    have e2 : m.2.2.1 = r.2.2.2.2.2.1 := congrArg (fun z => z.2.2.1) hm2
    have e5 : m.2.2.2.2.map (cwC_ W) = if r.1 = 1 then some (some (r.2.2.2.1, r.2.2.2.2.1, r.2.2.2.2.2.1, r.2.2.2.2.2.2)) else none := congrArg (fun z => z.2.2.2.2) hm2
    have hm3 : cwM_ (cw_new (cj_N W N) e E) y = some m := fi_of (o := cwM_ W y) hm1 (decide_eq_true ⟨by rw [e1]; exact hKe _ k1, by rw [e2]; exact hKe _ k2⟩)
    unfold mwv_
    rw [hm3, ← hm2]
    show some (_, _, _, _, m.2.2.2.2.map (cwC_ (cw_new (cj_N W N) e E))) = some (_, _, _, _, m.2.2.2.2.map (cwC_ W))
    cases hb : m.2.2.2.2 with
    | none => rfl
    | some a =>
      rw [hb] at e5
      have e5 : some (cwC_ W a) = if r.1 = 1 then some (some (r.2.2.2.1, r.2.2.2.2.1, r.2.2.2.2.2.1, r.2.2.2.2.2.2)) else none := e5
      split at e5
      · have e6 := Option.some.inj e5
        have := hC a _ e6 k1 k2 k3
        show some (_, _, _, _, some (cwC_ (cw_new (cj_N W N) e E) a)) = some (_, _, _, _, some (cwC_ W a))
        rw [this, e6]
      · cases e5
  have hwl : ∀ L, (L ≠ e ∨ L ≤ 100) → cwv_ W L = true → L < 4 ∨ 100 < L → L ≠ 50 → rwl_ X (cw_new (cj_N W N) e E) L := fun L hLe hv h4 h50 => by
    have := r6 L hv h4 h50
    unfold rwl_
    rw [nw_l hLe, hr]
    have h0 := this
    unfold rwl_ at this
    rw [← this]
    refine List.map_congr_left (fun a ha => ?_)
    obtain ⟨r, hr1, hr2⟩ := mem_rwl h0 ha
    obtain ⟨k1, k2, k3, -⟩ := hd.2.2.1 r hr1
    rw [hC a r.2 hr2 k1 k2 k3, hr2]
  refine ⟨by rw [h1]; rfl, fun f => ?_, ?_, by rw [ht]; exact r4, by rw [hg]; exact r5, fun L hv h4 h50 => ?_, fun c d hc hd' => ?_, fun L hv => ?_⟩
  · rw [hm f]
    by_cases z : f = e
    · rw [if_pos z, z]
      exact nw_ds
    · rw [if_neg z, nw_d z]
      exact r2 f
  · rw [hze, ← r3]
    rfl
  · by_cases z : L ≠ e ∨ L ≤ 100
    · rw [nw_v z, hv0] at hv
      exact hwl L z hv h4 h50
    · have c1 : L = e := by omega
      have c2 : 100 < e := by omega
      subst c1
      unfold rwl_
      rw [nw_ls c2, hr]
      have : (zr_ Z).filter (fun r => r.1 == L) = [] := List.filter_eq_nil_iff.mpr (fun r hr1 => by
        obtain ⟨k1, k2, k3, k4⟩ := hd.2.2.1 r hr1
        have := hKe _ k1
        have : r.1 ≠ L := by
          rcases k4 with z | z
          · omega
          · rw [← z.2]
            exact this
        simpa using this)
      rw [this]
      rfl
  · have hc' : c < zn_ Z := by
      have : zn_ X = zn_ Z := by
        show X.1.1 = _
        rw [h1, hN]
      omega
    have hd2 : d < zn_ Z := by
      have : zn_ X = zn_ Z := by
        show X.1.1 = _
        rw [h1, hN]
      omega
    have h0 := r7 c d hc' hd2
    have h2 := h0
    by_cases hle : 4 + (4 * c + d) ≠ e ∨ 4 + (4 * c + d) ≤ 100
    · unfold rwc_ at h0 ⊢
      rw [nw_l hle, hl, ← h0]
      refine List.map_congr_left (fun y hy => ?_)
      obtain ⟨r, hr1, hr2⟩ := mem_rwc h2 hy
      rw [hM y r hr1 hr2, hr2]
    · exfalso
      omega
  · by_cases z : L ≠ e ∨ L ≤ 100
    · rw [nw_v z, hv0] at hv
      obtain ⟨w1, w2, w3⟩ := r8 L hv
      rw [nw_l z, nw_k z]
      refine ⟨w1, w2, fun a ha => ?_⟩
      rcases cwv_c hv with y | y | y
      · obtain ⟨r, hr1, hr2⟩ := mem_rwl (r6 L hv (Or.inl y.2) (by omega)) ha
        obtain ⟨k1, k2, k3, -⟩ := hd.2.2.1 r hr1
        exact Or.inl (by rw [hC a r.2 hr2 k1 k2 k3]; exact fun z => by cases z)
      · have hn' : cwn_ W = zn_ Z := by
          show (cwN_ W).1 = _
          rw [r1]
          rfl
        have ha' : a ∈ cwl_ W (4 + (4 * ((L - 4) / 4) + (L - 4) % 4)) := by
          rw [show 4 + (4 * ((L - 4) / 4) + (L - 4) % 4) = L by omega]
          exact ha
        obtain ⟨r, hr1, hr2⟩ := mem_rwc (r7 ((L - 4) / 4) ((L - 4) % 4) (by omega) (by omega)) ha'
        have h5 := hM a r hr1 hr2
        refine Or.inr (fun z => ?_)
        unfold mwv_ at h5
        rw [z] at h5
        cases h5
      · obtain ⟨r, hr1, hr2⟩ := mem_rwl (r6 L hv (Or.inr y.1) (by omega)) ha
        obtain ⟨k1, k2, k3, -⟩ := hd.2.2.1 r hr1
        exact Or.inl (by rw [hC a r.2 hr2 k1 k2 k3]; exact fun z => by cases z)
    · have c1 : L = e := by omega
      have c2 : 100 < e := by omega
      subst c1
      rw [nw_ls c2, nw_ks c2]
      exact ⟨Nat.le_refl _, by decide, fun a ha => by cases ha⟩
/-- calls that speak of made entities stay -/
theorem nw_C (he0 : zk_made Z e = false) (hen : e ≠ 0) {c : Nat × Int32 × Nat × Nat} (hc : cwC_ W a = some c) (k1 : zk_K Z c.1) (k2 : zk_K Z c.2.2.1) (k3 : zk_K Z c.2.2.2) : cwC_ (cw_new (cj_N W N) e E) a = some c := by
  have hKe : ∀ f, zk_K Z f → f ≠ e := fun f hf z => by
    subst z
    rcases hf with z | z
    · exact hen z
    · rw [he0] at z
      cases z
  exact fi_of (o := cwC_ W a) hc (decide_eq_true ⟨hKe _ k1, hKe _ k2, hKe _ k3⟩)
/-! the counts -/
theorem hN_n (hn : N.1 = cwn_ W) : ∀ (k : Nat × Nat), k ≠ (0, 0) → hc_ gl ad (cj_N W N) k = hc_ gl ad W k
  | (0, i), h => by
    have hi : i ≠ 0 := fun z => h (by rw [z])
    show (if i = 0 then _ else none) = (if i = 0 then _ else none)
    rw [if_neg hi, if_neg hi]
  | (1, i), _ => by
    show (if i = 0 then some (.inr (.inl (4, N.1, fun v => if v < N.1 then some (ad (7, v)) else none)) : ce_E) else none) = _
    rw [hn]
    rfl
  | (2, i), _ => rfl
  | (3, i), _ => rfl
  | (4, i), _ => rfl
  | (5, i), _ => rfl
  | (6, i), _ => rfl
  | (7, i), _ => by
    show (if i < N.1 ∧ i < 4 then some _ else none) = _
    rw [hn]
    rfl
  | (8, i), _ => by
    show (if i < N.1 ∧ i < 4 then some _ else none) = _
    rw [hn]
    rfl
  | (9, i), _ => by
    show (if i < N.1 ∧ i < 4 then some (.inr (.inl (8, N.1, fun b => if b < N.1 then some (ad (11, 4 * i + b)) else none)) : ce_E) else none) = _
    rw [hn]
    rfl
  | (10, i), _ => by
    show (if i < N.1 ∧ i < 4 then some _ else none) = _
    rw [hn]
    rfl
  | (11, i), _ => by
    show (if i / 4 < N.1 ∧ i % 4 < N.1 ∧ i < 16 then some _ else none) = _
    rw [hn]
    rfl
  | (12, i), _ => by
    show (if i / 4 < N.1 ∧ i % 4 < N.1 ∧ i < 16 then some _ else none) = _
    rw [hn]
    rfl
  | (13, i), _ => rfl
  | (14, i), _ => rfl
  | (15, i), _ => rfl
  | (16, i), _ => rfl
  | (17, i), _ => rfl
  | (18, i), _ => rfl
  | (19, i), _ => rfl
  | (20, i), _ => rfl
  | (21, i), _ => by
    have : cwv_ (cj_N W N) i = cwv_ W i := by
      unfold cwv_
      show (decide (i < N.1 ∧ i < 4) || decide (4 ≤ i ∧ i < 20 ∧ (i - 4) / 4 < N.1 ∧ (i - 4) % 4 < N.1) || (decide (100 < i) && cwd_ W i)) = _
      rw [hn]
    show (if cwv_ (cj_N W N) i = true ∧ _ then _ else none) = _
    rw [this]
    rfl
  | (22, i), _ => rfl
  | (23, i), _ => rfl
  | (n + 24, i), _ => rfl
theorem cu_N (hW : CW gl fx ad W st) (hn : N.1 = cwn_ W) : CW gl fx ad (cj_N W N) (st_up st (ad (0, 0)) (.inr (.inr (0, [.ref (ad (1, 0)), .ref (ad (2, 0)), .ref (ad (3, 0)), .int (nI N.2.1), .int (nI N.2.2), .ref (ad (4, 0)), .ref (ad (5, 0)), .int (cwL_ W).1, .ref (ad (6, 0)), .int (cwF_ W).1])))) := by
  have := cv_up (ad := aw_ ad W) (c := .inr (.inr (0, [.ref (ad (1, 0)), .ref (ad (2, 0)), .ref (ad (3, 0)), .int (nI N.2.1), .int (nI N.2.2), .ref (ad (4, 0)), .ref (ad (5, 0)), .int (cwL_ W).1, .ref (ad (6, 0)), .int (cwF_ W).1]))) hW hk_0
  refine cv_sub (ad := aw_ ad W) this (fun k c hc => ?_)
  by_cases h0 : k = (0, 0)
  · rw [h0, ku_s]
    rw [h0, hk_0] at hc
    exact hc
  · rw [ku_n h0]
    rw [hN_n hn k h0] at hc
    exact hc
end CNR
