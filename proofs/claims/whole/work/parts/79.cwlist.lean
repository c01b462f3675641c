/-! The class's heap: its lists. -/
/-- the kind of a list's object -/
def lk_ (L : Nat) : Nat × Nat := if L < 4 then (8, L) else if L < 20 then (12, L - 4) else (20, L)
/-- lists within their rows, holding calls and messages -/
def wf_ (W : cw_W) : Prop := ∀ L, cwv_ W L = true → (cwl_ W L).length ≤ (cwk_ W L).1 ∧ (cwk_ W L).1 < 3700 ∧ ∀ a ∈ cwl_ W L, cwC_ W a ≠ none ∨ cwM_ W a ≠ none
section CWL
variable {gl : gl_T} {fx : fx_T} {ad : Nat × Nat → Nat} {W : cw_W} {st : st_S} {e b s v L g u q : Nat}
theorem cwv_c (h : cwv_ W L = true) : (L < cwn_ W ∧ L < 4) ∨ (4 ≤ L ∧ L < 20 ∧ (L - 4) / 4 < cwn_ W ∧ (L - 4) % 4 < cwn_ W) ∨ (100 < L ∧ cwd_ W L = true) := by
  unfold cwv_ at h
  simp only [Bool.or_eq_true, Bool.and_eq_true, decide_eq_true_eq] at h
  rcases h with (h | h) | h
  · exact Or.inl h
  · exact Or.inr (Or.inl h)
  · exact Or.inr (Or.inr h)
theorem cwv_m (h : (L < cwn_ W ∧ L < 4) ∨ (4 ≤ L ∧ L < 20 ∧ (L - 4) / 4 < cwn_ W ∧ (L - 4) % 4 < cwn_ W) ∨ (100 < L ∧ cwd_ W L = true)) : cwv_ W L = true := by
  unfold cwv_
  simp only [Bool.or_eq_true, Bool.and_eq_true, decide_eq_true_eq]
  rcases h with h | h | h
  · exact Or.inl (Or.inl h)
  · exact Or.inl (Or.inr h)
  · exact Or.inr h
theorem hk_L (hv : cwv_ W L = true) : hc_ gl ad W (lk_ L) = some (ho_ gl W L) := by
  unfold lk_
  rcases cwv_c hv with h | h | h
  · rw [if_pos h.2]
    exact hk_8 h
  · rw [if_neg (by omega), if_pos h.2.1]
    have := hk_12 (gl := gl) (ad := ad) (W := W) (b := L - 4) ⟨h.2.2.1, h.2.2.2, by omega⟩
    rw [show 4 + (L - 4) = L by omega] at this
    exact this
  · rw [if_neg (by omega), if_neg (by omega)]
    exact hk_20p h.2 h.1
theorem lk_ne : lk_ L ≠ (21, L) := by
  unfold lk_
  split
  · exact fun z => absurd (congrArg Prod.fst z) (by show ¬ (8 : Nat) = 21; decide)
  · split
    · exact fun z => absurd (congrArg Prod.fst z) (by show ¬ (12 : Nat) = 21; decide)
    · exact fun z => absurd (congrArg Prod.fst z) (by show ¬ (20 : Nat) = 21; decide)
theorem lk_a : aw_ ad W (lk_ L) = ad (lk_ L) := by
  unfold lk_
  split
  · rfl
  · split <;> rfl
/-- a list changed: the other cells -/
theorem hl_n {xs : List Nat} {y : Nat × Int32 × Nat} : ∀ (k : Nat × Nat), k ≠ lk_ L → k ≠ (21, L) → hc_ gl ad (cj_k (cj_l W L xs) L y) k = hc_ gl ad W k ∧ aw_ ad (cj_k (cj_l W L xs) L y) k = aw_ ad W k := by
  have hk : ∀ i, i ≠ L → cwk_ (cj_k (cj_l W L xs) L y) i = cwk_ W i := fun i hi => va_up_ne _ _ hi
  have hl : ∀ i, i ≠ L → cwl_ (cj_k (cj_l W L xs) L y) i = cwl_ W i := fun i hi => va_up_ne _ _ hi
  have ho : ∀ i, i ≠ L → ho_ gl (cj_k (cj_l W L xs) L y) i = ho_ gl W i := fun i hi => by
    unfold ho_
    rw [hk i hi, hl i hi]
  intro k h1 h2
  refine ⟨?_, ?_⟩
  · match k with
    | (0, i) => rfl
    | (1, i) => rfl
    | (2, i) => rfl
    | (3, i) => rfl
    | (4, i) => rfl
    | (5, i) => rfl
    | (6, i) => rfl
    | (7, i) => rfl
    | (8, i) =>
      show (if i < cwn_ W ∧ i < 4 then some (ho_ gl (cj_k (cj_l W L xs) L y) i) else none) = (if i < cwn_ W ∧ i < 4 then some (ho_ gl W i) else none)
      by_cases c : i < cwn_ W ∧ i < 4
      · rw [if_pos c, if_pos c, ho i (fun z => h1 (by subst z; unfold lk_; rw [if_pos c.2]))]
      · rw [if_neg c, if_neg c]
    | (9, i) => rfl
    | (10, i) => rfl
    | (11, i) => rfl
    | (12, i) =>
      show (if i / 4 < cwn_ W ∧ i % 4 < cwn_ W ∧ i < 16 then some (ho_ gl (cj_k (cj_l W L xs) L y) (4 + i)) else none) = (if i / 4 < cwn_ W ∧ i % 4 < cwn_ W ∧ i < 16 then some (ho_ gl W (4 + i)) else none)
      by_cases c : i / 4 < cwn_ W ∧ i % 4 < cwn_ W ∧ i < 16
      · rw [if_pos c, if_pos c, ho (4 + i) (fun z => h1 (by subst z; unfold lk_; rw [if_neg (by omega), if_pos (by omega), show 4 + i - 4 = i by omega]))]
      · rw [if_neg c, if_neg c]
    | (13, i) => rfl
    | (14, i) => rfl
    | (15, i) => rfl
    | (16, i) => rfl
    | (17, i) => rfl
    | (18, i) => rfl
    | (19, i) => rfl
    | (20, i) =>
      show (if cwd_ W i = true then some (if i ≤ 100 then .inr (.inl (6, 4, fun s => rf_ ad (el_ (cwe_ W i) s))) else ho_ gl (cj_k (cj_l W L xs) L y) i) else none) = (if cwd_ W i = true then some (if i ≤ 100 then .inr (.inl (6, 4, fun s => rf_ ad (el_ (cwe_ W i) s))) else ho_ gl W i) else none)
      by_cases c : i ≤ 100
      · rw [if_pos c, if_pos c]
      · rw [if_neg c, if_neg c, ho i (fun z => h1 (by subst z; unfold lk_; rw [if_neg (by omega), if_neg (by omega)]))]
    | (21, i) =>
      have hi : i ≠ L := fun z => h2 (by rw [z])
      show (if cwv_ W i = true ∧ 0 < (cwk_ (cj_k (cj_l W L xs) L y) i).1 then some (Sum.inr (Sum.inl (9, (cwk_ (cj_k (cj_l W L xs) L y) i).1, fun j => (cwl_ (cj_k (cj_l W L xs) L y) i)[j]?)) : ce_E) else none) = _
      rw [hk i hi, hl i hi]
      rfl
    | (22, i) => rfl
    | (23, i) => rfl
    | (n + 24, i) => rfl
  · unfold aw_
    by_cases c : k.1 = 21
    · rw [if_pos c, if_pos c, hk k.2 (fun z => h2 (Prod.ext c z))]
    · rw [if_neg c, if_neg c]
/-- where a list's row lies -/
def le_ (gl : gl_T) (W : cw_W) (L : Nat) : Nat := if (cwk_ W L).1 = 0 then gl.1 else (cwk_ W L).2.2
theorem lp_of (h : CW gl fx ad W st) (hv : cwv_ W L = true) (hw : wf_ W) : lp_ gl st (ad (lk_ L)) (le_ gl W L) (cwk_ W L).1 (cwl_ W L) (cwk_ W L).2.1 := by
  obtain ⟨w1, w2, w3⟩ := hw L hv
  have hk := hk_L (gl := gl) (ad := ad) hv
  have ha := cv_at (ad := aw_ ad W) h hk
  rw [lk_a] at ha
  have hg := cv_gl (ad := aw_ ad W) h hk
  rw [lk_a] at hg
  refine ⟨ha, ?_, w1, by omega, ?_⟩
  · unfold le_
    split
    · exact hg
    · rename_i c
      have := cv_ne (ad := aw_ ad W) h hk (hk_21 hv (by omega)) lk_ne
      rw [lk_a] at this
      exact this
  · unfold le_
    by_cases c : (cwk_ W L).1 = 0
    · rw [if_pos c]
      exact Or.inl ⟨c, rfl⟩
    · rw [if_neg c]
      have h21 := hk_21 (gl := gl) (ad := ad) hv (show 0 < (cwk_ W L).1 by omega)
      exact Or.inr ⟨by omega, cv_gl (ad := aw_ ad W) h h21, cv_at (ad := aw_ ad W) h h21⟩
/-- a list changed in the store -/
theorem cw_list {xs : List Nat} {cap ea : Nat} {mc : Int32} {st' : st_S} (h : CW gl fx ad W st) (hv : cwv_ W L = true) (hlp : lp_ gl st' (ad (lk_ L)) ea cap xs mc) (hsw : sw_ st') (h2 : st.2 ≤ st'.2) (hfr : ∀ a, a ≠ ad (lk_ L) → a ≠ le_ gl W L → a < st.2 → st'.1 a = st.1 a)
    (hea : cap = 0 ∨ (ea = (cwk_ W L).2.2 ∧ 0 < (cwk_ W L).1) ∨ ea = st.2) : CW gl fx ad (cj_k (cj_l W L xs) L (cap, mc, ea)) st' := by
  have hk := hk_L (gl := gl) (ad := ad) hv
  have hla := cv_lt (ad := aw_ ad W) h hk
  rw [lk_a] at hla
  obtain ⟨h1, hin, h3, h7, h8, h9⟩ := h
  obtain ⟨p1, p2, p3, p4, p5⟩ := hlp
  have hv2 : cwv_ (cj_k (cj_l W L xs) L (cap, mc, ea)) L = true := hv
  have hkS : cwk_ (cj_k (cj_l W L xs) L (cap, mc, ea)) L = (cap, mc, ea) := va_up_self _ _ _
  have hlS : cwl_ (cj_k (cj_l W L xs) L (cap, mc, ea)) L = xs := va_up_self _ _ _
  have n1 := hl_n (gl := gl) (ad := ad) (W := W) (L := L) (xs := xs) (y := (cap, mc, ea))
  have hkL := hk_L (gl := gl) (ad := ad) hv2
  have c21 : ∀ c, hc_ gl ad (cj_k (cj_l W L xs) L (cap, mc, ea)) (21, L) = some c → 0 < cap ∧ c = .inr (.inl (9, cap, fun i => xs[i]?)) := fun c hc => by
    have hc2 : (if cwv_ W L = true ∧ 0 < (cwk_ (cj_k (cj_l W L xs) L (cap, mc, ea)) L).1 then some (.inr (.inl (9, (cwk_ (cj_k (cj_l W L xs) L (cap, mc, ea)) L).1, fun j => (cwl_ (cj_k (cj_l W L xs) L (cap, mc, ea)) L)[j]?))) else none) = some c := hc
    rw [hkS, hlS] at hc2
    split at hc2
    · rename_i z
      exact ⟨z.2, (Option.some.inj hc2).symm⟩
    · cases hc2
  have a21 : aw_ ad (cj_k (cj_l W L xs) L (cap, mc, ea)) (21, L) = ea := by
    show (cwk_ (cj_k (cj_l W L xs) L (cap, mc, ea)) L).2.2 = ea
    rw [hkS]
  have aL : aw_ ad (cj_k (cj_l W L xs) L (cap, mc, ea)) (lk_ L) = ad (lk_ L) := lk_a
  -- the others lie where they lay, apart from the list's cells
  have oth : ∀ k c, k ≠ lk_ L → k ≠ (21, L) → hc_ gl ad (cj_k (cj_l W L xs) L (cap, mc, ea)) k = some c → hc_ gl ad W k = some c ∧ aw_ ad (cj_k (cj_l W L xs) L (cap, mc, ea)) k = aw_ ad W k ∧ aw_ ad W k ≠ ad (lk_ L) ∧ aw_ ad W k ≠ le_ gl W L ∧ aw_ ad W k < st.2 ∧ (0 < cap → aw_ ad W k ≠ ea) := fun k c k1 k2 hc => by
    rw [(n1 k k1 k2).1] at hc
    have l1 : aw_ ad W k ≠ ad (lk_ L) := fun z => k1 (hin k (lk_ L) c _ hc hk (by rw [lk_a]; exact z))
    have l2 : aw_ ad W k < st.2 := sw_lt h3 (h1 k c hc)
    have l4 : 0 < (cwk_ W L).1 → aw_ ad W k ≠ (cwk_ W L).2.2 := fun z w => k2 (hin k (21, L) c _ hc (hk_21 hv z) w)
    refine ⟨hc, (n1 k k1 k2).2, l1, ?_, l2, fun z => ?_⟩
    · unfold le_
      split
      · exact fun w => h7 k c hc (by rw [w]; exact h9)
      · exact l4 (by omega)
    · rcases hea with w | w | w
      · omega
      · rw [w.1]
        exact l4 w.2
      · omega
  have hne : 0 < cap → ad (lk_ L) ≠ ea := fun _ => p2
  refine ⟨fun k c hc => ?_, fun k j c d hc hd hkj => ?_, hsw, fun k c hc => ?_, fun a ha => ⟨Nat.lt_of_lt_of_le (h8 a ha).1 h2, fun hg => ?_⟩, h9⟩
  · by_cases k1 : k = lk_ L
    · subst k1
      rw [aL, p1]
      rw [hkL] at hc
      cases hc
      unfold ho_
      rw [hkS, hlS]
      by_cases z : cap = 0
      · rw [if_pos z]
        rcases p5 with p5 | p5
        · rw [p5.2]
        · omega
      · rw [if_neg z]
    · by_cases k2 : k = (21, L)
      · subst k2
        obtain ⟨c1, rfl⟩ := c21 c hc
        rw [a21]
        rcases p5 with p5 | p5
        · omega
        · exact p5.2.2
      · obtain ⟨o1, o2, o3, o4, o5, o6⟩ := oth k c k1 k2 hc
        rw [o2, hfr _ o3 o4 o5]
        exact h1 k c o1
  · by_cases k1 : k = lk_ L
    · by_cases j1 : j = lk_ L
      · rw [k1, j1]
      · by_cases j2 : j = (21, L)
        · subst k1 j2
          obtain ⟨c1, -⟩ := c21 d hd
          rw [aL, a21] at hkj
          exact absurd hkj (hne c1)
        · obtain ⟨o1, o2, o3, -⟩ := oth j d j1 j2 hd
          subst k1
          rw [aL, o2] at hkj
          exact absurd hkj.symm o3
    · by_cases k2 : k = (21, L)
      · by_cases j1 : j = lk_ L
        · subst k2 j1
          obtain ⟨c1, -⟩ := c21 c hc
          rw [aL, a21] at hkj
          exact absurd hkj.symm (hne c1)
        · by_cases j2 : j = (21, L)
          · rw [k2, j2]
          · obtain ⟨o1, o2, o3, o4, o5, o6⟩ := oth j d j1 j2 hd
            subst k2
            obtain ⟨c1, -⟩ := c21 c hc
            rw [a21, o2] at hkj
            exact absurd hkj.symm (o6 c1)
      · obtain ⟨o1, o2, o3, o4, o5, o6⟩ := oth k c k1 k2 hc
        by_cases j1 : j = lk_ L
        · subst j1
          rw [aL, o2] at hkj
          exact absurd hkj o3
        · by_cases j2 : j = (21, L)
          · subst j2
            obtain ⟨c1, -⟩ := c21 d hd
            rw [a21, o2] at hkj
            exact absurd hkj (o6 c1)
          · obtain ⟨q1, q2, -⟩ := oth j d j1 j2 hd
            rw [o2, q2] at hkj
            exact hin k j c d o1 q1 hkj
  · by_cases k1 : k = lk_ L
    · subst k1
      rw [aL]
      have := h7 (lk_ L) _ hk
      rw [lk_a] at this
      exact this
    · by_cases k2 : k = (21, L)
      · subst k2
        obtain ⟨c1, -⟩ := c21 c hc
        rw [a21]
        intro z
        rcases hea with w | w | w
        · omega
        · exact h7 (21, L) _ (hk_21 hv w.2) (by show fx.1 (cwk_ W L).2.2; rw [← w.1]; exact z)
        · have := (h8 ea z).1
          omega
      · obtain ⟨o1, o2, -⟩ := oth k c k1 k2 hc
        rw [o2]
        exact h7 k c o1
  · have hn : a ≠ ad (lk_ L) := fun z => by
      have := h7 (lk_ L) _ hk
      rw [lk_a, ← z] at this
      exact this ha
    have hn2 : a ≠ le_ gl W L := fun z => by
      unfold le_ at z
      split at z
      · exact hg z
      · rename_i c
        exact h7 (21, L) _ (hk_21 hv (by omega)) (by show fx.1 (cwk_ W L).2.2; rw [← z]; exact ha)
    rw [hfr a hn hn2 (h8 a ha).1]
    exact (h8 a ha).2 hg
end CWL
