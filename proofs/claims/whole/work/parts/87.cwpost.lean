/-! The class: numbers checked, its fixed cells read; a message is posted. -/
/-- the sum of the lists' capacities -/
def bk_ (W : cw_W) : Nat := ((List.range 201).map (fun L => if cwv_ W L = true then (cwk_ W L).1 else 0)).sum
section CWP
variable {gl : gl_T} {fx : fx_T} {ad : Nat × Nat → Nat} {W W' : cw_W} {st : st_S} {e a b s v L g u q : Nat}
theorem r0_m (h : CW gl fx ad W st) : so_cm (some (ad (0, 0))) [0] st = some 0 := og_m (at_0 h) (by simp)
theorem r0_0 (h : CW gl fx ad W st) : so_gq (some (ad (0, 0))) [0] 0 st = some (some (ad (1, 0))) := og_q (q := some (ad (1, 0))) (at_0 h) (by simp) rfl
theorem r0_1 (h : CW gl fx ad W st) : so_gq (some (ad (0, 0))) [0] 1 st = some (some (ad (2, 0))) := og_q (q := some (ad (2, 0))) (at_0 h) (by simp) rfl
theorem r0_2 (h : CW gl fx ad W st) : so_gq (some (ad (0, 0))) [0] 2 st = some (some (ad (3, 0))) := og_q (q := some (ad (3, 0))) (at_0 h) (by simp) rfl
theorem r0_3 (h : CW gl fx ad W st) : so_gi (some (ad (0, 0))) [0] 3 st = some (nI (cwo_ W)) := og_i (at_0 h) (by simp) rfl
theorem r0_4 (h : CW gl fx ad W st) : so_gi (some (ad (0, 0))) [0] 4 st = some (nI (cwp_ W)) := og_i (at_0 h) (by simp) rfl
theorem r0_5 (h : CW gl fx ad W st) : so_gq (some (ad (0, 0))) [0] 5 st = some (some (ad (4, 0))) := og_q (q := some (ad (4, 0))) (at_0 h) (by simp) rfl
theorem r0_6 (h : CW gl fx ad W st) : so_gq (some (ad (0, 0))) [0] 6 st = some (some (ad (5, 0))) := og_q (q := some (ad (5, 0))) (at_0 h) (by simp) rfl
theorem r0_7 (h : CW gl fx ad W st) : so_gi (some (ad (0, 0))) [0] 7 st = some (cwL_ W).1 := og_i (at_0 h) (by simp) rfl
theorem r0_8 (h : CW gl fx ad W st) : so_gq (some (ad (0, 0))) [0] 8 st = some (some (ad (6, 0))) := og_q (q := some (ad (6, 0))) (at_0 h) (by simp) rfl
theorem r0_9 (h : CW gl fx ad W st) : so_gi (some (ad (0, 0))) [0] 9 st = some (cwF_ W).1 := og_i (at_0 h) (by simp) rfl
theorem r1_l (h : CW gl fx ad W st) (hv : v < cwn_ W) (h4 : cwn_ W ≤ 4) : so_lq (some (ad (1, 0))) [4] (nI v) st = some (some (ad (7, v))) := by
  rw [og_lq (at_1 h) (by simp) hv (by omega), if_pos hv]
theorem r1_n (h : CW gl fx ad W st) : so_n (some (ad (1, 0))) [4] st = some (nI (cwn_ W)) := og_n (at_1 h) (by simp)
theorem r3_n (h : CW gl fx ad W st) : so_n (some (ad (3, 0))) [6] st = some (nI 201) := og_n (at_3 h) (by simp)
theorem r3_l (h : CW gl fx ad W st) (he : e < 201) : so_lq (some (ad (3, 0))) [6] (nI e) st = some (if cwd_ W e = true then some (ad (16, e)) else none) := og_lq (at_3 h) (by simp) he (by decide)
theorem r7_0 (h : CW gl fx ad W st) (hv : v < cwn_ W) (h4 : cwn_ W ≤ 4) : so_gq (some (ad (7, v))) [5] 0 st = some (some (ad (16, v + 1))) := og_q (q := some (ad (16, v + 1))) (at_7 h ⟨hv, by omega⟩) (by simp) rfl
theorem r7_1 (h : CW gl fx ad W st) (hv : v < cwn_ W) (h4 : cwn_ W ≤ 4) : so_gq (some (ad (7, v))) [5] 1 st = some (some (ad (lk_ v))) := by
  rw [lk_v (by omega)]
  exact og_q (q := some (ad (8, v))) (at_7 h ⟨hv, by omega⟩) (by simp) rfl
theorem r7_2 (h : CW gl fx ad W st) (hv : v < cwn_ W) (h4 : cwn_ W ≤ 4) : so_gq (some (ad (7, v))) [5] 2 st = some (some (ad (9, v))) := og_q (q := some (ad (9, v))) (at_7 h ⟨hv, by omega⟩) (by simp) rfl
theorem r7_3 (h : CW gl fx ad W st) (hv : v < cwn_ W) (h4 : cwn_ W ≤ 4) : so_gq (some (ad (7, v))) [5] 3 st = some (some (ad (10, v))) := og_q (q := some (ad (10, v))) (at_7 h ⟨hv, by omega⟩) (by simp) rfl
theorem r7_4 (h : CW gl fx ad W st) (hv : v < cwn_ W) (h4 : cwn_ W ≤ 4) : so_gi (some (ad (7, v))) [5] 4 st = some (nI (cwt_ W v).length) := og_i (at_7 h ⟨hv, by omega⟩) (by simp) rfl
theorem r9_l (h : CW gl fx ad W st) (hv : v < cwn_ W) (hb : b < cwn_ W) (h4 : cwn_ W ≤ 4) : so_lq (some (ad (9, v))) [8] (nI b) st = some (some (ad (11, 4 * v + b))) := by
  rw [og_lq (at_9 h ⟨hv, by omega⟩) (by simp) hb (by omega), if_pos hb]
theorem r11 (h : CW gl fx ad W st) (hv : v < cwn_ W) (hb : b < cwn_ W) (h4 : cwn_ W ≤ 4) : so_gq (some (ad (11, 4 * v + b))) [7] 0 st = some (some (ad (lk_ (4 + (4 * v + b))))) := by
  rw [lk_c (by omega) (by omega)]
  exact og_q (q := some (ad (12, 4 * v + b))) (at_11 h ⟨by omega, by omega, by omega⟩) (by simp) rfl
theorem cwv_v (hv : v < cwn_ W) (h4 : cwn_ W ≤ 4) : cwv_ W v = true := cwv_m (Or.inl ⟨hv, by omega⟩)
theorem cwv_h (hv : v < cwn_ W) (hb : b < cwn_ W) (h4 : cwn_ W ≤ 4) : cwv_ W (4 + (4 * v + b)) = true := cwv_m (Or.inr (Or.inl ⟨by omega, by omega, by omega, by omega⟩))
theorem cwv_p (he : 100 < e) (hd : cwd_ W e = true) : cwv_ W e = true := cwv_m (Or.inr (Or.inr ⟨he, hd⟩))
/-- what adding to a list leaves -/
def wad_ (W W' : cw_W) (L q : Nat) : Prop := ∃ cap' ea', W' = cj_k (cj_l W L (cwl_ W L ++ [q])) L (cap', (cwk_ W L).2.1 + 1, ea') ∧ (cwl_ W L).length + 1 ≤ cap' ∧ (cap' = (cwk_ W L).1 ∨ (cwl_ W L).length = (cwk_ W L).1 ∧ cap' = if (cwk_ W L).1 = 0 then 10 else (cwk_ W L).1 + max 1 ((cwk_ W L).1 / 2))
theorem sum_up {f : Nat → Nat} {k : Nat} {x : Nat} : ∀ (l : List Nat), l.Nodup → k ∈ l → (l.map (va_up f k x)).sum + f k = (l.map f).sum + x
  | [], _, h => by cases h
  | y :: l, hn, h => by
    have hn2 := List.nodup_cons.mp hn
    rw [List.map_cons, List.map_cons, List.sum_cons, List.sum_cons]
    by_cases c : y = k
    · subst c
      rw [va_up_self]
      have : l.map (va_up f y x) = l.map f := List.map_congr_left (fun z hz => va_up_ne _ _ (fun w => hn2.1 (by rw [← w]; exact hz)))
      rw [this]
      omega
    · rw [va_up_ne _ _ c]
      have := sum_up (f := f) (k := k) (x := x) l hn2.2 ((List.mem_cons.mp h).resolve_left (fun w => c w.symm))
      omega
theorem bk_k {y : Nat × Int32 × Nat} {xs : List Nat} (hv : cwv_ W L = true) (hL : L < 201) : bk_ (cj_k (cj_l W L xs) L y) + (cwk_ W L).1 = bk_ W + y.1 := by
  unfold bk_
  have e1 : (fun i => if cwv_ (cj_k (cj_l W L xs) L y) i = true then (cwk_ (cj_k (cj_l W L xs) L y) i).1 else 0) = va_up (fun i => if cwv_ W i = true then (cwk_ W i).1 else 0) L y.1 := by
    funext i
    show (if cwv_ W i = true then (va_up (cwk_ W) L y i).1 else 0) = _
    unfold va_up
    by_cases c : i = L
    · rw [if_pos c, if_pos c, if_pos (by rw [c]; exact hv)]
    · rw [if_neg c, if_neg c]
  rw [e1]
  have := sum_up (f := fun i => if cwv_ W i = true then (cwk_ W i).1 else 0) (k := L) (x := y.1) (List.range 201) List.nodup_range (List.mem_range.mpr hL)
  rw [if_pos hv] at this
  exact this
theorem cwv_lt (hv : cwv_ W L = true) (hd : ∀ e, cwd_ W e = true → e ≤ 200) : L < 201 := by
  rcases cwv_c hv with h | h | h
  · omega
  · omega
  · have := hd L h.2
    omega
/-- adding: what it costs is paid by the capacities -/
theorem cu_addw (h : CW gl fx ad W st) (hv : cwv_ W L = true) (hw : wf_ W) (hd : ∀ e, cwd_ W e = true → e ≤ 200) (hq : cwC_ W q ≠ none ∨ cwM_ W q ≠ none) : ∃ st' W' i j, al_add1 gl (some (ad (lk_ L))) (some q) st = some (1, st', i, j) ∧ CW gl fx ad W' st' ∧ wad_ W W' L q ∧ i + bk_ W ≤ bk_ W' ∧ j + 4 * bk_ W ≤ 4 * bk_ W' ∧ st.2 ≤ st'.2 := by
  obtain ⟨st', cap', ea', i, j, a1, a2, a3, a4, a5, a6⟩ := cu_add h hv hw hq
  have hw1 := (hw L hv).1
  have hbk := bk_k (W := W) (y := (cap', (cwk_ W L).2.1 + 1, ea')) (xs := cwl_ W L ++ [q]) hv (cwv_lt hv hd)
  refine ⟨st', _, i, j, a1, a2, ⟨cap', ea', rfl, a4, ?_⟩, ?_, ?_, a6⟩
  · by_cases c : (cwl_ W L).length < (cwk_ W L).1
    · exact Or.inl (a5 c)
    · rcases a3 with d | d
      · exact Or.inl d.2.2
      · exact Or.inr ⟨by omega, d.2.2⟩
  · rcases a3 with d | d
    · rw [d.1]
      have := d.2.2
      omega
    · have h3 := d.2.2
      split at h3 <;> omega
  · rcases a3 with d | d
    · rw [d.2.1]
      have := d.2.2
      omega
    · have h3 := d.2.2
      have h4 := d.2.1
      split at h3 <;> omega
/-- a message object of this address is posted -/
theorem xP_post_ok (h : CW gl fx ad W st) (hw : wf_ W) (hd : ∀ e, cwd_ W e = true → e ≤ 200) (ha : a < cwn_ W) (hb : b < cwn_ W) (h4 : cwn_ W ≤ 4) (hq : cwM_ W q ≠ none) :
    ∃ st' W' i j, xP_post gl (some (ad (0, 0))) (nI a) (nI b) (some q) st = some ((), st', i, j) ∧ CW gl fx ad W' st' ∧ wad_ W W' (4 + (4 * a + b)) q ∧ i + bk_ W ≤ bk_ W' ∧ j + 4 * bk_ W ≤ 4 * bk_ W' ∧ st.2 ≤ st'.2 := by
  have hv := cwv_h ha hb h4
  obtain ⟨st', W', i, j, a1, a2, a3, a4, a5, a6⟩ := cu_addw h hv hw hd (Or.inr hq)
  refine ⟨st', W', i, j, ?_, a2, a3, a4, a5, a6⟩
  unfold xP_post
  refine ru_g _ (r0_0 h) ?_
  refine ru_g _ (r1_l h ha h4) ?_
  refine ru_g _ (r7_2 h ha h4) ?_
  refine ru_g _ (r9_l h ha hb h4) ?_
  refine ru_g _ (r11 h ha hb h4) ?_
  refine ru_g _ (cu_lm h hv) ?_
  exact ru_b a1 rfl rfl rfl
end CWP
