/-! The class's heap: what its lists' methods do. -/
section CWM
variable {gl : gl_T} {fx : fx_T} {ad : Nat × Nat → Nat} {W : cw_W} {st : st_S} {e b s v L g u q : Nat}
theorem el_is (h : CW gl fx ad W st) {a : Nat} (ha : cwC_ W a ≠ none ∨ cwM_ W a ≠ none) : so_is st (some a) [8, 9] = true := by
  rcases ha with ha | ha
  · obtain ⟨c, hc⟩ := Option.ne_none_iff_exists'.mp ha
    exact og_is (cv_at (ad := aw_ ad W) h (hk_22 hc)) (by simp)
  · obtain ⟨c, hc⟩ := Option.ne_none_iff_exists'.mp ha
    exact og_is (cv_at (ad := aw_ ad W) h (hk_23 hc)) (by simp)
theorem le_old (h : 0 < (cwk_ W L).1) : le_ gl W L = (cwk_ W L).2.2 := if_neg (by omega)
/-- what a list's growth costs: cells and slots -/
def gr_ (cap cap' i j : Nat) : Prop := (i = 0 ∧ j = 0 ∧ cap' = cap) ∨ (i = 1 ∧ j = cap' ∧ cap' = if cap = 0 then 10 else cap + max 1 (cap / 2))
theorem cu_add (h : CW gl fx ad W st) (hv : cwv_ W L = true) (hw : wf_ W) (hq : cwC_ W q ≠ none ∨ cwM_ W q ≠ none) : ∃ st' cap' ea' i j, al_add1 gl (some (ad (lk_ L))) (some q) st = some (1, st', i, j) ∧ CW gl fx ad (cj_k (cj_l W L (cwl_ W L ++ [q])) L (cap', (cwk_ W L).2.1 + 1, ea')) st' ∧ gr_ (cwk_ W L).1 cap' i j ∧ (cwl_ W L).length + 1 ≤ cap' ∧ ((cwl_ W L).length < (cwk_ W L).1 → cap' = (cwk_ W L).1) ∧ st.2 ≤ st'.2 := by
  obtain ⟨w1, w2, w3⟩ := hw L hv
  obtain ⟨st', ea', cap', i, j, a1, a2, a3, a4, a5⟩ := li_add h.2.2.1 (cv_gl2 h) (lp_of h hv hw) (el_is h hq) (fun x hx => el_is h (w3 x hx)) (by omega)
  have hlen := a2.2.2.1
  rw [List.length_append, List.length_singleton] at hlen
  refine ⟨st', cap', ea', i, j, a1, ?_, ?_, hlen, ?_, ?_⟩
  · refine cw_list h hv a2 a3 ?_ a4 ?_
    · rcases a5 with c | c <;> omega
    · rcases a5 with c | c
      · exact Or.inr (Or.inl ⟨by rw [c.2.2.2.1, le_old (by omega)], by omega⟩)
      · exact Or.inr (Or.inr c.2.2.2.1)
  · rcases a5 with c | c
    · exact Or.inl ⟨c.1, c.2.1, c.2.2.2.2.1⟩
    · exact Or.inr ⟨c.1, c.2.1, c.2.2.2.2.2.1⟩
  · intro z
    rcases a5 with c | c
    · exact c.2.2.2.2.1
    · omega
  · rcases a5 with c | c <;> omega
theorem cu_rem (h : CW gl fx ad W st) (hv : cwv_ W L = true) (hw : wf_ W) {x : Nat} {t : List Nat} (hl : cwl_ W L = x :: t) : ∃ st', al_remove gl (some (ad (lk_ L))) (nI 0) st = some (some x, st', 0, 0) ∧ CW gl fx ad (cj_k (cj_l W L t) L ((cwk_ W L).1, (cwk_ W L).2.1 + 1, (cwk_ W L).2.2)) st' ∧ st'.2 = st.2 := by
  obtain ⟨w1, w2, w3⟩ := hw L hv
  have hlp := lp_of h hv hw
  rw [hl] at hlp w1 w3
  have hcap : 0 < (cwk_ W L).1 := by
    rw [List.length_cons] at w1
    omega
  have hlk := cv_at (ad := aw_ ad W) h (hk_L (gl := gl) (ad := ad) hv)
  rw [lk_a] at hlk
  obtain ⟨st', a1, a2, a3, a4⟩ := li_remove hlp (fun y hy => el_is h (w3 y (List.mem_cons_of_mem _ hy))) (fun y hy z => by
    have := so_is_some (el_is h (w3 y (List.mem_cons_of_mem _ hy)))
    obtain ⟨ci, fs, h6, h7⟩ := this
    rw [z, hlk] at h6
    unfold ho_ at h6
    cases h6
    simp at h7)
  rw [le_old hcap] at a2 a4
  refine ⟨st', a1, cw_list h hv a2 ?_ (by omega) (fun a b c _ => a4 a b (by rw [le_old hcap] at c; exact c)) (Or.inr (Or.inl ⟨rfl, hcap⟩)), a3⟩
  intro a ha
  have h1 : a ≠ ad (lk_ L) := fun z => by
    have := sw_lt h.2.2.1 hlk
    omega
  have h2 : a ≠ (cwk_ W L).2.2 := fun z => by
    have := cv_lt (ad := aw_ ad W) h (hk_21 (gl := gl) (ad := ad) hv hcap)
    have : (cwk_ W L).2.2 < st.2 := this
    omega
  rw [a4 a h1 h2]
  exact h.2.2.1 a (by omega)
theorem cu_clear (h : CW gl fx ad W st) (hv : cwv_ W L = true) (hw : wf_ W) (hn : (cwl_ W L).length < 4000) : ∃ st' ea', al_clear gl (some (ad (lk_ L))) st = some ((), st', 0, 0) ∧ CW gl fx ad (cj_k (cj_l W L []) L ((cwk_ W L).1, (cwk_ W L).2.1 + 1, ea')) st' ∧ st'.2 = st.2 := by
  have hlp := lp_of h hv hw
  have hlk := cv_at (ad := aw_ ad W) h (hk_L (gl := gl) (ad := ad) hv)
  rw [lk_a] at hlk
  obtain ⟨st', a1, a2, a3, a4⟩ := li_clear hlp hn
  have hel : le_ gl W L < st.2 := by
    unfold le_
    split
    · exact cv_gl2 h
    · exact cv_lt (ad := aw_ ad W) h (hk_21 (gl := gl) (ad := ad) hv (by omega))
  have hsw : sw_ st' := by
    intro a ha
    have h1 : a ≠ ad (lk_ L) := fun z => by
      have := sw_lt h.2.2.1 hlk
      omega
    rw [a4 a h1 (by omega)]
    exact h.2.2.1 a (by omega)
  refine ⟨st', le_ gl W L, a1, cw_list h hv a2 hsw (by omega) (fun a b c _ => a4 a b c) ?_, a3⟩
  by_cases hcap : (cwk_ W L).1 = 0
  · exact Or.inl hcap
  · exact Or.inr (Or.inl ⟨le_old (by omega), by omega⟩)
theorem cu_size (h : CW gl fx ad W st) (hv : cwv_ W L = true) (hw : wf_ W) : al_size gl (some (ad (lk_ L))) st = some (nI (cwl_ W L).length, st, 0, 0) := li_size (lp_of h hv hw)
theorem cu_empty (h : CW gl fx ad W st) (hv : cwv_ W L = true) (hw : wf_ W) : al_isEmpty gl (some (ad (lk_ L))) st = some (if cwl_ W L = [] then 1 else 0, st, 0, 0) := li_empty (lp_of h hv hw)
theorem cu_get (h : CW gl fx ad W st) (hv : cwv_ W L = true) (hw : wf_ W) {i : Nat} (hi : i < (cwl_ W L).length) : al_get gl (some (ad (lk_ L))) (nI i) st = some ((cwl_ W L)[i]?, st, 0, 0) := li_get (lp_of h hv hw) hi
/-- a list's object is a list -/
theorem cu_lm (h : CW gl fx ad W st) (hv : cwv_ W L = true) : so_cm (some (ad (lk_ L))) [6] st = some 6 := by
  have hlk := cv_at (ad := aw_ ad W) h (hk_L (gl := gl) (ad := ad) hv)
  rw [lk_a] at hlk
  exact og_m hlk (by simp)
theorem lk_v (hv : v < 4) : lk_ v = (8, v) := if_pos hv
theorem lk_c (hv : v < 4) (hb : b < 4) : lk_ (4 + (4 * v + b)) = (12, 4 * v + b) := by
  unfold lk_
  rw [if_neg (by omega), if_pos (by omega), show 4 + (4 * v + b) - 4 = 4 * v + b by omega]
theorem lk_p (he : 100 < e) : lk_ e = (20, e) := by
  unfold lk_
  rw [if_neg (by omega), if_neg (by omega)]
/-! calls and messages -/
theorem hC_n {a : Nat} {c : Option (Nat × Int32 × Nat × Nat)} : ∀ (k : Nat × Nat), k ≠ (22, a) → hc_ gl ad (cj_C W a c) k = hc_ gl ad W k
  | (0, i), _ => rfl
  | (1, i), _ => rfl
  | (2, i), _ => rfl
  | (3, i), _ => rfl
  | (4, i), _ => rfl
  | (5, i), _ => rfl
  | (6, i), _ => rfl
  | (7, i), _ => rfl
  | (8, i), _ => rfl
  | (9, i), _ => rfl
  | (10, i), _ => rfl
  | (11, i), _ => rfl
  | (12, i), _ => rfl
  | (13, i), _ => rfl
  | (14, i), _ => rfl
  | (15, i), _ => rfl
  | (16, i), _ => rfl
  | (17, i), _ => rfl
  | (18, i), _ => rfl
  | (19, i), _ => rfl
  | (20, i), _ => rfl
  | (21, i), _ => rfl
  | (22, i), h => by
    have hi : i ≠ a := fun z => h (by rw [z])
    show (cwC_ (cj_C W a c) i).map _ = (cwC_ W i).map _
    rw [show cwC_ (cj_C W a c) i = cwC_ W i from va_up_ne _ _ hi]
  | (23, i), _ => rfl
  | (n + 24, i), _ => rfl
theorem hM_n {a : Nat} {c : Option (Nat × Nat × Nat × Int32 × Option Nat)} : ∀ (k : Nat × Nat), k ≠ (23, a) → hc_ gl ad (cj_M W a c) k = hc_ gl ad W k
  | (0, i), _ => rfl
  | (1, i), _ => rfl
  | (2, i), _ => rfl
  | (3, i), _ => rfl
  | (4, i), _ => rfl
  | (5, i), _ => rfl
  | (6, i), _ => rfl
  | (7, i), _ => rfl
  | (8, i), _ => rfl
  | (9, i), _ => rfl
  | (10, i), _ => rfl
  | (11, i), _ => rfl
  | (12, i), _ => rfl
  | (13, i), _ => rfl
  | (14, i), _ => rfl
  | (15, i), _ => rfl
  | (16, i), _ => rfl
  | (17, i), _ => rfl
  | (18, i), _ => rfl
  | (19, i), _ => rfl
  | (20, i), _ => rfl
  | (21, i), _ => rfl
  | (22, i), _ => rfl
  | (23, i), h => by
    have hi : i ≠ a := fun z => h (by rw [z])
    show (cwM_ (cj_M W a c) i).map _ = (cwM_ W i).map _
    rw [show cwM_ (cj_M W a c) i = cwM_ W i from va_up_ne _ _ hi]
  | (n + 24, i), _ => rfl
theorem hu_C {a : Nat} {c : Nat × Int32 × Nat × Nat} : hc_ gl ad (cj_C W a (some c)) = ku_ (hc_ gl ad W) (22, a) (.inr (.inr (8, [va_rf (rf_ ad c.1), .int c.2.1, va_rf (rf_ ad c.2.2.1), va_rf (rf_ ad c.2.2.2)]))) := by
  funext k
  by_cases hk : k = (22, a)
  · subst hk
    rw [ku_s]
    exact hk_22 (va_up_self _ _ _)
  · rw [ku_n hk]
    exact hC_n k hk
theorem hu_M {a : Nat} {m : Nat × Nat × Nat × Int32 × Option Nat} : hc_ gl ad (cj_M W a (some m)) = ku_ (hc_ gl ad W) (23, a) (.inr (.inr (9, [.int (nI m.1), va_rf (rf_ ad m.2.1), va_rf (rf_ ad m.2.2.1), .int m.2.2.2.1, va_rf m.2.2.2.2]))) := by
  funext k
  by_cases hk : k = (23, a)
  · subst hk
    rw [ku_s]
    exact hk_23 (va_up_self _ _ _)
  · rw [ku_n hk]
    exact hM_n k hk
/-- no call or message lies where nothing lies yet -/
theorem new_C (h : CW gl fx ad W st) : cwC_ W st.2 = none := by
  cases hc : cwC_ W st.2 with
  | none => rfl
  | some c =>
    have := cv_lt (ad := aw_ ad W) h (hk_22 (gl := gl) (ad := ad) hc)
    have : st.2 < st.2 := this
    omega
theorem new_M (h : CW gl fx ad W st) : cwM_ W st.2 = none := by
  cases hc : cwM_ W st.2 with
  | none => rfl
  | some c =>
    have := cv_lt (ad := aw_ ad W) h (hk_23 (gl := gl) (ad := ad) hc)
    have : st.2 < st.2 := this
    omega
/-- a call's target changed -/
theorem cu_C (h : CW gl fx ad W st) {a : Nat} {c : Nat × Int32 × Nat × Nat} (hc : cwC_ W a = some c) : ∃ st', so_p (some a) [8] 0 (va_rf (rf_ ad u)) st = some st' ∧ CW gl fx ad (cj_C W a (some (u, c.2))) st' ∧ st'.2 = st.2 := by
  refine ⟨_, og_p (cv_at (ad := aw_ ad W) h (hk_22 hc)) (by simp) (by simp), ?_, rfl⟩
  unfold CW
  rw [hu_C]
  exact cv_up (ad := aw_ ad W) h (hk_22 hc)
end CWM
