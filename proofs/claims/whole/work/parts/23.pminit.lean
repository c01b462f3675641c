/-! The reference's constructor: from a blank object to its first picture. -/
/-- which of the rows a field's row is -/
def ii_x (k : Nat) : Nat := mk_a.idxOf k
/-- the object's fields when j rows are made, the first at n0 -/
def ii_f (n0 j : Nat) : List Value := (List.range 36).map (fun k => if k ∈ mk_a then (if ii_x k < j then .ref (n0 + ii_x k) else .null) else .int 0)
def ii_s (st : st_S) (m0 j : Nat) : st_S := (fun a => if a = m0 then some (.inr (.inr (10, ii_f st.2 j))) else if st.2 ≤ a ∧ a < st.2 + j then some (.inl ((mr_ (mk_a.getD (a - st.2) 0)).1, (mr_ (mk_a.getD (a - st.2) 0)).2, fun _ => 0)) else st.1 a, st.2 + j)
theorem ii_set {n0 j k : Nat} (hk : mk_a[j]? = some k) : (ii_f n0 j).set k (.ref (n0 + j)) = ii_f n0 (j + 1) := by
  have hj : j < 27 := by
    have := (List.getElem?_eq_some_iff.mp hk).1
    exact this
  have k1 : ∀ j, j < 27 → mk_a.getD j 0 ∈ mk_a ∧ ii_x (mk_a.getD j 0) = j := by decide +kernel
  have k2 : ∀ i ∈ mk_a, mk_a.getD (ii_x i) 0 = i := by decide +kernel
  have hkg : mk_a.getD j 0 = k := by rw [List.getD_eq_getElem?_getD, hk]; rfl
  have hkj := k1 j hj
  rw [hkg] at hkj
  apply List.ext_getElem?
  intro i
  by_cases hi : i < 36
  · by_cases hik : i = k
    · subst hik
      obtain ⟨g4, g5⟩ := hkj
      rw [List.getElem?_set_self (by unfold ii_f; simp; exact hi)]
      unfold ii_f
      rw [List.getElem?_map, List.getElem?_range hi]
      simp [g4, g5]
    · rw [List.getElem?_set_ne (Ne.symm hik)]
      unfold ii_f
      rw [List.getElem?_map, List.getElem?_map, List.getElem?_range hi]
      by_cases hm : i ∈ mk_a
      · have hne : ii_x i ≠ j := fun z => hik (by rw [← k2 i hm, z]; exact hkg)
        by_cases hl : ii_x i < j
        · have hl2 : ii_x i < j + 1 := by omega
          show some (if i ∈ mk_a then (if ii_x i < j then _ else _) else _) = some (if i ∈ mk_a then (if ii_x i < j + 1 then _ else _) else _)
          rw [if_pos hm, if_pos hm, if_pos hl, if_pos hl2]
        · have hl2 : ¬ ii_x i < j + 1 := by omega
          show some (if i ∈ mk_a then (if ii_x i < j then _ else _) else _) = some (if i ∈ mk_a then (if ii_x i < j + 1 then _ else _) else _)
          rw [if_pos hm, if_pos hm, if_neg hl, if_neg hl2]
      · simp [hm]
  · rw [List.getElem?_eq_none (by unfold ii_f; simp; omega), List.getElem?_eq_none (by unfold ii_f; simp; omega)]
theorem ii_st {st : st_S} {m0 j k : Nat} (hm : m0 < st.2) (hk : mk_a[j]? = some k) : so_p (some m0) [10] k (va_rf (some (ii_s st m0 j).2)) (st_ad (ii_s st m0 j) (.inl ((mr_ k).1, (mr_ k).2, fun _ => 0))) = some (ii_s st m0 (j + 1)) := by
  have hk36 : ∀ k ∈ mk_a, k < 36 := mk_lt
  have e0 : (ii_s st m0 j).2 = st.2 + j := rfl
  have h1 : (st_ad (ii_s st m0 j) (.inl ((mr_ k).1, (mr_ k).2, fun _ => 0))).1 m0 = some (.inr (.inr (10, ii_f st.2 j))) := by
    rw [ad_n (by rw [e0]; omega)]
    show (if m0 = m0 then _ else _) = _
    rw [if_pos rfl]
  rw [og_p (v := va_rf (some (ii_s st m0 j).2)) h1 (by simp) (by unfold ii_f; simp; exact hk36 k (List.mem_of_getElem? hk))]
  congr 1
  refine Prod.ext ?_ rfl
  funext a
  show (if a = m0 then _ else (if a = (ii_s st m0 j).2 then _ else (ii_s st m0 j).1 a)) = (if a = m0 then _ else if st.2 ≤ a ∧ a < st.2 + (j + 1) then _ else st.1 a)
  rw [e0]
  by_cases ha : a = m0
  · rw [if_pos ha, if_pos ha]
    congr 4
    exact ii_set hk
  · rw [if_neg ha, if_neg ha]
    by_cases hb : a = st.2 + j
    · rw [if_pos hb, if_pos (by omega), hb, Nat.add_sub_cancel_left, List.getD_eq_getElem?_getD, hk]
      rfl
    · rw [if_neg hb]
      show (if a = m0 then _ else if st.2 ≤ a ∧ a < st.2 + j then _ else st.1 a) = _
      rw [if_neg ha]
      by_cases hc : st.2 ≤ a ∧ a < st.2 + j
      · rw [if_pos hc, if_pos (by omega)]
      · rw [if_neg hc, if_neg (by omega)]
/-- all rows made: the blank picture -/
theorem ii_mv {st : st_S} {m0 : Nat} (hm : m0 < st.2) : mv_ m0 (fun k => st.2 + ii_x k) (fun _ => 0, fun _ _ => 0) (ii_s st m0 27) := by
  have key : ∀ k ∈ mk_a, ii_x k < 27 ∧ mk_a.getD (ii_x k) 0 = k := by decide +kernel
  refine ⟨?_, fun k hk => ?_, fun k hk => by show st.2 + ii_x k ≠ m0; omega, fun k hk j hj e => ?_⟩
  · show (if m0 = m0 then _ else _) = _
    rw [if_pos rfl]
    congr 4
  · obtain ⟨h1, h2⟩ := key k hk
    show (if st.2 + ii_x k = m0 then _ else if st.2 ≤ st.2 + ii_x k ∧ st.2 + ii_x k < st.2 + 27 then _ else _) = _
    rw [if_neg (by omega), if_pos (by omega), Nat.add_sub_cancel_left, h2]
  · have e : st.2 + ii_x k = st.2 + ii_x j := e
    have e2 : ii_x k = ii_x j := by omega
    rw [← (key k hk).2, ← (key j hj).2, e2]
def pm_init_b263 (rec263 : Int32 → pm_M Unit) (p2 : Int32) : pm_M Unit :=
  pg_ (pi_ 0) fun t192 =>
  if t192 ≤ p2 then
  (pr_ ())
  else
  (pg_ (pi_ 1) fun t193 =>
  pw_ (pp_ 1 (t193 + (1 : Int32))) (
  pg_ (pi_ 1) fun t196 =>
  pw_ (ps_ 6 t196 ((p2.toInt8.toInt32).toInt8.toInt32)) (
  pg_ (pi_ 1) fun t199 =>
  pw_ (ps_ 11 t199 ((p2.toInt8.toInt32).toInt8.toInt32)) (
  rec263 (p2 + (1 : Int32))))))
/-- what the constructor does to the blank picture; v: the vats' number, put in its bounds -/
def pm_init (v : Int32) : pm_M Unit := pw_ (pp_ 0 v) (pt_ (fun rec263 => (fun x : Int32 => pm_init_b263 rec263 x)) fu_ (0 : Int32))
theorem kp_pm_init {m0 : Nat} {am : Nat → Nat} {gl : gl_T} (v : Int32) : pv_ m0 am (mm_init_b258 gl (some m0) v (some m0)) (pm_init v) := by
  unfold mm_init_b258 pm_init
  refine pv_w (mv_p (k := 0) (by decide) (by decide)) ?_
  refine pv_it (fun x : Int32 => ((some m0, x) : Option Nat × Int32)) ?_ fu_ 0
  intro sec rec hr x
  show pv_ m0 am (mm_init_b263 gl sec (some m0) x) (pm_init_b263 rec x)
  unfold mm_init_b263 pm_init_b263
  refine pv_g (mv_gi (k := 0) (by decide) (by decide)) (fun t => ?_)
  refine pv_if pv_r ?_
  refine pv_g (mv_gi (k := 1) (by decide) (by decide)) (fun t => ?_)
  refine pv_w (mv_p (k := 1) (by decide) (by decide)) ?_
  refine pv_k _ (mv_gq (k := 6) (by decide)) ?_
  refine pv_g (mv_gi (k := 1) (by decide) (by decide)) (fun t => ?_)
  refine pv_w (mv_si (k := 6) (by decide) rfl) ?_
  refine pv_k _ (mv_gq (k := 11) (by decide)) ?_
  refine pv_g (mv_gi (k := 1) (by decide) (by decide)) (fun t => ?_)
  refine pv_w (mv_si (k := 11) (by decide) rfl) ?_
  exact hr (x + 1)

set_option maxHeartbeats 4000000 in
set_option maxRecDepth 100000 in
/-- the whole constructor, at a blank object: 27 rows of 17976 places in all -/
theorem mi_run {gl : gl_T} {st : st_S} {m0 : Nat} {v : Int32} {M : ms_S} (hm : m0 < st.2) (h : st.1 m0 = some (.inr (.inr (10, cd_10)))) (hM : pm_init (if 2 ≤ v then (if v ≤ 4 then v else 4) else 2) (fun _ => 0, fun _ _ => 0) = some ((), M)) :
    ∃ st', mm_init gl (some m0) v st = some ((), st', 27, 17976) ∧ mv_ m0 (fun k => st.2 + ii_x k) M st' ∧ st'.2 = st.2 + 27 ∧ ∀ a, a ≠ m0 → a < st.2 ∨ st.2 + 27 ≤ a → st'.1 a = st.1 a := by
  obtain ⟨st', e1, e2, e3, e4⟩ := kp_pm_init (m0 := m0) (am := fun k => st.2 + ii_x k) (gl := gl) (if 2 ≤ v then (if v ≤ 4 then v else 4) else 2) _ _ (ii_mv hm) () M hM
  have key : ∀ k ∈ mk_a, ii_x k < 27 := by decide +kernel
  refine ⟨st', ?_, e2, e3.trans rfl, fun a ha hlt => ?_⟩
  · have hs0 : st = ii_s st m0 0 := by
      refine Prod.ext ?_ rfl
      funext a
      show _ = (if a = m0 then _ else if st.2 ≤ a ∧ a < st.2 + 0 then _ else st.1 a)
      by_cases ha : a = m0
      · rw [if_pos ha, ha, h]
        rfl
      · rw [if_neg ha, if_neg (by omega)]
    have hc0 : so_c (some m0) st = some 10 := og_c h
    rw [show mm_init gl (some m0) v st = mm_init gl (some m0) v (ii_s st m0 0) from congrArg _ hs0]
    rw [hs0] at hc0
    unfold mm_init
    refine ru_g _ hc0 ?_
    refine ru_g () (by rfl) ?_
    refine ru_n (i2 := 26) (j2 := 17968) ?_ (by decide) (by decide +kernel)
    refine ru_w (ii_s st m0 1) (ii_st (j := 0) (k := 3) hm rfl) ?_
    refine ru_g () (by rfl) ?_
    refine ru_n (i2 := 25) (j2 := 17904) ?_ (by decide) (by decide +kernel)
    refine ru_w (ii_s st m0 2) (ii_st (j := 1) (k := 4) hm rfl) ?_
    refine ru_g () (by rfl) ?_
    refine ru_n (i2 := 24) (j2 := 17840) ?_ (by decide) (by decide +kernel)
    refine ru_w (ii_s st m0 3) (ii_st (j := 2) (k := 5) hm rfl) ?_
    refine ru_g () (by rfl) ?_
    refine ru_n (i2 := 23) (j2 := 17639) ?_ (by decide) (by decide +kernel)
    refine ru_w (ii_s st m0 4) (ii_st (j := 3) (k := 6) hm rfl) ?_
    refine ru_g () (by rfl) ?_
    refine ru_n (i2 := 22) (j2 := 17438) ?_ (by decide) (by decide +kernel)
    refine ru_w (ii_s st m0 5) (ii_st (j := 4) (k := 7) hm rfl) ?_
    refine ru_g () (by rfl) ?_
    refine ru_n (i2 := 21) (j2 := 17237) ?_ (by decide) (by decide +kernel)
    refine ru_w (ii_s st m0 6) (ii_st (j := 5) (k := 8) hm rfl) ?_
    refine ru_g () (by rfl) ?_
    refine ru_n (i2 := 20) (j2 := 17036) ?_ (by decide) (by decide +kernel)
    refine ru_w (ii_s st m0 7) (ii_st (j := 6) (k := 9) hm rfl) ?_
    refine ru_g () (by rfl) ?_
    refine ru_n (i2 := 19) (j2 := 16835) ?_ (by decide) (by decide +kernel)
    refine ru_w (ii_s st m0 8) (ii_st (j := 7) (k := 10) hm rfl) ?_
    refine ru_g () (by rfl) ?_
    refine ru_n (i2 := 18) (j2 := 16774) ?_ (by decide) (by decide +kernel)
    refine ru_w (ii_s st m0 9) (ii_st (j := 8) (k := 11) hm rfl) ?_
    refine ru_g () (by rfl) ?_
    refine ru_n (i2 := 17) (j2 := 16713) ?_ (by decide) (by decide +kernel)
    refine ru_w (ii_s st m0 10) (ii_st (j := 9) (k := 12) hm rfl) ?_
    refine ru_g () (by rfl) ?_
    refine ru_n (i2 := 16) (j2 := 16469) ?_ (by decide) (by decide +kernel)
    refine ru_w (ii_s st m0 11) (ii_st (j := 10) (k := 13) hm rfl) ?_
    refine ru_g () (by rfl) ?_
    refine ru_n (i2 := 15) (j2 := 15665) ?_ (by decide) (by decide +kernel)
    refine ru_w (ii_s st m0 12) (ii_st (j := 11) (k := 15) hm rfl) ?_
    refine ru_g () (by rfl) ?_
    refine ru_n (i2 := 14) (j2 := 14861) ?_ (by decide) (by decide +kernel)
    refine ru_w (ii_s st m0 13) (ii_st (j := 12) (k := 16) hm rfl) ?_
    refine ru_g () (by rfl) ?_
    refine ru_n (i2 := 13) (j2 := 11645) ?_ (by decide) (by decide +kernel)
    refine ru_w (ii_s st m0 14) (ii_st (j := 13) (k := 17) hm rfl) ?_
    refine ru_g () (by rfl) ?_
    refine ru_n (i2 := 12) (j2 := 11445) ?_ (by decide) (by decide +kernel)
    refine ru_w (ii_s st m0 15) (ii_st (j := 14) (k := 19) hm rfl) ?_
    refine ru_g () (by rfl) ?_
    refine ru_n (i2 := 11) (j2 := 11245) ?_ (by decide) (by decide +kernel)
    refine ru_w (ii_s st m0 16) (ii_st (j := 15) (k := 20) hm rfl) ?_
    refine ru_g () (by rfl) ?_
    refine ru_n (i2 := 10) (j2 := 11045) ?_ (by decide) (by decide +kernel)
    refine ru_w (ii_s st m0 17) (ii_st (j := 16) (k := 21) hm rfl) ?_
    refine ru_g () (by rfl) ?_
    refine ru_n (i2 := 9) (j2 := 10845) ?_ (by decide) (by decide +kernel)
    refine ru_w (ii_s st m0 18) (ii_st (j := 17) (k := 22) hm rfl) ?_
    refine ru_g () (by rfl) ?_
    refine ru_n (i2 := 8) (j2 := 10645) ?_ (by decide) (by decide +kernel)
    refine ru_w (ii_s st m0 19) (ii_st (j := 18) (k := 23) hm rfl) ?_
    refine ru_g () (by rfl) ?_
    refine ru_n (i2 := 7) (j2 := 8545) ?_ (by decide) (by decide +kernel)
    refine ru_w (ii_s st m0 20) (ii_st (j := 19) (k := 25) hm rfl) ?_
    refine ru_g () (by rfl) ?_
    refine ru_n (i2 := 6) (j2 := 6445) ?_ (by decide) (by decide +kernel)
    refine ru_w (ii_s st m0 21) (ii_st (j := 20) (k := 26) hm rfl) ?_
    refine ru_g () (by rfl) ?_
    refine ru_n (i2 := 5) (j2 := 4345) ?_ (by decide) (by decide +kernel)
    refine ru_w (ii_s st m0 22) (ii_st (j := 21) (k := 27) hm rfl) ?_
    refine ru_g () (by rfl) ?_
    refine ru_n (i2 := 4) (j2 := 2245) ?_ (by decide) (by decide +kernel)
    refine ru_w (ii_s st m0 23) (ii_st (j := 22) (k := 28) hm rfl) ?_
    refine ru_g () (by rfl) ?_
    refine ru_n (i2 := 3) (j2 := 145) ?_ (by decide) (by decide +kernel)
    refine ru_w (ii_s st m0 24) (ii_st (j := 23) (k := 29) hm rfl) ?_
    refine ru_g () (by rfl) ?_
    refine ru_n (i2 := 2) (j2 := 44) ?_ (by decide) (by decide +kernel)
    refine ru_w (ii_s st m0 25) (ii_st (j := 24) (k := 31) hm rfl) ?_
    refine ru_g () (by rfl) ?_
    refine ru_n (i2 := 1) (j2 := 40) ?_ (by decide) (by decide +kernel)
    refine ru_w (ii_s st m0 26) (ii_st (j := 25) (k := 32) hm rfl) ?_
    refine ru_g () (by rfl) ?_
    refine ru_n (i2 := 0) (j2 := 0) ?_ (by decide) (by decide +kernel)
    refine ru_w (ii_s st m0 27) (ii_st (j := 26) (k := 33) hm rfl) ?_
    by_cases h2 : (2 : Int32) ≤ v
    · rw [if_pos h2] at e1
      refine ru_t h2 ?_
      by_cases h4 : v ≤ (4 : Int32)
      · rw [if_pos h4] at e1
        exact ru_t h4 e1
      · rw [if_neg h4] at e1
        exact ru_f h4 e1
    · rw [if_neg h2] at e1
      exact ru_f h2 e1
  · rw [e4 a ⟨ha, fun k hk => by have := key k hk; show a ≠ st.2 + ii_x k; omega⟩]
    show (if a = m0 then _ else if st.2 ≤ a ∧ a < st.2 + 27 then _ else st.1 a) = _
    rw [if_neg ha, if_neg (by omega)]
