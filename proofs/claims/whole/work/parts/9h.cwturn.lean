/-! The class: the turn's own object, and outputs. -/
section CTU
variable {gl : gl_T} {fx : fx_T} {ad : Nat × Nat → Nat} {W W' : cw_W} {st st' : st_S} {Z X : zz_S} {e a b s v L g u q t h p w ref c n f o r : Nat} {x op k : Int32} {lost l : List Nat} {y : Nat × Int32 × Nat × Int32} {ys : List Int32}
theorem hT_n : ∀ (k : Nat × Nat), k ≠ (4, 0) → hc_ gl ad (cj_T W y) k = hc_ gl ad W k
  | (0, i), _ => rfl
  | (1, i), _ => rfl
  | (2, i), _ => rfl
  | (3, i), _ => rfl
  | (4, i), h => by
    have hi : i ≠ 0 := fun z => h (by rw [z])
    show (if i = 0 then _ else none) = (if i = 0 then _ else none)
    rw [if_neg hi, if_neg hi]
  | (5, i), _ => rfl
  | (6, i), _ => rfl
  | (7, i), _ => rfl
  | (8, i), _ => rfl
  | (9, i), _ => rfl
  | (10, i), _ => rfl
  | (11, i), _ => rfl
  | (12, i), _ => rfl
  | (13, i), _ => rfl
  | (14, i), _ => rfl
  | (15, i), _ => rfl
  | (16, i), _ => rfl
  | (17, i), _ => rfl
  | (18, i), _ => rfl
  | (19, i), _ => rfl
  | (20, i), _ => rfl
  | (21, i), _ => rfl
  | (22, i), _ => rfl
  | (23, i), _ => rfl
  | (n + 24, i), _ => rfl
theorem cu_T (h : CW gl fx ad W st) : CW gl fx ad (cj_T W y) (st_up st (ad (4, 0)) (.inr (.inr (1, [va_rf (rf_ ad y.1), .int y.2.1, va_rf (rf_ ad y.2.2.1), .int y.2.2.2])))) := by
  have := cv_up (ad := aw_ ad W) (c := .inr (.inr (1, [va_rf (rf_ ad y.1), .int y.2.1, va_rf (rf_ ad y.2.2.1), .int y.2.2.2]))) h hk_4
  refine cv_sub (ad := aw_ ad W) this (fun k c hc => ?_)
  by_cases h0 : k = (4, 0)
  · rw [h0, ku_s]
    rw [h0, hk_4] at hc
    exact hc
  · rw [ku_n h0]
    rw [hT_n k h0] at hc
    exact hc
theorem RW_T (h : RW Z W s) : RW Z (cj_T W y) s := by
  obtain ⟨h1, h2, h3, h4, h5, h6, h7, h8⟩ := h
  exact ⟨h1, h2, h3, h4, h5, h6, h7, h8⟩
theorem cT_cT {y2 : Nat × Int32 × Nat × Int32} : cj_T (cj_T W y) y2 = cj_T W y2 := rfl
/-- the turn's fields are written -/
theorem cu_T0 (h : CW gl fx ad W st) : ∃ st', so_p (some (ad (4, 0))) [1] 0 (va_rf (rf_ ad u)) st = some st' ∧ CW gl fx ad (cj_T W (u, (cwT_ W).2)) st' := ⟨_, og_p (at_4 h) (by simp) (by simp), cu_T (y := (u, (cwT_ W).2)) h⟩
theorem cu_T1 (h : CW gl fx ad W st) : ∃ st', so_p (some (ad (4, 0))) [1] 1 (.int x) st = some st' ∧ CW gl fx ad (cj_T W ((cwT_ W).1, x, (cwT_ W).2.2)) st' := ⟨_, og_p (at_4 h) (by simp) (by simp), cu_T (y := ((cwT_ W).1, x, (cwT_ W).2.2)) h⟩
theorem cu_T2 (h : CW gl fx ad W st) : ∃ st', so_p (some (ad (4, 0))) [1] 2 (va_rf (rf_ ad u)) st = some st' ∧ CW gl fx ad (cj_T W ((cwT_ W).1, (cwT_ W).2.1, u, (cwT_ W).2.2.2)) st' := ⟨_, og_p (at_4 h) (by simp) (by simp), cu_T (y := ((cwT_ W).1, (cwT_ W).2.1, u, (cwT_ W).2.2.2)) h⟩
theorem cu_T3 (h : CW gl fx ad W st) : ∃ st', so_p (some (ad (4, 0))) [1] 3 (.int x) st = some st' ∧ CW gl fx ad (cj_T W ((cwT_ W).1, (cwT_ W).2.1, (cwT_ W).2.2.1, x)) st' := ⟨_, og_p (at_4 h) (by simp) (by simp), cu_T (y := ((cwT_ W).1, (cwT_ W).2.1, (cwT_ W).2.2.1, x)) h⟩
theorem xT_begin_ok (h : CW gl fx ad W st) {c : Nat × Int32 × Nat × Nat} (hc : cwC_ W a = some c) : ∃ st', xT_begin gl (some (ad (4, 0))) (rf_ ad u) (some a) st = some ((), st', 0, 0) ∧ CW gl fx ad (cj_T W (u, c.2.1, c.2.2.1, 0)) st' := by
  obtain ⟨st1, a1, a2⟩ := cu_T0 (u := u) h
  obtain ⟨st2, b1, b2⟩ := cu_T1 (x := c.2.1) a2
  obtain ⟨st3, c1, c2⟩ := cu_T2 (u := c.2.2.1) b2
  obtain ⟨st4, d1, d2⟩ := cu_T3 (x := 0) c2
  refine ⟨st4, ?_, d2⟩
  unfold xT_begin
  refine ru_w _ a1 ?_
  refine ru_g _ (rC_1 a2 (show cwC_ (cj_T W (u, (cwT_ W).2)) a = some c from hc)) ?_
  refine ru_w _ b1 ?_
  refine ru_g _ (og_q (q := rf_ ad c.2.2.1) (rd_C b2 (show cwC_ _ a = some c from hc)) (by simp) rfl) ?_
  refine ru_w _ c1 ?_
  exact ru_w _ d1 rfl
/-! outputs -/
theorem cwt_s : cwt_ (cj_t W v ys) v = ys := va_up_self _ _ _
theorem cwt_n (h : e ≠ v) : cwt_ (cj_t W v ys) e = cwt_ W e := va_up_ne _ _ h
theorem ht_n : ∀ (k : Nat × Nat), k ≠ (7, v) → k ≠ (10, v) → hc_ gl ad (cj_t W v ys) k = hc_ gl ad W k
  | (0, i), _, _ => rfl
  | (1, i), _, _ => rfl
  | (2, i), _, _ => rfl
  | (3, i), _, _ => rfl
  | (4, i), _, _ => rfl
  | (5, i), _, _ => rfl
  | (6, i), _, _ => rfl
  | (7, i), h, _ => by
    have hi : i ≠ v := fun z => h (by rw [z])
    show (if i < cwn_ W ∧ i < 4 then some (.inr (.inr (5, [.ref (ad (16, i + 1)), .ref (ad (8, i)), .ref (ad (9, i)), .ref (ad (10, i)), .int (nI (cwt_ (cj_t W v ys) i).length)])) : ce_E) else none) = _
    rw [cwt_n hi]
    rfl
  | (8, i), _, _ => rfl
  | (9, i), _, _ => rfl
  | (10, i), _, h => by
    have hi : i ≠ v := fun z => h (by rw [z])
    show (if i < cwn_ W ∧ i < 4 then some (.inl (0, 10, fun j => if j < 10 then ((cwt_ (cj_t W v ys) i)[j]?).getD 0 else 0) : ce_E) else none) = _
    rw [cwt_n hi]
    rfl
  | (11, i), _, _ => rfl
  | (12, i), _, _ => rfl
  | (13, i), _, _ => rfl
  | (14, i), _, _ => rfl
  | (15, i), _, _ => rfl
  | (16, i), _, _ => rfl
  | (17, i), _, _ => rfl
  | (18, i), _, _ => rfl
  | (19, i), _, _ => rfl
  | (20, i), _, _ => rfl
  | (21, i), _, _ => rfl
  | (22, i), _, _ => rfl
  | (23, i), _, _ => rfl
  | (n + 24, i), _, _ => rfl
theorem og_ci {a0 a1 n0 n1 sp dp m : Nat} {f0 f1 : Nat → Int32} (h0 : st.1 a0 = some (.inl (t, n0, f0))) (h1 : st.1 a1 = some (.inl (t, n1, f1))) (hs : sp + m ≤ n0) (hd : dp + m ≤ n1) (hb0 : n0 < 2 ^ 31) (hb1 : n1 < 2 ^ 31) : so_ci (some a0) (nI sp) (some a1) (nI dp) (nI m) t st = some (st_up st a1 (.inl (t, n1, va_cpy f0 f1 sp dp m))) := by
  unfold so_ci
  simp only [h0, h1]
  rw [nI_clamp (by omega), nI_clamp (by omega), nI_clamp (by omega), if_pos ⟨trivial, trivial, nI_pos (by omega), nI_pos (by omega), nI_pos (by omega), hs, hd⟩]
theorem RW_t (h : RW Z W s) : RW (zj_t Z v ys) (cj_t W v ys) s := by
  obtain ⟨h1, h2, h3, h4, h5, h6, h7, h8⟩ := h
  refine ⟨h1, h2, h3, ?_, h5, h6, h7, h8⟩
  show va_up (cwt_ W) v ys = va_up (zt_ Z) v ys
  rw [h4]
theorem xV_putOut_ok (h : CW gl fx ad W st) (hv : v < cwn_ W ∧ v < 4) (hlen : (cwt_ W v).length < 1000000) : ∃ st', xV_putOut gl (some (ad (7, v))) x st = some ((), st', 0, 0) ∧ CW gl fx ad (cj_t W v (x :: cwt_ W v)) st' := by
  have h7 := at_7 h hv
  have h10 := at_10 h hv
  have hne : ad (7, v) ≠ ad (10, v) := cv_ne (ad := aw_ ad W) h (hk_7 hv) (hk_10 hv) (by intro z; cases z)
  have c1 := og_ci (sp := 0) (dp := 1) (m := 9) h10 h10 (by decide) (by decide) (by decide) (by decide)
  have hW1 := cv_up (ad := aw_ ad W) (c := .inl (0, 10, va_cpy (fun i => if i < 10 then ((cwt_ W v)[i]?).getD 0 else 0) (fun i => if i < 10 then ((cwt_ W v)[i]?).getD 0 else 0) 0 1 9)) h (hk_10 hv)
  have h10' : (st_up st (ad (10, v)) (.inl (0, 10, va_cpy (fun i => if i < 10 then ((cwt_ W v)[i]?).getD 0 else 0) (fun i => if i < 10 then ((cwt_ W v)[i]?).getD 0 else 0) 0 1 9))).1 (ad (10, v)) = _ := up_s
  have h7' : (st_up st (ad (10, v)) (.inl (0, 10, va_cpy (fun i => if i < 10 then ((cwt_ W v)[i]?).getD 0 else 0) (fun i => if i < 10 then ((cwt_ W v)[i]?).getD 0 else 0) 0 1 9))).1 (ad (7, v)) = _ := (up_n hne).trans h7
  have d1 := og_si (i := 0) (y := x) h10' (by decide) (by decide)
  have hW2 := cv_up (ad := aw_ ad W) (c := .inl (0, 10, upd (va_cpy (fun i => if i < 10 then ((cwt_ W v)[i]?).getD 0 else 0) (fun i => if i < 10 then ((cwt_ W v)[i]?).getD 0 else 0) 0 1 9) 0 x)) hW1 (ku_s (k := (10, v)))
  have h7'' := (up_n (st := st_up st (ad (10, v)) (.inl (0, 10, va_cpy (fun i => if i < 10 then ((cwt_ W v)[i]?).getD 0 else 0) (fun i => if i < 10 then ((cwt_ W v)[i]?).getD 0 else 0) 0 1 9))) (e := .inl (0, 10, upd (va_cpy (fun i => if i < 10 then ((cwt_ W v)[i]?).getD 0 else 0) (fun i => if i < 10 then ((cwt_ W v)[i]?).getD 0 else 0) 0 1 9) 0 x)) hne).trans h7'
  have f1 := og_p (v := .int (nI (cwt_ W v).length + 1)) (cis := [5]) (k := 4) h7'' (by simp) (by simp)
  have hW3 := cv_up (ad := aw_ ad W) (c := .inr (.inr (5, [.ref (ad (16, v + 1)), .ref (ad (8, v)), .ref (ad (9, v)), .ref (ad (10, v)), .int (nI (cwt_ W v).length + 1)]))) hW2 ((ku_n (by intro z; cases z)).trans ((ku_n (by intro z; cases z)).trans (hk_7 hv)))
  refine ⟨_, ?_, cv_sub (ad := aw_ ad W) hW3 (fun k c hc => ?_)⟩
  · unfold xV_putOut
    refine ru_g _ (og_q (q := some (ad (10, v))) h7 (by simp) rfl) ?_
    refine ru_g _ (og_q (q := some (ad (10, v))) h7 (by simp) rfl) ?_
    refine ru_w _ c1 ?_
    refine ru_g _ (og_q (q := some (ad (10, v))) h7' (by simp) rfl) ?_
    refine ru_w _ d1 ?_
    refine ru_g _ (og_i h7'' (by simp) rfl) ?_
    exact ru_w _ f1 rfl
  · by_cases k7 : k = (7, v)
    · rw [k7, ku_s]
      rw [k7, hk_7 (W := cj_t W v (x :: cwt_ W v)) hv, cwt_s] at hc
      rw [← hc, nI_1]
      rfl
    · rw [ku_n k7]
      by_cases k10 : k = (10, v)
      · rw [k10, ku_s]
        rw [k10, hk_10 (W := cj_t W v (x :: cwt_ W v)) hv, cwt_s] at hc
        rw [← hc]
        congr 4
        funext i
        unfold upd va_cpy
        by_cases i0 : i = 0
        · rw [if_pos i0, i0]
          rfl
        · rw [if_neg i0]
          obtain ⟨j, rfl⟩ : ∃ j, i = j + 1 := ⟨i - 1, by omega⟩
          by_cases hj : j + 1 < 10
          · rw [if_pos (by omega), if_pos (by omega)]
            show (if 0 + (j + 1 - 1) < 10 then ((cwt_ W v)[0 + (j + 1 - 1)]?).getD 0 else 0) = _
            rw [show 0 + (j + 1 - 1) = j by omega, if_pos (by omega)]
            rfl
          · rw [if_neg (by omega), if_neg (by omega)]
            show (if j + 1 < 10 then _ else 0) = (0 : Int32)
            rw [if_neg hj]
      · rw [ku_n k10, ku_n k10]
        rw [ht_n k k7 k10] at hc
        exact hc
end CTU
