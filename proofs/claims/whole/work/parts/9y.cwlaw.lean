/-! The law's loop. -/
section CLW
variable {gl : gl_T} {l : List Nat} {m0 p1 c : Nat} {am : Nat → Nat} {Z Z' : zz_S} {W W' : cw_W} {st st1 : st_S}
theorem sum_leN {f g : Nat → Nat} : ∀ (l : List Nat), (∀ e ∈ l, f e ≤ g e) → (l.map f).sum ≤ (l.map g).sum
  | [], _ => Nat.le_refl _
  | a :: l, h => by
    rw [List.map_cons, List.sum_cons, List.map_cons, List.sum_cons]
    have h1 := h a List.mem_cons_self
    have h2 := sum_leN l (fun e he => h e (List.mem_cons_of_mem _ he))
    omega
theorem bk_le (h : wf_ W) : bk_ W ≤ 444000 := by
  have h1 : bk_ W ≤ ((List.range 201).map (fun L => if L < 20 ∨ 100 < L then 3700 else 0)).sum := by
    refine sum_leN _ (fun L hL => ?_)
    by_cases c : cwv_ W L = true
    · rw [if_pos c]
      have h2 := (h L c).2.1
      rcases cwv_c c with d | d | d
      · rw [if_pos (by omega)]
        omega
      · rw [if_pos (by omega)]
        omega
      · rw [if_pos (by omega)]
        omega
    · rw [if_neg c]
      exact Nat.zero_le _
  have h2 : ((List.range 201).map (fun L => if L < 20 ∨ 100 < L then 3700 else 0)).sum = 444000 := by decide +kernel
  omega
theorem xl_ok : so_xl gl (some gl.2.2.1) st = some (nI gl.2.2.2.1) := if_pos rfl
theorem xs_ok {k : Nat} (h : k < gl.2.2.2.1) (hb : gl.2.2.2.1 ≤ 2049) : so_x gl (some gl.2.2.1) (nI k) st = some (gl.2.2.2.2 k) := by
  unfold so_x
  rw [nI_clamp (by omega)]
  exact if_pos ⟨rfl, fun q => n_lt0.mp q (nI_pos' (by omega)), h⟩
theorem lt_4 {a b : Nat} (ha : a ≤ 5000) (hb : b ≤ 5000) : nI a - (4 : Int32) < nI b ↔ a < b + 4 := by
  have e : nI a - (4 : Int32) = Int32.ofInt ((a : Int) - 4) := by
    rw [Int32.ofInt_sub]
    rfl
  rw [e, Int32.lt_iff_toInt_lt, Int32.toInt_ofInt, nI_toInt (by omega)]
  have hs : (Int32.size : Int) = 4294967296 := rfl
  rw [Int.bmod_eq_of_le (by omega) (by omega)]
  omega
theorem lx_fin {F : Option Nat × Option Nat × Option Nat × Int32 → st_M Int32} {pos : Int32} {A B : st_M Int32} {P Q d : Nat} (hs : js_ gl l m0 am p1 c Z W st A B) (ih : ∀ (st2 : st_S) (Z' : zz_S) (W' : cw_W), jo_ gl l m0 am p1 (c + 1) Z' W' st2 → ∃ stF i j, F (some gl.2.2.1, some p1, some m0, pos + 4) st2 = some (1, stF, i, j) ∧ i + (bk_ W' + (zl_ Z').length) ≤ P + 48 * d ∧ j + (4 * bk_ W' + 5 * (zl_ Z').length) ≤ Q + 328 * d) :
    ∃ stF i j x st1 st2 i1 j1 i2 j2, A st = some (x, st1, i1, j1) ∧ so_cm (some m0) [10] st1 = some 10 ∧ B st1 = some (x, st2, 0, 0) ∧ lx_law_b635 gl F (some gl.2.2.1) (some p1) (some m0) pos st2 = some (1, stF, i2, j2) ∧ i1 + i2 = i ∧ j1 + j2 = j ∧ i + (bk_ W + (zl_ Z).length) ≤ P + 48 * (d + 1) ∧ j + (4 * bk_ W + 5 * (zl_ Z).length) ≤ Q + 328 * (d + 1) := by
  obtain ⟨x, st1, st2, Z', W', i1, j1, a1, a2, a3, a4, a5, a6⟩ := hs
  obtain ⟨stF, i2, j2, b1, b2, b3⟩ := ih st2 Z' W' a4
  exact ⟨stF, i1 + i2, j1 + j2, x, st1, st2, i1, j1, i2, j2, a1, a2, a3, b1, rfl, rfl, by omega, by omega⟩
set_option maxHeartbeats 1000000 in
theorem lx_it (hl : zl_all l) (hlen : gl.2.2.2.1 ≤ 2049) : ∀ (d c fuel : Nat) (st : st_S) (Z : zz_S) (W : cw_W), 512 - c = d → c ≤ 512 → d < fuel → jo_ gl l m0 am p1 c Z W st →
    ∃ stF i j, st_it (fun rec28 => (fun x : Option Nat × Option Nat × Option Nat × Int32 => lx_law_b28 gl rec28 x.1 x.2.1 x.2.2.1 x.2.2.2)) fuel (some gl.2.2.1, some p1, some m0, nI (1 + 4 * c)) st = some (1, stF, i, j) ∧ i + (bk_ W + (zl_ Z).length) ≤ 446040 + 48 * d ∧ j + (4 * bk_ W + 5 * (zl_ Z).length) ≤ 1786200 + 328 * d := by
  have stop : ∀ (d c m : Nat) (st : st_S) (Z : zz_S) (W : cw_W), c ≤ 512 → gl.2.2.2.1 < 1 + 4 * c + 4 → jo_ gl l m0 am p1 c Z W st → ∃ stF i j, st_it (fun rec28 => (fun x : Option Nat × Option Nat × Option Nat × Int32 => lx_law_b28 gl rec28 x.1 x.2.1 x.2.2.1 x.2.2.2)) (m + 1) (some gl.2.2.1, some p1, some m0, nI (1 + 4 * c)) st = some (1, stF, i, j) ∧ i + (bk_ W + (zl_ Z).length) ≤ 446040 + 48 * d ∧ j + (4 * bk_ W + 5 * (zl_ Z).length) ≤ 1786200 + 328 * d := by
    intro d c m st Z W hc hlt h
    have h1 := bk_le h.2.2.2.1.2.2.2.2.2.2.2
    have h2 := zA_len h.1 hc
    refine ⟨st, 0, 0, ?_, by omega, by omega⟩
    show lx_law_b28 gl _ (some gl.2.2.1) (some p1) (some m0) (nI (1 + 4 * c)) st = _
    unfold lx_law_b28
    refine ru_g _ xl_ok ?_
    exact ru_t ((lt_4 (by omega) (by omega)).mpr hlt) rfl
  intro d
  induction d with
  | zero =>
    intro c fuel st Z W hd hc hf h
    obtain ⟨m, rfl⟩ : ∃ m, fuel = m + 1 := ⟨fuel - 1, by omega⟩
    exact stop 0 c m st Z W hc (by omega) h
  | succ d ih =>
    intro c fuel st Z W hd hc hf h
    obtain ⟨m, rfl⟩ : ∃ m, fuel = m + 1 := ⟨fuel - 1, by omega⟩
    by_cases hlt : gl.2.2.2.1 < 1 + 4 * c + 4
    · exact stop (d + 1) c m st Z W hc hlt h
    · have hn : ¬ nI gl.2.2.2.1 - (4 : Int32) < nI (1 + 4 * c) := fun z => hlt ((lt_4 (by omega) (by omega)).mp z)
      have x0 : ∀ st, so_x gl (some gl.2.2.1) (nI (1 + 4 * c)) st = some (gl.2.2.2.2 (1 + 4 * c)) := fun st => xs_ok (by omega) hlen
      have x1 : ∀ st, so_x gl (some gl.2.2.1) (nI (1 + 4 * c) + 1) st = some (gl.2.2.2.2 (1 + 4 * c + 1)) := fun st => (by rw [nI_1]; exact xs_ok (by omega) hlen)
      have x2 : ∀ st, so_x gl (some gl.2.2.1) (nI (1 + 4 * c) + 2) st = some (gl.2.2.2.2 (1 + 4 * c + 2)) := fun st => (by rw [show nI (1 + 4 * c) + (2 : Int32) = nI (1 + 4 * c + 2) from nI_add _ 2]; exact xs_ok (by omega) hlen)
      have x3 : ∀ st, so_x gl (some gl.2.2.1) (nI (1 + 4 * c) + 3) st = some (gl.2.2.2.2 (1 + 4 * c + 3)) := fun st => (by rw [show nI (1 + 4 * c) + (3 : Int32) = nI (1 + 4 * c + 3) from nI_add _ 3]; exact xs_ok (by omega) hlen)
      have ih2 : ∀ (st2 : st_S) (Z' : zz_S) (W' : cw_W), jo_ gl l m0 am p1 (c + 1) Z' W' st2 → ∃ stF i j, st_it (fun rec28 => (fun x : Option Nat × Option Nat × Option Nat × Int32 => lx_law_b28 gl rec28 x.1 x.2.1 x.2.2.1 x.2.2.2)) m (some gl.2.2.1, some p1, some m0, nI (1 + 4 * c) + 4) st2 = some (1, stF, i, j) ∧ i + (bk_ W' + (zl_ Z').length) ≤ 446040 + 48 * d ∧ j + (4 * bk_ W' + 5 * (zl_ Z').length) ≤ 1786200 + 328 * d := by
        intro st2 Z' W' h2
        have := ih (c + 1) m st2 Z' W' (by omega) (by omega) (by omega) h2
        rw [show nI (1 + 4 * c) + (4 : Int32) = nI (1 + 4 * (c + 1)) from (nI_add _ 4).trans (congrArg nI (by omega))]
        exact this
      have hcm : so_cm (some p1) [0] st = some 0 := by
        obtain ⟨-, -, -, -, -, ad, fx, M, k1, k2, -⟩ := h
        rw [← k1]
        exact r0_m k2
      generalize gl.2.2.2.2 (1 + 4 * c) = op at x0
      generalize gl.2.2.2.2 (1 + 4 * c + 1) = y1 at x1
      generalize gl.2.2.2.2 (1 + 4 * c + 2) = y2 at x2
      generalize gl.2.2.2.2 (1 + 4 * c + 3) = y3 at x3
      by_cases q0 : (op &&& (31 : Int32)) = (0 : Int32)
      · obtain ⟨stF, i, j, r, st1, st2, i1, j1, i2, j2, a1, a2, a3, a4, a5, a6, a7, a8⟩ := lx_fin (st_code (x := y1) (y := y2) (z := y3)  h) ih2
        refine ⟨stF, i, j, ?_, a7, a8⟩
        show lx_law_b28 gl _ (some gl.2.2.1) (some p1) (some m0) (nI (1 + 4 * c)) st = _
        unfold lx_law_b28
        refine ru_g _ xl_ok (ru_f hn (ru_g _ (x0 st) (ru_t q0 ?_)))
        refine ru_g _ (x1 st) ?_
        refine ru_g _ (x2 st) ?_
        refine ru_g _ (x3 st) ?_
        refine ru_g _ hcm ?_
        refine ru_b (i2 := i2) (j2 := j2) a1 ?_ a5 a6
        refine ru_g _ (x1 st1) ?_
        refine ru_g _ (x2 st1) ?_
        refine ru_g _ (x3 st1) ?_
        refine ru_g _ a2 ?_
        refine ru_b (i2 := i2) (j2 := j2) a3 ?_ (by omega) (by omega)
        exact ru_t rfl a4
      by_cases q1 : (op &&& (31 : Int32)) = (1 : Int32)
      · obtain ⟨stF, i, j, r, st1, st2, i1, j1, i2, j2, a1, a2, a3, a4, a5, a6, a7, a8⟩ := lx_fin (st_clear (x := y1)  h) ih2
        refine ⟨stF, i, j, ?_, a7, a8⟩
        show lx_law_b28 gl _ (some gl.2.2.1) (some p1) (some m0) (nI (1 + 4 * c)) st = _
        unfold lx_law_b28
        refine ru_g _ xl_ok (ru_f hn (ru_g _ (x0 st) (ru_f q0 (ru_t q1 ?_))))
        refine ru_g _ (x1 st) ?_
        refine ru_g _ hcm ?_
        refine ru_b (i2 := i2) (j2 := j2) a1 ?_ a5 a6
        refine ru_g _ (x1 st1) ?_
        refine ru_g _ a2 ?_
        refine ru_b (i2 := i2) (j2 := j2) a3 ?_ (by omega) (by omega)
        exact ru_t rfl a4
      by_cases q2 : (op &&& (31 : Int32)) = (2 : Int32)
      · obtain ⟨stF, i, j, r, st1, st2, i1, j1, i2, j2, a1, a2, a3, a4, a5, a6, a7, a8⟩ := lx_fin (st_give (x := y1) (y := y2) (z := y3) hl h) ih2
        refine ⟨stF, i, j, ?_, a7, a8⟩
        show lx_law_b28 gl _ (some gl.2.2.1) (some p1) (some m0) (nI (1 + 4 * c)) st = _
        unfold lx_law_b28
        refine ru_g _ xl_ok (ru_f hn (ru_g _ (x0 st) (ru_f q0 (ru_f q1 (ru_t q2 ?_)))))
        refine ru_g _ (x1 st) ?_
        refine ru_g _ (x2 st) ?_
        refine ru_g _ (x3 st) ?_
        refine ru_g _ hcm ?_
        refine ru_b (i2 := i2) (j2 := j2) a1 ?_ a5 a6
        refine ru_g _ (x1 st1) ?_
        refine ru_g _ (x2 st1) ?_
        refine ru_g _ (x3 st1) ?_
        refine ru_g _ a2 ?_
        refine ru_b (i2 := i2) (j2 := j2) a3 ?_ (by omega) (by omega)
        exact ru_t rfl a4
      by_cases q3 : (op &&& (31 : Int32)) = (3 : Int32)
      · obtain ⟨stF, i, j, r, st1, st2, i1, j1, i2, j2, a1, a2, a3, a4, a5, a6, a7, a8⟩ := lx_fin (st_poke (x := y1) (y := y2) hc h) ih2
        refine ⟨stF, i, j, ?_, a7, a8⟩
        show lx_law_b28 gl _ (some gl.2.2.1) (some p1) (some m0) (nI (1 + 4 * c)) st = _
        unfold lx_law_b28
        refine ru_g _ xl_ok (ru_f hn (ru_g _ (x0 st) (ru_f q0 (ru_f q1 (ru_f q2 (ru_t q3 ?_))))))
        refine ru_g _ (x1 st) ?_
        refine ru_g _ (x2 st) ?_
        refine ru_g _ hcm ?_
        refine ru_b (i2 := i2) (j2 := j2) a1 ?_ a5 a6
        refine ru_g _ (x1 st1) ?_
        refine ru_g _ (x2 st1) ?_
        refine ru_g _ a2 ?_
        refine ru_b (i2 := i2) (j2 := j2) a3 ?_ (by omega) (by omega)
        exact ru_t rfl a4
      by_cases q4 : (op &&& (31 : Int32)) = (4 : Int32)
      · obtain ⟨stF, i, j, r, st1, st2, i1, j1, i2, j2, a1, a2, a3, a4, a5, a6, a7, a8⟩ := lx_fin (st_turn (x := y1) hl hc h) ih2
        refine ⟨stF, i, j, ?_, a7, a8⟩
        show lx_law_b28 gl _ (some gl.2.2.1) (some p1) (some m0) (nI (1 + 4 * c)) st = _
        unfold lx_law_b28
        refine ru_g _ xl_ok (ru_f hn (ru_g _ (x0 st) (ru_f q0 (ru_f q1 (ru_f q2 (ru_f q3 (ru_t q4 ?_)))))))
        refine ru_g _ (x1 st) ?_
        refine ru_g _ hcm ?_
        refine ru_b (i2 := i2) (j2 := j2) a1 ?_ a5 a6
        refine ru_g _ (x1 st1) ?_
        refine ru_g _ a2 ?_
        refine ru_b (i2 := i2) (j2 := j2) a3 ?_ (by omega) (by omega)
        exact ru_t rfl a4
      by_cases q5 : (op &&& (31 : Int32)) = (5 : Int32)
      · obtain ⟨stF, i, j, r, st1, st2, i1, j1, i2, j2, a1, a2, a3, a4, a5, a6, a7, a8⟩ := lx_fin (st_deliver (x := y1) (y := y2) hl hc h) ih2
        refine ⟨stF, i, j, ?_, a7, a8⟩
        show lx_law_b28 gl _ (some gl.2.2.1) (some p1) (some m0) (nI (1 + 4 * c)) st = _
        unfold lx_law_b28
        refine ru_g _ xl_ok (ru_f hn (ru_g _ (x0 st) (ru_f q0 (ru_f q1 (ru_f q2 (ru_f q3 (ru_f q4 (ru_t q5 ?_))))))))
        refine ru_g _ (x1 st) ?_
        refine ru_g _ (x2 st) ?_
        refine ru_g _ hcm ?_
        refine ru_b (i2 := i2) (j2 := j2) a1 ?_ a5 a6
        refine ru_g _ (x1 st1) ?_
        refine ru_g _ (x2 st1) ?_
        refine ru_g _ a2 ?_
        refine ru_b (i2 := i2) (j2 := j2) a3 ?_ (by omega) (by omega)
        exact ru_t rfl a4
      by_cases q6 : (op &&& (31 : Int32)) = (6 : Int32)
      · obtain ⟨stF, i, j, r, st1, st2, i1, j1, i2, j2, a1, a2, a3, a4, a5, a6, a7, a8⟩ := lx_fin (st_sweep (x := y1) hl hc h) ih2
        refine ⟨stF, i, j, ?_, a7, a8⟩
        show lx_law_b28 gl _ (some gl.2.2.1) (some p1) (some m0) (nI (1 + 4 * c)) st = _
        unfold lx_law_b28
        refine ru_g _ xl_ok (ru_f hn (ru_g _ (x0 st) (ru_f q0 (ru_f q1 (ru_f q2 (ru_f q3 (ru_f q4 (ru_f q5 (ru_t q6 ?_)))))))))
        refine ru_g _ (x1 st) ?_
        refine ru_g _ hcm ?_
        refine ru_b (i2 := i2) (j2 := j2) a1 ?_ a5 a6
        refine ru_g _ (x1 st1) ?_
        refine ru_g _ a2 ?_
        refine ru_b (i2 := i2) (j2 := j2) a3 ?_ (by omega) (by omega)
        exact ru_t rfl a4
      by_cases q7 : (op &&& (31 : Int32)) = (7 : Int32)
      · obtain ⟨stF, i, j, r, st1, st2, i1, j1, i2, j2, a1, a2, a3, a4, a5, a6, a7, a8⟩ := lx_fin (st_flying (x := y1) (y := y2) hc h) ih2
        refine ⟨stF, i, j, ?_, a7, a8⟩
        show lx_law_b28 gl _ (some gl.2.2.1) (some p1) (some m0) (nI (1 + 4 * c)) st = _
        unfold lx_law_b28
        refine ru_g _ xl_ok (ru_f hn (ru_g _ (x0 st) (ru_f q0 (ru_f q1 (ru_f q2 (ru_f q3 (ru_f q4 (ru_f q5 (ru_f q6 (ru_t q7 ?_))))))))))
        refine ru_g _ (x1 st) ?_
        refine ru_g _ (x2 st) ?_
        refine ru_g _ hcm ?_
        refine ru_b (i2 := i2) (j2 := j2) a1 ?_ a5 a6
        refine ru_g _ (x1 st1) ?_
        refine ru_g _ (x2 st1) ?_
        refine ru_g _ a2 ?_
        refine ru_b (i2 := i2) (j2 := j2) a3 ?_ (by omega) (by omega)
        exact ru_t rfl a4
      by_cases q8 : (op &&& (31 : Int32)) = (8 : Int32)
      · obtain ⟨stF, i, j, r, st1, st2, i1, j1, i2, j2, a1, a2, a3, a4, a5, a6, a7, a8⟩ := lx_fin (st_inbox (x := y1)  h) ih2
        refine ⟨stF, i, j, ?_, a7, a8⟩
        show lx_law_b28 gl _ (some gl.2.2.1) (some p1) (some m0) (nI (1 + 4 * c)) st = _
        unfold lx_law_b28
        refine ru_g _ xl_ok (ru_f hn (ru_g _ (x0 st) (ru_f q0 (ru_f q1 (ru_f q2 (ru_f q3 (ru_f q4 (ru_f q5 (ru_f q6 (ru_f q7 (ru_t q8 ?_)))))))))))
        refine ru_g _ (x1 st) ?_
        refine ru_g _ hcm ?_
        refine ru_b (i2 := i2) (j2 := j2) a1 ?_ a5 a6
        refine ru_g _ (x1 st1) ?_
        refine ru_g _ a2 ?_
        refine ru_b (i2 := i2) (j2 := j2) a3 ?_ (by omega) (by omega)
        exact ru_t rfl a4
      by_cases q9 : (op &&& (31 : Int32)) = (9 : Int32)
      · obtain ⟨stF, i, j, r, st1, st2, i1, j1, i2, j2, a1, a2, a3, a4, a5, a6, a7, a8⟩ := lx_fin (st_count (x := y1) (y := y2) hc h) ih2
        refine ⟨stF, i, j, ?_, a7, a8⟩
        show lx_law_b28 gl _ (some gl.2.2.1) (some p1) (some m0) (nI (1 + 4 * c)) st = _
        unfold lx_law_b28
        refine ru_g _ xl_ok (ru_f hn (ru_g _ (x0 st) (ru_f q0 (ru_f q1 (ru_f q2 (ru_f q3 (ru_f q4 (ru_f q5 (ru_f q6 (ru_f q7 (ru_f q8 (ru_t q9 ?_))))))))))))
        refine ru_g _ (x1 st) ?_
        refine ru_g _ (x2 st) ?_
        refine ru_g _ hcm ?_
        refine ru_b (i2 := i2) (j2 := j2) a1 ?_ a5 a6
        refine ru_g _ (x1 st1) ?_
        refine ru_g _ (x2 st1) ?_
        refine ru_g _ a2 ?_
        refine ru_b (i2 := i2) (j2 := j2) a3 ?_ (by omega) (by omega)
        exact ru_t rfl a4
      by_cases q10 : (op &&& (31 : Int32)) = (10 : Int32)
      · obtain ⟨stF, i, j, r, st1, st2, i1, j1, i2, j2, a1, a2, a3, a4, a5, a6, a7, a8⟩ := lx_fin (st_imported (x := y1) (y := y2)  h) ih2
        refine ⟨stF, i, j, ?_, a7, a8⟩
        show lx_law_b28 gl _ (some gl.2.2.1) (some p1) (some m0) (nI (1 + 4 * c)) st = _
        unfold lx_law_b28
        refine ru_g _ xl_ok (ru_f hn (ru_g _ (x0 st) (ru_f q0 (ru_f q1 (ru_f q2 (ru_f q3 (ru_f q4 (ru_f q5 (ru_f q6 (ru_f q7 (ru_f q8 (ru_f q9 (ru_t q10 ?_)))))))))))))
        refine ru_g _ (x1 st) ?_
        refine ru_g _ (x2 st) ?_
        refine ru_g _ hcm ?_
        refine ru_b (i2 := i2) (j2 := j2) a1 ?_ a5 a6
        refine ru_g _ (x1 st1) ?_
        refine ru_g _ (x2 st1) ?_
        refine ru_g _ a2 ?_
        refine ru_b (i2 := i2) (j2 := j2) a3 ?_ (by omega) (by omega)
        exact ru_t rfl a4
      by_cases q11 : (op &&& (31 : Int32)) = (11 : Int32)
      · obtain ⟨stF, i, j, r, st1, st2, i1, j1, i2, j2, a1, a2, a3, a4, a5, a6, a7, a8⟩ := lx_fin (st_exported (x := y1) (y := y2)  h) ih2
        refine ⟨stF, i, j, ?_, a7, a8⟩
        show lx_law_b28 gl _ (some gl.2.2.1) (some p1) (some m0) (nI (1 + 4 * c)) st = _
        unfold lx_law_b28
        refine ru_g _ xl_ok (ru_f hn (ru_g _ (x0 st) (ru_f q0 (ru_f q1 (ru_f q2 (ru_f q3 (ru_f q4 (ru_f q5 (ru_f q6 (ru_f q7 (ru_f q8 (ru_f q9 (ru_f q10 (ru_t q11 ?_))))))))))))))
        refine ru_g _ (x1 st) ?_
        refine ru_g _ (x2 st) ?_
        refine ru_g _ hcm ?_
        refine ru_b (i2 := i2) (j2 := j2) a1 ?_ a5 a6
        refine ru_g _ (x1 st1) ?_
        refine ru_g _ (x2 st1) ?_
        refine ru_g _ a2 ?_
        refine ru_b (i2 := i2) (j2 := j2) a3 ?_ (by omega) (by omega)
        exact ru_t rfl a4
      by_cases q12 : (op &&& (31 : Int32)) = (12 : Int32)
      · obtain ⟨stF, i, j, r, st1, st2, i1, j1, i2, j2, a1, a2, a3, a4, a5, a6, a7, a8⟩ := lx_fin (st_home (x := y1)  h) ih2
        refine ⟨stF, i, j, ?_, a7, a8⟩
        show lx_law_b28 gl _ (some gl.2.2.1) (some p1) (some m0) (nI (1 + 4 * c)) st = _
        unfold lx_law_b28
        refine ru_g _ xl_ok (ru_f hn (ru_g _ (x0 st) (ru_f q0 (ru_f q1 (ru_f q2 (ru_f q3 (ru_f q4 (ru_f q5 (ru_f q6 (ru_f q7 (ru_f q8 (ru_f q9 (ru_f q10 (ru_f q11 (ru_t q12 ?_)))))))))))))))
        refine ru_g _ (x1 st) ?_
        refine ru_g _ hcm ?_
        refine ru_b (i2 := i2) (j2 := j2) a1 ?_ a5 a6
        refine ru_g _ (x1 st1) ?_
        refine ru_g _ a2 ?_
        refine ru_b (i2 := i2) (j2 := j2) a3 ?_ (by omega) (by omega)
        exact ru_t rfl a4
      by_cases q13 : (op &&& (31 : Int32)) = (13 : Int32)
      · obtain ⟨stF, i, j, r, st1, st2, i1, j1, i2, j2, a1, a2, a3, a4, a5, a6, a7, a8⟩ := lx_fin (st_slot (x := y1) (y := y2)  h) ih2
        refine ⟨stF, i, j, ?_, a7, a8⟩
        show lx_law_b28 gl _ (some gl.2.2.1) (some p1) (some m0) (nI (1 + 4 * c)) st = _
        unfold lx_law_b28
        refine ru_g _ xl_ok (ru_f hn (ru_g _ (x0 st) (ru_f q0 (ru_f q1 (ru_f q2 (ru_f q3 (ru_f q4 (ru_f q5 (ru_f q6 (ru_f q7 (ru_f q8 (ru_f q9 (ru_f q10 (ru_f q11 (ru_f q12 (ru_t q13 ?_))))))))))))))))
        refine ru_g _ (x1 st) ?_
        refine ru_g _ (x2 st) ?_
        refine ru_g _ hcm ?_
        refine ru_b (i2 := i2) (j2 := j2) a1 ?_ a5 a6
        refine ru_g _ (x1 st1) ?_
        refine ru_g _ (x2 st1) ?_
        refine ru_g _ a2 ?_
        refine ru_b (i2 := i2) (j2 := j2) a3 ?_ (by omega) (by omega)
        exact ru_t rfl a4
      by_cases q14 : (op &&& (31 : Int32)) = (14 : Int32)
      · obtain ⟨stF, i, j, r, st1, st2, i1, j1, i2, j2, a1, a2, a3, a4, a5, a6, a7, a8⟩ := lx_fin (st_number (x := y1)  h) ih2
        refine ⟨stF, i, j, ?_, a7, a8⟩
        show lx_law_b28 gl _ (some gl.2.2.1) (some p1) (some m0) (nI (1 + 4 * c)) st = _
        unfold lx_law_b28
        refine ru_g _ xl_ok (ru_f hn (ru_g _ (x0 st) (ru_f q0 (ru_f q1 (ru_f q2 (ru_f q3 (ru_f q4 (ru_f q5 (ru_f q6 (ru_f q7 (ru_f q8 (ru_f q9 (ru_f q10 (ru_f q11 (ru_f q12 (ru_f q13 (ru_t q14 ?_)))))))))))))))))
        refine ru_g _ (x1 st) ?_
        refine ru_g _ hcm ?_
        refine ru_b (i2 := i2) (j2 := j2) a1 ?_ a5 a6
        refine ru_g _ (x1 st1) ?_
        refine ru_g _ a2 ?_
        refine ru_b (i2 := i2) (j2 := j2) a3 ?_ (by omega) (by omega)
        exact ru_t rfl a4
      by_cases q15 : (op &&& (31 : Int32)) = (15 : Int32)
      · obtain ⟨stF, i, j, r, st1, st2, i1, j1, i2, j2, a1, a2, a3, a4, a5, a6, a7, a8⟩ := lx_fin (st_resolved (x := y1)  h) ih2
        refine ⟨stF, i, j, ?_, a7, a8⟩
        show lx_law_b28 gl _ (some gl.2.2.1) (some p1) (some m0) (nI (1 + 4 * c)) st = _
        unfold lx_law_b28
        refine ru_g _ xl_ok (ru_f hn (ru_g _ (x0 st) (ru_f q0 (ru_f q1 (ru_f q2 (ru_f q3 (ru_f q4 (ru_f q5 (ru_f q6 (ru_f q7 (ru_f q8 (ru_f q9 (ru_f q10 (ru_f q11 (ru_f q12 (ru_f q13 (ru_f q14 (ru_t q15 ?_))))))))))))))))))
        refine ru_g _ (x1 st) ?_
        refine ru_g _ hcm ?_
        refine ru_b (i2 := i2) (j2 := j2) a1 ?_ a5 a6
        refine ru_g _ (x1 st1) ?_
        refine ru_g _ a2 ?_
        refine ru_b (i2 := i2) (j2 := j2) a3 ?_ (by omega) (by omega)
        exact ru_t rfl a4
      by_cases q16 : (op &&& (31 : Int32)) = (16 : Int32)
      · obtain ⟨stF, i, j, r, st1, st2, i1, j1, i2, j2, a1, a2, a3, a4, a5, a6, a7, a8⟩ := lx_fin (st_output (x := y1) (y := y2) hc h) ih2
        refine ⟨stF, i, j, ?_, a7, a8⟩
        show lx_law_b28 gl _ (some gl.2.2.1) (some p1) (some m0) (nI (1 + 4 * c)) st = _
        unfold lx_law_b28
        refine ru_g _ xl_ok (ru_f hn (ru_g _ (x0 st) (ru_f q0 (ru_f q1 (ru_f q2 (ru_f q3 (ru_f q4 (ru_f q5 (ru_f q6 (ru_f q7 (ru_f q8 (ru_f q9 (ru_f q10 (ru_f q11 (ru_f q12 (ru_f q13 (ru_f q14 (ru_f q15 (ru_t q16 ?_)))))))))))))))))))
        refine ru_g _ (x1 st) ?_
        refine ru_g _ (x2 st) ?_
        refine ru_g _ hcm ?_
        refine ru_b (i2 := i2) (j2 := j2) a1 ?_ a5 a6
        refine ru_g _ (x1 st1) ?_
        refine ru_g _ (x2 st1) ?_
        refine ru_g _ a2 ?_
        refine ru_b (i2 := i2) (j2 := j2) a3 ?_ (by omega) (by omega)
        exact ru_t rfl a4
      obtain ⟨h1, h2, h3, h4, h5⟩ := h
      obtain ⟨stF, i, j, a1, a2, a3⟩ := ih2 st Z W ⟨zA_s h1, h2, h3, h4, h5⟩
      refine ⟨stF, i, j, ?_, by omega, by omega⟩
      show lx_law_b28 gl _ (some gl.2.2.1) (some p1) (some m0) (nI (1 + 4 * c)) st = _
      unfold lx_law_b28
      exact ru_g _ xl_ok (ru_f hn (ru_g _ (x0 st) (ru_f q0 (ru_f q1 (ru_f q2 (ru_f q3 (ru_f q4 (ru_f q5 (ru_f q6 (ru_f q7 (ru_f q8 (ru_f q9 (ru_f q10 (ru_f q11 (ru_f q12 (ru_f q13 (ru_f q14 (ru_f q15 (ru_f q16 (a1))))))))))))))))))))
end CLW
