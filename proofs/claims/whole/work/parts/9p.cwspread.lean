/-! The class's sweep: what is found spreads, and is what is in reach. -/
section CSP
variable {gl : gl_T} {fx : fx_T} {ad : Nat × Nat → Nat} {W W' W0 : cw_W} {st st' : st_S} {Z X : zz_S} {e a b v L g u q t h p w ref c n f o y k pos : Nat} {x op : Int32} {lost l fl fl1 fl2 fl' : List Nat}
/-- what a reached one of v holds is in reach -/
theorem ci_R (hB : zB Z) (hv : v < 4) (hf : zk_R Z v f) (hm : zk_made Z f = true) (hh : zh_ Z f = v) (hu : ci_ Z f u) (u0 : u ≠ 0) : zk_R Z v u := by
  have hz := hB.1
  have h200 := zk_K2 hz (Or.inr hm)
  have f0 := made_n0 hm
  obtain ⟨k, hk⟩ := hf
  have hg := okr_live (reach_okr hB hv k f hk) f0 hh
  have hl : zk_live Z f = true := by
    unfold zk_live
    rw [hm, hg]
    rfl
  have h3 := zk_K3 (Z := Z) (Or.inr hm)
  have h60 := hz.2.2.2.1
  rcases hu with ⟨c1, s, c2, c3⟩ | ⟨c1, ⟨c2, c3⟩ | ⟨r, c2, c3⟩⟩
  · exact R_next h200 ⟨k, hk⟩ u0 (next_or.mpr (Or.inl (n1_mk hl hh (Or.inr ⟨by omega, s, c2, c3⟩))))
  · exact R_next h200 ⟨k, hk⟩ u0 (next_or.mpr (Or.inl (n1_mk hl hh (Or.inl ⟨c1, c2, c3⟩))))
  · rw [List.drop_zero] at c2
    obtain ⟨c4, c5⟩ := List.mem_filter.mp c2
    have c5 : r.1 = f := by simpa using c5
    rcases c3 with c3 | c3
    · have c6 := (hB.2.2.1.2.2.1 r c4).2.2.2
      have : u = f := by
        rcases c6 with c6 | c6
        · omega
        · omega
      rw [this]
      exact ⟨k, hk⟩
    · exact R_next h200 ⟨k, hk⟩ u0 (next_or.mpr (Or.inr ⟨r, c4, c5, c1, hh, c3⟩))
theorem xP_sp_it (hB : zB Z) (hH : zH Z) (hR : RW Z W0 50) (hv4 : v < 4) (hlen : (zr_ Z).length ≤ 4000) : ∀ (d i fuel : Nat) (st : st_S) (W : cw_W) (fl : List Nat), 160 - i = d → i ≤ fl.length → d < fuel → FS gl fx ad Z W0 W st fl → (∀ e ∈ fl, zk_R Z v e) → (∀ j f, j < i → fl[j]? = some f → zh_ Z f = v → ∀ u, ci_ Z f u → u ≠ 0 → u ∈ fl) →
    ∃ st' W' fl', st_it (fun rec74 => (fun x : Option Nat × Int32 × Int32 => xP_findReached_b74 gl rec74 x.1 x.2.1 x.2.2)) fuel (some (ad (0, 0)), nI v, nI i) st = some ((), st', 0, 0) ∧ FS gl fx ad Z W0 W' st' fl' ∧ (∀ e ∈ fl, e ∈ fl') ∧ (∀ e ∈ fl', zk_R Z v e) ∧ ∀ f ∈ fl', zh_ Z f = v → ∀ u, ci_ Z f u → u ≠ 0 → u ∈ fl' := by
  have hz := hB.1
  intro d
  induction d with
  | zero =>
    intro i fuel st W fl hd0 hi hf h hs hc
    obtain ⟨m, rfl⟩ : ∃ m, fuel = m + 1 := ⟨fuel - 1, by omega⟩
    have h160 := nd_160 hz h.2.2.2.2.1 h.2.2.2.2.2.1
    refine ⟨st, W, fl, ?_, h, fun _ he => he, hs, fun f hfl => ?_⟩
    · show xP_findReached_b74 gl _ (some (ad (0, 0))) (nI v) (nI i) st = _
      unfold xP_findReached_b74
      refine ru_g _ (r0_8 h.1) ?_
      refine ru_g _ (og_n (at_6 h.1) (by simp)) ?_
      exact ru_t (nI_le (by omega) (by omega)) rfl
    · obtain ⟨j, hj⟩ := List.getElem?_of_mem hfl
      have := (List.getElem?_eq_some_iff.mp hj).1
      exact hc j f (by omega) hj
  | succ d ih =>
    intro i fuel st W fl hd0 hi hf h hs hc
    obtain ⟨m, rfl⟩ : ∃ m, fuel = m + 1 := ⟨fuel - 1, by omega⟩
    have h160 := nd_160 hz h.2.2.2.2.1 h.2.2.2.2.2.1
    by_cases hil : i = fl.length
    · refine ⟨st, W, fl, ?_, h, fun _ he => he, hs, fun f hfl => ?_⟩
      · show xP_findReached_b74 gl _ (some (ad (0, 0))) (nI v) (nI i) st = _
        unfold xP_findReached_b74
        refine ru_g _ (r0_8 h.1) ?_
        refine ru_g _ (og_n (at_6 h.1) (by simp)) ?_
        refine ru_f (nI_ge (by omega) (by decide)) ?_
        refine ru_g _ ((r0_9 h.1).trans (by rw [h.2.2.1])) ?_
        exact ru_t (nI_le (by omega) (by omega)) rfl
      · obtain ⟨j, hj⟩ := List.getElem?_of_mem hfl
        have := (List.getElem?_eq_some_iff.mp hj).1
        exact hc j f (by omega) hj
    · have hlt : i < fl.length := by omega
      obtain ⟨f, hfe⟩ : ∃ f, f = fl[i] := ⟨_, rfl⟩
      have hget : fl[i]? = some f := by rw [hfe]; exact List.getElem?_eq_getElem hlt
      have hmem : f ∈ fl := List.mem_of_getElem? hget
      have hm := h.2.2.2.2.2.1 f hmem
      have hRW := FS_R hR h
      have hd : cwd_ W f = true := by rw [hRW.2.1]; exact hm
      have hE : cwe_ W = ze_ Z := hRW.2.2.1
      have hh := re_h h.1 hd
      rw [hE] at hh
      have hrow : so_lq (some (ad (6, 0))) [6] (nI i) st = some (some (ad (16, f))) := (og_lq (at_6 h.1) (by simp) (by omega) (by decide)).trans (by rw [h.2.2.2.1 i f hget])
      have hn4 := hz.2.1
      have hhn := hH f hm
      have front : ∀ z, (if nI (zh_ Z f) = nI v then
  (st_g (so_gq (some (ad (0, 0))) [0] 8) fun t48 =>
  st_g (so_lq t48 [6] (nI i)) fun t49 =>
  st_g (so_cm (some (ad (0, 0))) [0]) fun _ =>
  st_b (xP_reachInside gl (some (ad (0, 0))) t49) fun _ =>
  xP_findReached_b114 gl (st_it (fun rec74 => (fun x : Option Nat × Int32 × Int32 => xP_findReached_b74 gl rec74 x.1 x.2.1 x.2.2)) m) (some (ad (0, 0))) (nI v) (nI i))
  else
  (xP_findReached_b114 gl (st_it (fun rec74 => (fun x : Option Nat × Int32 × Int32 => xP_findReached_b74 gl rec74 x.1 x.2.1 x.2.2)) m) (some (ad (0, 0))) (nI v) (nI i))) st = some z → st_it (fun rec74 => (fun x : Option Nat × Int32 × Int32 => xP_findReached_b74 gl rec74 x.1 x.2.1 x.2.2)) (m + 1) (some (ad (0, 0)), nI v, nI i) st = some z := by
        intro z hz0
        show xP_findReached_b74 gl _ (some (ad (0, 0))) (nI v) (nI i) st = _
        unfold xP_findReached_b74
        refine ru_g _ (r0_8 h.1) ?_
        refine ru_g _ (og_n (at_6 h.1) (by simp)) ?_
        refine ru_f (nI_ge (by omega) (by decide)) ?_
        refine ru_g _ ((r0_9 h.1).trans (by rw [h.2.2.1])) ?_
        refine ru_f (nI_ge (by omega) (by omega)) ?_
        refine ru_g _ (r0_8 h.1) ?_
        refine ru_g _ hrow ?_
        refine ru_g _ hh ?_
        exact hz0
      by_cases hhv : zh_ Z f = v
      · obtain ⟨st1, W1, fl1, p1, p2, ⟨⟨m1, e1⟩, p4, p5⟩⟩ := xP_inside_ok hz hB.2.2.1 hR hlen hm h
        have hle : fl.length ≤ fl1.length := by rw [e1, List.length_append]; omega
        have hsub : ∀ e ∈ fl, e ∈ fl1 := fun e he => by rw [e1]; exact List.mem_append_left _ he
        obtain ⟨st2, W2, fl2, q1, q2, q3, q4, q5⟩ := ih (i + 1) m st1 W1 fl1 (by omega) (by omega) (by omega) p2 (fun e he => by
          rcases p5 e he with z | z
          · exact hs e z
          · exact ci_R hB hv4 (hs f hmem) hm hhv z (made_n0 (p2.2.2.2.2.2.1 e he))) (fun j g hj hg => by
          rw [e1, List.getElem?_append_left (by omega)] at hg
          by_cases hji : j = i
          · subst hji
            rw [hget] at hg
            cases hg
            exact fun _ => p4
          · exact fun g1 u g2 g3 => hsub u (hc j g (by omega) hg g1 u g2 g3))
        refine ⟨st2, W2, fl2, front _ ?_, q2, fun e he => q3 e (hsub e he), q4, q5⟩
        refine ru_t (by rw [hhv]) ?_
        refine ru_g _ (r0_8 h.1) ?_
        refine ru_g _ hrow ?_
        refine ru_g _ (r0_m h.1) ?_
        refine ru_b (i2 := 0) (j2 := 0) p1 ?_ rfl rfl
        unfold xP_findReached_b114
        rw [nI_1]
        exact q1
      · obtain ⟨st2, W2, fl2, q1, q2, q3, q4, q5⟩ := ih (i + 1) m st W fl (by omega) (by omega) (by omega) h hs (fun j g hj hg => by
          by_cases hji : j = i
          · subst hji
            rw [hget] at hg
            cases hg
            exact fun z => absurd z hhv
          · exact hc j g (by omega) hg)
        refine ⟨st2, W2, fl2, front _ ?_, q2, q3, q4, q5⟩
        refine ru_f (fun z => hhv ((nI_eq (by omega) (by omega)).mp z)) ?_
        unfold xP_findReached_b114
        rw [nI_1]
        exact q1
end CSP
