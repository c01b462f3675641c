/-! The class's sweep: old marks go; what is found is what is in reach. -/
def xP_fe (gl : gl_T) (p0 : Option Nat) (p1 : Int32) : st_M (Unit) :=
  st_g (so_gq p0 [0] 0) fun t4 =>
  st_g (so_lq t4 [4] p1) fun t5 =>
  st_g (so_gq t5 [5] 0) fun t6 =>
  st_g (so_cm p0 [0]) fun _ =>
  st_b (xP_reach gl p0 t6) fun _ =>
  st_g (so_cm p0 [0]) fun _ =>
  st_b (xP_reachWanted gl p0 p1) fun _ =>
  st_g (so_gq p0 [0] 0) fun t23 =>
  st_g (so_lq t23 [4] p1) fun t24 =>
  st_g (so_gq t24 [5] 1) fun t25 =>
  st_g (so_cm p0 [0]) fun _ =>
  st_b (xP_reachCalls gl p0 t25) fun _ =>
  st_it (fun rec74 => (fun x : Option Nat × Int32 × Int32 => xP_findReached_b74 gl rec74 x.1 x.2.1 x.2.2)) fu_ (p0, p1, (0 : Int32))
section CFD
variable {gl : gl_T} {fx : fx_T} {ad : Nat × Nat → Nat} {W W' W0 : cw_W} {st st' : st_S} {Z X : zz_S} {e a b v L g u q t h p w ref c n f o y k pos : Nat} {x op : Int32} {lost l fl fl1 fl2 fl' : List Nat}
theorem xP_rs_it (hz : zw_n Z) (hR : RW Z W0 50) : ∀ (d i fuel : Nat) (st : st_S) (W : cw_W), 201 - i = d → 1 ≤ i → i ≤ 201 → d < fuel → CW gl fx ad W st → (∃ cc F, W = cj_m W0 cc F) → (∀ e, zk_made Z e = true → e < i → cwc_ W e = 0) →
    ∃ st' W', FS gl fx ad Z W0 W' st' [] ∧ ∀ z, xP_fe gl (some (ad (0, 0))) (nI v) st' = some z → st_it (fun rec2 => (fun x : Option Nat × Int32 × Int32 => xP_findReached_b2 gl rec2 x.1 x.2.1 x.2.2)) fuel (some (ad (0, 0)), nI v, nI i) st = some z := by
  intro d
  induction d with
  | zero =>
    intro i fuel st W hd0 h1 hi hf hW hm hc
    obtain ⟨m, rfl⟩ : ∃ m, fuel = m + 1 := ⟨fuel - 1, by omega⟩
    obtain ⟨st', a1, a2⟩ := cu_F0 (x := 0) hW
    obtain ⟨cc, F, rfl⟩ := hm
    refine ⟨st', _, ⟨a2, ⟨_, _, rfl⟩, rfl, fun i e hi => (by simp at hi), List.nodup_nil, fun e he => (absurd he List.not_mem_nil), fun e he => ?_⟩, fun z hz0 => ?_⟩
    · rw [if_neg List.not_mem_nil]
      have := zk_K2 hz (Or.inr he)
      exact hc e he (by omega)
    · show xP_findReached_b2 gl _ (some (ad (0, 0))) (nI v) (nI i) st = _
      unfold xP_findReached_b2
      refine ru_g _ (r0_2 hW) (ru_g _ (r3_n hW) ?_)
      refine ru_t (nI_le (by omega) (by omega)) ?_
      exact ru_w _ a1 hz0
  | succ d ih =>
    intro i fuel st W hd0 h1 hi hf hW hm hc
    obtain ⟨m, rfl⟩ : ∃ m, fuel = m + 1 := ⟨fuel - 1, by omega⟩
    have hRW : RW Z W 50 := by
      obtain ⟨cc, F, rfl⟩ := hm
      exact RW_m hR
    have front : ∀ z, (if (if cwd_ W i = true then some (ad (16, i)) else none) = none then
  (xP_findReached_b30 gl (st_it (fun rec2 => (fun x : Option Nat × Int32 × Int32 => xP_findReached_b2 gl rec2 x.1 x.2.1 x.2.2)) m) (some (ad (0, 0))) (nI v) (nI i))
  else
  (st_g (so_gq (some (ad (0, 0))) [0] 2) fun t39 =>
  st_g (so_lq t39 [6] (nI i)) fun t40 =>
  st_w (so_p t40 [3, 4] 6 (.int (0 : Int32))) (
  xP_findReached_b30 gl (st_it (fun rec2 => (fun x : Option Nat × Int32 × Int32 => xP_findReached_b2 gl rec2 x.1 x.2.1 x.2.2)) m) (some (ad (0, 0))) (nI v) (nI i)))) st = some z → st_it (fun rec2 => (fun x : Option Nat × Int32 × Int32 => xP_findReached_b2 gl rec2 x.1 x.2.1 x.2.2)) (m + 1) (some (ad (0, 0)), nI v, nI i) st = some z := by
      intro z hz0
      show xP_findReached_b2 gl _ (some (ad (0, 0))) (nI v) (nI i) st = _
      unfold xP_findReached_b2
      refine ru_g _ (r0_2 hW) (ru_g _ (r3_n hW) ?_)
      refine ru_f (nI_ge (by omega) (by decide)) ?_
      refine ru_g _ (r0_2 hW) (ru_g _ (r3_l hW (by omega)) ?_)
      exact hz0
    by_cases hmd : zk_made Z i = true
    · have hd : cwd_ W i = true := by rw [hRW.2.1]; exact hmd
      obtain ⟨st1, a1, a2⟩ := cu_m (x := 0) hW hd
      obtain ⟨st2, W2, b1, b2⟩ := ih (i + 1) m st1 _ (by omega) (by omega) (by omega) (by omega) a2 (by
        obtain ⟨cc, F, rfl⟩ := hm
        exact ⟨_, _, rfl⟩) (fun e he hei => by
        show va_up (cwc_ W) i 0 e = 0
        by_cases z : e = i
        · rw [z, va_up_self]
        · rw [va_up_ne _ _ z]
          exact hc e he (by omega))
      refine ⟨st2, W2, b1, fun z hz0 => front z ?_⟩
      rw [if_pos hd]
      refine ru_f (fun z => by cases z) ?_
      refine ru_g _ (r0_2 hW) (ru_g _ (r3_l hW (by omega)) ?_)
      rw [if_pos hd]
      refine ru_w _ a1 ?_
      unfold xP_findReached_b30
      rw [nI_1]
      exact b2 z hz0
    · have hd : cwd_ W i ≠ true := by rw [hRW.2.1]; exact hmd
      obtain ⟨st2, W2, b1, b2⟩ := ih (i + 1) m st W (by omega) (by omega) (by omega) (by omega) hW hm (fun e he hei => hc e he (by
        have : e ≠ i := fun z => hmd (by rw [← z]; exact he)
        omega))
      refine ⟨st2, W2, b1, fun z hz0 => front z ?_⟩
      rw [if_neg hd]
      refine ru_t rfl ?_
      unfold xP_findReached_b30
      rw [nI_1]
      exact b2 z hz0
theorem made_v (hz : zw_n Z) (hv : v < zn_ Z) : zk_made Z (v + 1) = true := by
  have := hz.2.2.1
  unfold zk_made
  rw [Bool.or_eq_true]
  left
  simp
  omega
theorem live_v (hB : zB Z) (hv : v < zn_ Z) : zk_live Z (v + 1) = true ∧ zh_ Z (v + 1) = v := by
  obtain ⟨g1, g2⟩ := hB.2.2.2.2.2.2 v hv
  refine ⟨?_, g1⟩
  unfold zk_live
  rw [made_v hB.1 hv, g2]
  rfl
theorem r1_mk (h1 : zk_live Z u = true) (h2 : zh_ Z u = v) (h3 : u = v + 1 ∨ wb_ (ze_ Z u) = true) : zk_r1 Z v u = true := by
  unfold zk_r1
  unfold wb_ at h3
  rw [Bool.or_eq_true] at h3
  rw [Bool.and_eq_true, Bool.and_eq_true, Bool.or_eq_true, Bool.or_eq_true, decide_eq_true_iff, decide_eq_true_iff, or_assoc]
  exact ⟨⟨h1, h2⟩, h3⟩
theorem r1_dest (h : zk_r1 Z v u = true) : zk_live Z u = true ∧ zh_ Z u = v ∧ (u = v + 1 ∨ wb_ (ze_ Z u) = true) := by
  unfold zk_r1 at h
  rw [Bool.and_eq_true, Bool.and_eq_true, Bool.or_eq_true, Bool.or_eq_true, decide_eq_true_iff, decide_eq_true_iff, or_assoc] at h
  unfold wb_
  rw [Bool.or_eq_true]
  exact ⟨h.1.1, h.1.2, h.2⟩
theorem live_n0 (h : zk_live Z u = true) : u ≠ 0 := by
  unfold zk_live at h
  rw [Bool.and_eq_true] at h
  exact made_n0 h.1
theorem waits_mem (h : z_waits Z u ≠ 0) : ∃ r ∈ zr_ Z, r.1 = u := by
  unfold z_waits at h
  obtain ⟨r, hr⟩ := List.exists_mem_of_ne_nil ((zr_ Z).filter (fun r => r.1 == u)) (fun z => h (by rw [z]; rfl))
  obtain ⟨h1, h2⟩ := List.mem_filter.mp hr
  exact ⟨r, h1, by simpa using h2⟩
theorem mem_waits {r : zr_R} (h : r ∈ zr_ Z) : z_waits Z r.1 ≠ 0 := by
  unfold z_waits
  intro z
  have : r ∈ (zr_ Z).filter (fun x => x.1 == r.1) := List.mem_filter.mpr ⟨h, by simp⟩
  rw [List.length_eq_zero_iff.mp z] at this
  cases this
theorem cq_mem : cq_ Z L 0 u ↔ ∃ r ∈ zr_ Z, r.1 = L ∧ (r.2.1 = u ∨ r.2.2.2.1 = u) := by
  unfold cq_
  rw [List.drop_zero]
  constructor
  · rintro ⟨r, h1, h2⟩
    obtain ⟨h3, h4⟩ := List.mem_filter.mp h1
    exact ⟨r, h3, by simpa using h4, h2⟩
  · rintro ⟨r, h1, h2, h3⟩
    exact ⟨r, List.mem_filter.mpr ⟨h1, by simp [h2]⟩, h3⟩
theorem xP_find_ok (hB : zB Z) (hH : zH Z) (hx : zx_b Z 1000000) (hW : CW gl fx ad W st) (hR : RW Z W 50) (hv : v < zn_ Z) (hlen : (zr_ Z).length ≤ 4000) :
    ∃ st' W' fl, xP_findReached gl (some (ad (0, 0))) (nI v) st = some ((), st', 0, 0) ∧ FS gl fx ad Z W W' st' fl ∧ zk_isR Z v (fun e => decide (e ∈ fl)) := by
  have hz := hB.1
  have hn4 := hz.2.1
  have hv4 : v < 4 := by omega
  obtain ⟨st0, W0, a1, a2⟩ := xP_rs_it (v := v) hz hR 200 1 fu_ st W rfl (by omega) (by omega) (by unfold fu_; omega) hW ⟨cwc_ W, cwF_ W, rfl⟩ (fun e he h1 => by have := made_n0 he; omega)
  obtain ⟨st1, W1, fl1, b1, b2, b3⟩ := xP_reach_ok (u := v + 1) hz hR a1 (Or.inr (made_v hz hv))
  obtain ⟨st2, W2, fl2, c1, c2, c3⟩ := xP_rw_it hz hR hx hH hv4 200 1 fu_ st1 W1 fl1 rfl (by omega) (by omega) (by unfold fu_; omega) b2
  have hnW : ∀ {W1 st1 fl1}, FS gl fx ad Z W W1 st1 fl1 → v < cwn_ W1 := fun h => by rw [(RW_n (FS_R hR h)).1]; exact hv
  have hvW : cwv_ W v = true := cwv_v (by rw [(RW_n hR).1]; exact hv) (by rw [(RW_n hR).1]; exact hn4)
  obtain ⟨st3, W3, fl3, d1, d2, d3⟩ := xP_rc_ok (L := v) hz hB.2.2.1 hR hvW (Or.inl hv4) hlen c2
  have hlive : ∀ r ∈ zr_ Z, 100 < r.1 → zk_live Z r.1 = true := fun r hr h1 => by
    have k1 := hB.2.2.1.2.2.1 r hr
    have k2 := hB.2.2.2.2.1.2 r hr
    have k3 : r.2.1 = r.1 := by
      rcases k1.2.2.2 with k | k <;> omega
    have k4 := k1.1
    have k5 := k2.2.1
    rw [k3] at k4 k5
    unfold zk_live
    rw [k4.resolve_left (by omega), k5]
    rfl
  have hf2 := frt_ (frt_ b3 c3 (fun u => Iff.rfl)) d3 (fun u => Iff.rfl)
  obtain ⟨l1, l2⟩ := live_v hB hv
  obtain ⟨st4, W4, fl4, e1, e2, e3, e4, e5⟩ := xP_sp_it hB hH hR hv4 hlen 160 0 fu_ st3 W3 fl3 rfl (Nat.zero_le _) (by unfold fu_; omega) d2 (fun e he => by
    have e0 := made_n0 (d2.2.2.2.2.2.1 e he)
    rcases hf2.2.2 e he with z | (z | ⟨z, z2, z3, z4⟩) | z
    · cases z
    · rw [z]
      exact R_root (by omega) (root_or.mpr (Or.inl (r1_mk l1 l2 (Or.inl rfl))))
    · rcases z4 with z4 | ⟨z4, z5⟩
      · exact R_root e0 (root_or.mpr (Or.inl (r1_mk z2 z3 (Or.inr z4))))
      · obtain ⟨r, hr, hr1⟩ := waits_mem z5
        exact R_root e0 (root_or.mpr (Or.inr ⟨r, hr, Or.inr ⟨by omega, by rw [hr1]; exact z3, hr1⟩⟩))
    · obtain ⟨r, hr, z1, z2⟩ := cq_mem.mp z
      exact R_root e0 (root_or.mpr (Or.inr ⟨r, hr, Or.inl ⟨z1, z2⟩⟩))) (fun j f hj => absurd hj (by omega))
  refine ⟨st4, W4, fl4, ?_, e2, fun e => ?_⟩
  · unfold xP_findReached
    refine a2 _ ?_
    unfold xP_fe
    refine ru_g _ (r0_0 a1.1) ?_
    refine ru_g _ (r1_l a1.1 (hnW a1) (by rw [(RW_n (FS_R hR a1)).1]; exact hn4)) ?_
    refine ru_g _ (r7_0 a1.1 (hnW a1) (by rw [(RW_n (FS_R hR a1)).1]; exact hn4)) ?_
    refine ru_g _ (r0_m a1.1) ?_
    rw [rf_s (by omega)] at b1
    refine ru_b (i2 := 0) (j2 := 0) b1 ?_ rfl rfl
    refine ru_g _ (r0_m b2.1) ?_
    refine ru_b (i2 := 0) (j2 := 0) c1 ?_ rfl rfl
    refine ru_g _ (r0_0 c2.1) ?_
    refine ru_g _ (r1_l c2.1 (hnW c2) (by rw [(RW_n (FS_R hR c2)).1]; exact hn4)) ?_
    refine ru_g _ (r7_1 c2.1 (hnW c2) (by rw [(RW_n (FS_R hR c2)).1]; exact hn4)) ?_
    refine ru_g _ (r0_m c2.1) ?_
    exact ru_b (i2 := 0) (j2 := 0) d1 e1 rfl rfl
  · rw [decide_eq_true_iff]
    refine ⟨fun he => e4 e he, fun ⟨k, hk⟩ => of_decide_eq_true (R_in (D := fun e => decide (e ∈ fl4)) (fun u u0 hu => decide_eq_true ?_) (fun f u hf u0 hu => decide_eq_true ?_) k e hk)⟩
    · refine e3 u ?_
      rcases root_or.mp hu with z | ⟨r, hr, ⟨z1, z2⟩ | ⟨z1, z2, z3⟩⟩
      · obtain ⟨y1, y2, y3⟩ := r1_dest z
        rcases y3 with y3 | y3
        · exact hf2.2.1 u (Or.inl (Or.inl y3)) u0
        · exact hf2.2.1 u (Or.inl (Or.inr ⟨by omega, y1, y2, Or.inl y3⟩)) u0
      · exact hf2.2.1 u (Or.inr (cq_mem.mpr ⟨r, hr, z1, z2⟩)) u0
      · subst z3
        exact hf2.2.1 _ (Or.inl (Or.inr ⟨by omega, hlive r hr z1, z2, Or.inr ⟨z1, mem_waits hr⟩⟩)) u0
    · have hf : f ∈ fl4 := of_decide_eq_true hf
      rcases next_or.mp hu with z | ⟨r, hr, z1, z2, z3, z4⟩
      · obtain ⟨y1, y2, y3⟩ := n1_dest z
        refine e5 f hf y2 u ?_ u0
        rcases y3 with ⟨y3, y4, y5⟩ | ⟨y3, y4⟩
        · exact Or.inr ⟨y3, Or.inl ⟨y4, y5⟩⟩
        · exact Or.inl ⟨by omega, y4⟩
      · exact e5 f hf z3 u (Or.inr ⟨z2, Or.inr (cq_mem.mpr ⟨r, hr, z1, Or.inr z4⟩)⟩) u0
end CFD
