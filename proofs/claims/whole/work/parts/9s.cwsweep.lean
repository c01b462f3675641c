/-! The class's sweep does sweep. -/
section CSW
variable {gl : gl_T} {fx : fx_T} {ad : Nat × Nat → Nat} {W W' W0 : cw_W} {st st' : st_S} {Z X : zz_S} {v c : Nat} {l : List Nat} {D D' : Nat → Bool}
theorem isR_u (h : zk_isR Z v D) (h' : zk_isR Z v D') : D = D' := funext (fun e => by
  rw [Bool.eq_iff_iff, h e, h' e])
theorem xP_sweep_ok (hA : zA l c Z) (hc : c ≤ 512) (hH : zH Z) (hW : CW gl fx ad W st) (hR : RW Z W 50) (hL : lr_ ad W []) (hv : v < zn_ Z) :
    ∃ st' W' i j D, zk_isR Z v D ∧ xP_sweep gl (some (ad (0, 0))) (nI v) st = some ((z_sweep Z v D).2, st', i, j) ∧ CW gl fx ad W' st' ∧ RW (z_sweep Z v D).1 W' 50 ∧ lr_ ad W' [] ∧ cst_ W Z i j W' (z_sweep Z v D).1 := by
  have hi := zA_80 hA hc
  have hx := zA_x hA hc
  have hlz := zA_len hA hc
  have h4 := hi.1.2.1
  have hv4 : v < 4 := by omega
  have hlen := zr_len hi.2.1.2.1 hi.2.1.1
  obtain ⟨st1, W1, fl, a1, a2, a3⟩ := xP_find_ok hA.2.1 hH hx hW hR hv (by omega)
  obtain ⟨D, hD⟩ : ∃ D : Nat → Bool, D = fun e => decide (e ∈ fl) := ⟨_, rfl⟩
  rw [← hD] at a3
  have hRW1 := FS_R hR a2
  have hcc : ∀ e, zk_made Z e = true → cwc_ W1 e = bi_ (D e) := fun e he => by
    rw [a2.2.2.2.2.2.2 e he, hD]
    by_cases z : e ∈ fl
    · rw [if_pos z]
      show _ = bi_ (decide (e ∈ fl))
      rw [decide_eq_true z]
      rfl
    · rw [if_neg z]
      show _ = bi_ (decide (e ∈ fl))
      rw [decide_eq_false z]
      rfl
  have hz0 : zk_fr Z v D 0 = false := by
    unfold zk_fr zk_live zk_made
    simp
  have e1 : z_free Z v D 1 = Z := by
    rw [zfree_s, hz0]
    rfl
  have e2 : ((List.range 1).filter (zk_fr Z v D)).length = 0 := by
    rw [show List.range 1 = [0] from rfl, List.filter_cons, hz0]
    rfl
  obtain ⟨st2, W2, b1, b2, b3, b4, b5, b6⟩ := xP_free_it (D := D) hi.1 hH hv4 200 1 fu_ st1 W1 rfl (by omega) (by omega) (by unfold fu_; omega) a2.1 (by rw [e1]; exact hRW1) hcc
  have ff := zfree_f (Z := Z) (v := v) (D := D) 201
  have hfi := zi_free (v := v) (D := D) hi 201 (by omega)
  have k1 : ∀ e, ei_ (ze_ (z_free Z v D 201) e) = ei_ (ze_ Z e) := fun e => by
    unfold ei_
    rw [(ff.2.2.2.2.2 e).2]
  have hfx : ∀ e, e ≤ 200 → ei_ (ze_ (z_free Z v D 201) e) v < 1000000 ∧ -1000000 < ei_ (ze_ (z_free Z v D 201) e) v := fun e he => by
    rw [k1]
    have := (hx e he).1 v hv4
    exact ⟨this.2.2.2, this.2.2.1⟩
  have hn0 : ∀ e, zk_made (z_free Z v D 201) e ≠ true → ei_ (ze_ (z_free Z v D 201) e) v ≤ 0 := fun e he => by
    by_cases z : e = 0
    · rw [hfi.2.2.1.2.1 e (Or.inl z)]
      exact Int.le_refl _
    · rw [hfi.2.2.1.2.1 e (Or.inr (fun y => y.elim z he))]
      exact Int.le_refl _
  have e3 : z_drop D v (z_free Z v D 201) 1 = z_free Z v D 201 := by
    rw [zdrop_s, if_neg]
    · rfl
    · intro c
      have := hfi.2.2.1.2.1 0 (Or.inl rfl)
      have c1 : 0 < ei_ (ze_ (z_free Z v D 201) 0) v := c.1
      rw [this] at c1
      exact absurd c1 (show ¬ (0 : Int) < 0 by decide)
  have hmk : ∀ e, zk_made (z_free Z v D 201) e = zk_made Z e := fun e => by
    unfold zk_made zo_ zp_
    rw [ff.1]
  have hnn : zn_ (z_free Z v D 201) = zn_ Z := by unfold zn_; rw [ff.1]
  obtain ⟨st3, W3, i3, j3, c1, c2, c3, c4, c5⟩ := xP_rel_it (D := D) hfi.1 hn0 (fun e he => by rw [hnn, (ff.2.2.2.2.2 e).1]; exact hH e (by rw [← hmk]; exact he)) (by rw [hnn]; exact hv) (by rw [ff.2.2.2.1]; omega) hfx 200 1 fu_ st2 W2 rfl (by omega) (by omega) (by unfold fu_; omega) b2 (by rw [e3]; exact b3) (fun e he => by
    rw [b4]
    exact hcc e (by rw [← hmk]; exact he))
  have e5 : (z_sweep Z v D).1 = z_drop D v (z_free Z v D 201) 201 := by unfold z_sweep; with_reducible rfl
  have e6 : (z_sweep Z v D).2 = nI ((List.range 201).filter (zk_fr Z v D)).length := by unfold z_sweep; with_reducible rfl
  have hL1 : cwL_ W1 = cwL_ W ∧ bk_ W1 = bk_ W := by
    obtain ⟨cc, F, hWe⟩ := a2.2.1
    rw [hWe]
    exact ⟨rfl, rfl⟩
  rw [e3] at c5
  refine ⟨st3, W3, i3, j3, D, a3, ?_, c2, by rw [e5]; exact c3, ?_, ?_⟩
  · rw [e6]
    unfold xP_sweep
    refine ru_g _ (r0_m hW) ?_
    refine ru_b (i2 := i3) (j2 := j3) (xP_isVat_y hW hR hi.1 hv) ?_ (by omega) (by omega)
    refine ru_f (by decide) ?_
    refine ru_g _ (r0_m hW) ?_
    refine ru_b (i2 := i3) (j2 := j3) a1 ?_ (by omega) (by omega)
    refine ru_g _ (r0_m a2.1) ?_
    rw [e2] at b1
    refine ru_b (i2 := i3) (j2 := j3) b1 ?_ (by omega) (by omega)
    refine ru_g _ (r0_m b2) ?_
    exact ru_b (i2 := 0) (j2 := 0) c1 rfl rfl rfl
  · unfold lr_ at hL ⊢
    rw [c4, b5, hL1.1]
    exact hL
  · obtain ⟨k2, k3⟩ := c5
    rw [b6, hL1.2, ff.2.2.2.1] at k2 k3
    rw [e5]
    exact ⟨k2, k3⟩
end CSW
