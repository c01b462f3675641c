/-! The class's sweep: calls, slots, outcomes. -/
/-- what the calls at the place L speak of, from the i-th on -/
def cq_ (Z : zz_S) (L i u : Nat) : Prop := ∃ r ∈ ((zr_ Z).filter (fun r => r.1 == L)).drop i, r.2.1 = u ∨ r.2.2.2.1 = u
/-- what f holds -/
def ci_ (Z : zz_S) (f u : Nat) : Prop := (f ≤ 100 ∧ ∃ s, s < 4 ∧ el_ (ze_ Z f) s = u) ∨ (100 < f ∧ ((es_ (ze_ Z f) = true ∧ et_ (ze_ Z f) = u) ∨ cq_ Z f 0 u))
section CIN
variable {gl : gl_T} {fx : fx_T} {ad : Nat × Nat → Nat} {W W' W0 : cw_W} {st st' : st_S} {Z X : zz_S} {e a b v L g u q t h p w ref c n f o y k pos : Nat} {x op : Int32} {lost l fl fl1 fl2 fl' : List Nat}
theorem FS_R (hR : RW Z W0 50) (h : FS gl fx ad Z W0 W st fl) : RW Z W 50 := by
  obtain ⟨cc, F, hWe⟩ := h.2.1
  rw [hWe]
  exact RW_m hR
theorem FS_l (h : FS gl fx ad Z W0 W st fl) : cwl_ W = cwl_ W0 ∧ cwC_ W = cwC_ W0 := by
  obtain ⟨cc, F, hWe⟩ := h.2.1
  rw [hWe]
  exact ⟨rfl, rfl⟩
theorem xP_rc_it (hz : zw_n Z) (hd : zd_ (zk_K Z) Z) (hR : RW Z W0 50) (hv : cwv_ W0 L = true) (hL : L < 4 ∨ 100 < L) (hlen : (zr_ Z).length ≤ 4000) : ∀ (d i fuel : Nat) (st : st_S) (W : cw_W) (fl : List Nat), ((zr_ Z).filter (fun r => r.1 == L)).length - i = d → i ≤ ((zr_ Z).filter (fun r => r.1 == L)).length → d < fuel → FS gl fx ad Z W0 W st fl →
    ∃ st' W' fl', st_it (fun rec2 => (fun x : Option Nat × Option Nat × Int32 => xP_reachCalls_b2 gl rec2 x.1 x.2.1 x.2.2)) fuel (some (ad (0, 0)), some (ad (lk_ L)), nI i) st = some ((), st', 0, 0) ∧ FS gl fx ad Z W0 W' st' fl' ∧ fr_ fl fl' (cq_ Z L i) := by
  have hvW : ∀ {W st fl}, FS gl fx ad Z W0 W st fl → cwv_ W L = true := fun h => by
    obtain ⟨cc, F, hWe⟩ := h.2.1
    rw [hWe]
    exact hv
  have hl0 := hR.2.2.2.2.2.1 L hv hL (by omega)
  unfold rwl_ at hl0
  have hlen0 : (cwl_ W0 L).length = ((zr_ Z).filter (fun r => r.1 == L)).length := by
    have := congrArg List.length hl0
    rw [List.length_map, List.length_map] at this
    exact this
  have hfl : ((zr_ Z).filter (fun r => r.1 == L)).length ≤ 4000 := Nat.le_trans (List.length_filter_le _ _) hlen
  have hsz : ∀ {W st fl}, FS gl fx ad Z W0 W st fl → al_size gl (some (ad (lk_ L))) st = some (nI ((zr_ Z).filter (fun r => r.1 == L)).length, st, 0, 0) := fun {W st fl} h => by
    have := cu_size h.1 (hvW h) (FS_R hR h).2.2.2.2.2.2.2
    rw [(FS_l h).1, hlen0] at this
    exact this
  intro d
  induction d with
  | zero =>
    intro i fuel st W fl hd0 hi hf h
    obtain ⟨m, rfl⟩ : ∃ m, fuel = m + 1 := ⟨fuel - 1, by omega⟩
    refine ⟨st, W, fl, ?_, h, fr_i (fun u hu _ => ?_)⟩
    · show xP_reachCalls_b2 gl _ (some (ad (0, 0))) (some (ad (lk_ L))) (nI i) st = _
      unfold xP_reachCalls_b2
      refine ru_g _ (cu_lm h.1 (hvW h)) ?_
      refine ru_b (i2 := 0) (j2 := 0) (hsz h) ?_ rfl rfl
      exact ru_t (nI_le (by omega) (by omega)) rfl
    · obtain ⟨r, hr, -⟩ := hu
      rw [List.drop_eq_nil_of_le (by omega)] at hr
      cases hr
  | succ d ih =>
    intro i fuel st W fl hd0 hi hf h
    obtain ⟨m, rfl⟩ : ∃ m, fuel = m + 1 := ⟨fuel - 1, by omega⟩
    have hlt : i < ((zr_ Z).filter (fun r => r.1 == L)).length := by omega
    obtain ⟨r, hre⟩ : ∃ r, r = ((zr_ Z).filter (fun r => r.1 == L))[i] := ⟨_, rfl⟩
    have hrget : ((zr_ Z).filter (fun r => r.1 == L))[i]? = some r := by rw [hre]; exact List.getElem?_eq_getElem hlt
    have hrm : r ∈ zr_ Z := (List.mem_filter.mp (List.mem_of_getElem? hrget)).1
    obtain ⟨k1, k2, k3, -⟩ := hd.2.2.1 r hrm
    have hdrop : ((zr_ Z).filter (fun r => r.1 == L)).drop i = r :: ((zr_ Z).filter (fun r => r.1 == L)).drop (i + 1) := by rw [hre]; exact List.drop_eq_getElem_cons hlt
    obtain ⟨a, ha1, ha2⟩ : ∃ a, (cwl_ W0 L)[i]? = some a ∧ cwC_ W0 a = some r.2 := by
      have hlt2 : i < (cwl_ W0 L).length := by omega
      refine ⟨(cwl_ W0 L)[i], List.getElem?_eq_getElem hlt2, ?_⟩
      have h3 : ((cwl_ W0 L).map (cwC_ W0))[i]? = some (cwC_ W0 (cwl_ W0 L)[i]) := by rw [List.getElem?_map, List.getElem?_eq_getElem hlt2]; rfl
      rw [hl0, List.getElem?_map, hrget] at h3
      exact (Option.some.inj h3).symm
    have hget : ∀ {W st fl}, FS gl fx ad Z W0 W st fl → al_get gl (some (ad (lk_ L))) (nI i) st = some (some a, st, 0, 0) := fun {W st fl} h => by
      have := cu_get h.1 (hvW h) (FS_R hR h).2.2.2.2.2.2.2 (i := i) (by rw [(FS_l h).1]; omega)
      rw [(FS_l h).1, ha1] at this
      exact this
    have hC : ∀ {W st fl}, FS gl fx ad Z W0 W st fl → cwC_ W a = some r.2 := fun {W st fl} h => by rw [(FS_l h).2]; exact ha2
    obtain ⟨st1, W1, fl1, p1, p2, p3⟩ := xP_reach_ok (u := r.2.1) hz hR h k1
    obtain ⟨st2, W2, fl2, q1, q2, q3⟩ := xP_reach_ok (u := r.2.2.2.1) hz hR p2 k2
    obtain ⟨st3, W3, fl3, w1, w2, w3⟩ := ih (i + 1) m st2 W2 fl2 (by omega) (by omega) (by omega) q2
    refine ⟨st3, W3, fl3, ?_, w2, frt_ (frt_ (C := fun u => u = r.2.1 ∨ u = r.2.2.2.1) p3 q3 (fun u => Iff.rfl)) w3 (fun u => ?_)⟩
    · show xP_reachCalls_b2 gl _ (some (ad (0, 0))) (some (ad (lk_ L))) (nI i) st = _
      unfold xP_reachCalls_b2
      refine ru_g _ (cu_lm h.1 (hvW h)) ?_
      refine ru_b (i2 := 0) (j2 := 0) (hsz h) ?_ rfl rfl
      refine ru_f (nI_ge hlt (by omega)) ?_
      refine ru_g _ (cu_lm h.1 (hvW h)) ?_
      refine ru_b (i2 := 0) (j2 := 0) (hget h) ?_ rfl rfl
      refine ru_g _ (og_k (rd_C h.1 (hC h)) (by simp)) ?_
      refine ru_g _ (rC_0 h.1 (hC h)) ?_
      refine ru_g _ (r0_m h.1) ?_
      refine ru_b (i2 := 0) (j2 := 0) p1 ?_ rfl rfl
      refine ru_g _ (cu_lm p2.1 (hvW p2)) ?_
      refine ru_b (i2 := 0) (j2 := 0) (hget p2) ?_ rfl rfl
      refine ru_g _ (og_k (rd_C p2.1 (hC p2)) (by simp)) ?_
      refine ru_g (rf_ ad r.2.2.2.1) (og_q (q := rf_ ad r.2.2.2.1) (rd_C p2.1 (hC p2)) (by simp) rfl) ?_
      refine ru_g _ (r0_m p2.1) ?_
      refine ru_b (i2 := 0) (j2 := 0) q1 ?_ rfl rfl
      rw [nI_1]
      exact w1
    · unfold cq_
      rw [hdrop]
      constructor
      · rintro ⟨s, s1, s2⟩
        rcases List.mem_cons.mp s1 with z | z
        · rw [z] at s2
          exact Or.inl (s2.imp Eq.symm Eq.symm)
        · exact Or.inr ⟨s, z, s2⟩
      · rintro (z | ⟨s, s1, s2⟩)
        · exact ⟨r, List.mem_cons_self, z.imp Eq.symm Eq.symm⟩
        · exact ⟨s, List.mem_cons_of_mem _ s1, s2⟩
theorem xP_rc_ok (hz : zw_n Z) (hd : zd_ (zk_K Z) Z) (hR : RW Z W0 50) (hv : cwv_ W0 L = true) (hL : L < 4 ∨ 100 < L) (hlen : (zr_ Z).length ≤ 4000) (h : FS gl fx ad Z W0 W st fl) : ∃ st' W' fl', xP_reachCalls gl (some (ad (0, 0))) (some (ad (lk_ L))) st = some ((), st', 0, 0) ∧ FS gl fx ad Z W0 W' st' fl' ∧ fr_ fl fl' (cq_ Z L 0) :=
  xP_rc_it hz hd hR hv hL hlen _ 0 fu_ st W fl rfl (Nat.zero_le _) (by have : ((zr_ Z).filter (fun r => r.1 == L)).length ≤ 4000 := Nat.le_trans (List.length_filter_le _ _) hlen; unfold fu_; omega) h
theorem xP_ri_it (hz : zw_n Z) (hd : zd_ (zk_K Z) Z) (hR : RW Z W0 50) (hm : zk_made Z f = true) (hf1 : f ≤ 100) : ∀ (d i fuel : Nat) (st : st_S) (W : cw_W) (fl : List Nat), 4 - i = d → i ≤ 4 → d < fuel → FS gl fx ad Z W0 W st fl →
    ∃ st' W' fl', st_it (fun rec15 => (fun x : Option Nat × Option Nat × Int32 => xP_reachInside_b15 gl rec15 x.1 x.2.1 x.2.2)) fuel (some (ad (0, 0)), some (ad (16, f)), nI i) st = some ((), st', 0, 0) ∧ FS gl fx ad Z W0 W' st' fl' ∧ fr_ fl fl' (fun u => ∃ s, i ≤ s ∧ s < 4 ∧ el_ (ze_ Z f) s = u) := by
  intro d
  induction d with
  | zero =>
    intro i fuel st W fl hd0 hi hf h
    obtain ⟨m, rfl⟩ : ∃ m, fuel = m + 1 := ⟨fuel - 1, by omega⟩
    refine ⟨st, W, fl, ?_, h, fr_i (fun u hu _ => ?_)⟩
    · show xP_reachInside_b15 gl _ (some (ad (0, 0))) (some (ad (16, f))) (nI i) st = _
      unfold xP_reachInside_b15
      exact ru_t (show nI 4 ≤ nI i from nI_le (by omega) (by omega)) rfl
    · obtain ⟨s, s1, s2, -⟩ := hu
      omega
  | succ d ih =>
    intro i fuel st W fl hd0 hi hf h
    obtain ⟨m, rfl⟩ : ∃ m, fuel = m + 1 := ⟨fuel - 1, by omega⟩
    have hRW := FS_R hR h
    have hdW : cwd_ W f = true := by rw [hRW.2.1]; exact hm
    have hE : cwe_ W f = ze_ Z f := by rw [hRW.2.2.1]
    obtain ⟨st1, W1, fl1, p1, p2, p3⟩ := xP_reach_ok (u := el_ (ze_ Z f) i) hz hR h ((hd.1 f).2.1 i)
    obtain ⟨st3, W3, fl3, w1, w2, w3⟩ := ih (i + 1) m st1 W1 fl1 (by omega) (by omega) (by omega) p2
    refine ⟨st3, W3, fl3, ?_, w2, frt_ p3 w3 (fun u => ?_)⟩
    · show xP_reachInside_b15 gl _ (some (ad (0, 0))) (some (ad (16, f))) (nI i) st = _
      unfold xP_reachInside_b15
      refine ru_f (show ¬ nI 4 ≤ nI i from nI_ge (by omega) (by decide)) ?_
      refine ru_g _ (og_q (q := some (ad (20, f))) (ro_at h.1 hdW hf1) (by simp) rfl) ?_
      refine ru_g (rf_ ad (el_ (ze_ Z f) i)) ((og_lq (at_20 h.1 hdW hf1) (by simp) (show i < 4 by omega) (by decide)).trans (by rw [hE])) ?_
      refine ru_g _ (r0_m h.1) ?_
      refine ru_b (i2 := 0) (j2 := 0) p1 ?_ rfl rfl
      rw [nI_1]
      exact w1
    · constructor
      · rintro ⟨s, s1, s2, s3⟩
        by_cases z : s = i
        · rw [z] at s3
          exact Or.inl s3.symm
        · exact Or.inr ⟨s, by omega, s2, s3⟩
      · rintro (z | ⟨s, s1, s2, s3⟩)
        · exact ⟨i, Nat.le_refl _, by omega, z.symm⟩
        · exact ⟨s, by omega, s2, s3⟩
theorem xP_inside_ok (hz : zw_n Z) (hd : zd_ (zk_K Z) Z) (hR : RW Z W0 50) (hlen : (zr_ Z).length ≤ 4000) (hm : zk_made Z f = true) (h : FS gl fx ad Z W0 W st fl) : ∃ st' W' fl', xP_reachInside gl (some (ad (0, 0))) (some (ad (16, f))) st = some ((), st', 0, 0) ∧ FS gl fx ad Z W0 W' st' fl' ∧ fr_ fl fl' (ci_ Z f) := by
  have hRW := FS_R hR h
  have hdW : cwd_ W f = true := by rw [hRW.2.1]; exact hm
  have hE : cwe_ W f = ze_ Z f := by rw [hRW.2.2.1]
  unfold xP_reachInside
  by_cases hf1 : f ≤ 100
  · have hro := ro_at h.1 hdW hf1
    obtain ⟨st1, W1, fl1, p1, p2, p3⟩ := xP_ri_it hz hd hR hm hf1 4 0 fu_ st W fl rfl (by omega) (by unfold fu_; omega) h
    refine ⟨st1, W1, fl1, ?_, p2, fr_c p3 (fun u => ?_)⟩
    · refine ru_g _ (og_i1 hro (by simp)) ?_
      refine ru_f (by decide) ?_
      refine ru_g _ (og_k hro (by simp)) ?_
      exact p1
    · unfold ci_
      constructor
      · rintro ⟨s, s1, s2, s3⟩
        exact Or.inl ⟨hf1, s, s2, s3⟩
      · rintro (⟨-, s, s2, s3⟩ | z)
        · exact ⟨s, Nat.zero_le _, s2, s3⟩
        · omega
  · have hro := rp_at h.1 hdW (by omega)
    have hv0 : cwv_ W0 f = true := cwv_p (by omega) (by rw [hR.2.1]; exact hm)
    have hk : zk_K Z (if es_ (ze_ Z f) = true then et_ (ze_ Z f) else 0) := by
      split
      · exact (hd.1 f).1
      · exact zk_K0
    obtain ⟨st1, W1, fl1, p1, p2, p3⟩ := xP_reach_ok hz hR h hk
    have hRW1 := FS_R hR p2
    have hdW1 : cwd_ W1 f = true := by rw [hRW1.2.1]; exact hm
    have hro1 := rp_at p2.1 hdW1 (by omega)
    obtain ⟨st2, W2, fl2, q1, q2, q3⟩ := xP_rc_ok hz hd hR hv0 (Or.inr (by omega)) hlen p2
    refine ⟨st2, W2, fl2, ?_, q2, ?_⟩
    · refine ru_g _ (og_i0 hro (by simp) (by simp)) ?_
      refine ru_t rfl ?_
      refine ru_g _ (og_i1 hro (by simp)) ?_
      refine ru_f (by decide) ?_
      refine ru_g _ (og_k hro (by simp)) ?_
      refine ru_g _ ((og_q (q := rf_ ad (if es_ (cwe_ W f) = true then et_ (cwe_ W f) else 0)) hro (by simp) rfl).trans (by rw [hE])) ?_
      refine ru_g _ (r0_m h.1) ?_
      refine ru_b (i2 := 0) (j2 := 0) p1 ?_ rfl rfl
      refine ru_g (some (ad (lk_ f))) ?_ ?_
      · rw [lk_p (by omega)]
        exact og_q (q := some (ad (20, f))) hro1 (by simp) rfl
      · refine ru_g _ (r0_m p2.1) ?_
        exact ru_b q1 rfl rfl rfl
    · obtain ⟨⟨m1, e1⟩, a2, a3⟩ := frt_ (C := fun u => u = (if es_ (ze_ Z f) = true then et_ (ze_ Z f) else 0) ∨ cq_ Z f 0 u) p3 q3 (fun u => Iff.rfl)
      refine ⟨⟨m1, e1⟩, fun u hu h0 => ?_, fun e he => ?_⟩
      · rcases hu with z | ⟨-, z | z⟩
        · omega
        · exact a2 u (Or.inl (by rw [if_pos z.1]; exact z.2.symm)) h0
        · exact a2 u (Or.inr z) h0
      · rcases a3 e he with z | z | z
        · exact Or.inl z
        · by_cases hes : es_ (ze_ Z f) = true
          · rw [if_pos hes] at z
            exact Or.inr (Or.inr ⟨by omega, Or.inl ⟨hes, z.symm⟩⟩)
          · rw [if_neg hes] at z
            have := made_n0 (q2.2.2.2.2.2.1 e he)
            exact absurd z this
        · exact Or.inr (Or.inr ⟨by omega, Or.inr z⟩)
end CIN
