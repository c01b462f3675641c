/-! The class: a turn. -/
section CTT
variable {gl : gl_T} {fx : fx_T} {ad : Nat × Nat → Nat} {W W' : cw_W} {st st' : st_S} {Z X : zz_S} {e a b s v L g u q t h p w ref c n f o y k pos : Nat} {x op : Int32} {lost l : List Nat} {r : zr_R}
theorem zfirst_f {v : Nat} {r : zr_R} : ∀ {l m : List zr_R}, z_first v l = some (r, m) → r.1 = v ∧ l.filter (fun x => x.1 == v) = r :: m.filter (fun x => x.1 == v) ∧ ∀ w, w ≠ v → l.filter (fun x => x.1 == w) = m.filter (fun x => x.1 == w)
  | [], m, h => by cases h
  | x :: l, m, h => by
    unfold z_first at h
    by_cases hx : x.1 = v
    · rw [if_pos hx] at h
      cases h
      refine ⟨hx, by rw [List.filter_cons_of_pos (by simpa using hx)], fun w hw => ?_⟩
      rw [List.filter_cons_of_neg (by simpa [hx] using fun z => hw z.symm)]
    · rw [if_neg hx] at h
      obtain ⟨⟨r', m'⟩, h1, h2⟩ := Option.map_eq_some_iff.mp h
      cases h2
      obtain ⟨i1, i2, i3⟩ := zfirst_f h1
      refine ⟨i1, ?_, fun w hw => ?_⟩
      · rw [List.filter_cons_of_neg (by simpa using hx), i2]
        rw [List.filter_cons_of_neg (by simpa using hx)]
      · rw [List.filter_cons, List.filter_cons, i3 w hw]
theorem zfirst_n {v : Nat} : ∀ {l : List zr_R}, z_first v l = none → l.filter (fun x => x.1 == v) = []
  | [], _ => rfl
  | x :: l, h => by
    unfold z_first at h
    by_cases hx : x.1 = v
    · rw [if_pos hx] at h
      cases h
    · rw [if_neg hx] at h
      rw [List.filter_cons_of_neg (by simpa using hx)]
      exact zfirst_n (Option.map_eq_none_iff.mp h)
/-- a resting call is taken off its vat -/
theorem RW_takeR (hR : RW Z W s) (hv : cwv_ W v = true) (hv4 : v < 4) (hs : v ≠ s) {m : List zr_R} (ho : z_first v (zr_ Z) = some (r, m)) {ys : List Nat} (hl : cwl_ W v = y :: ys) {mc : Int32} {ea : Nat} : cwC_ W y = some r.2 ∧ RW (zj_r Z m) (cj_k (cj_l W v ys) v ((cwk_ W v).1, mc, ea)) s := by
  obtain ⟨f0, f1, f2⟩ := zfirst_f ho
  obtain ⟨h1, h2, h3, h5, h6, h7, h8, h9⟩ := hR
  have hc := h7 v hv (Or.inl hv4) hs
  unfold rwl_ at hc
  rw [hl, f1, List.map_cons, List.map_cons] at hc
  have hc1 := (List.cons.inj hc).1
  have hc2 := (List.cons.inj hc).2
  have ln : ∀ K, K ≠ v → cwl_ (cj_k (cj_l W v ys) v ((cwk_ W v).1, mc, ea)) K = cwl_ W K := fun K hK => va_up_ne _ _ hK
  have ls : cwl_ (cj_k (cj_l W v ys) v ((cwk_ W v).1, mc, ea)) v = ys := va_up_self _ _ _
  have hk : ∀ K, (cwk_ (cj_k (cj_l W v ys) v ((cwk_ W v).1, mc, ea)) K).1 = (cwk_ W K).1 := fun K => by
    show (va_up (cwk_ W) v ((cwk_ W v).1, mc, ea) K).1 = _
    unfold va_up
    split
    · rename_i z
      rw [z]
    · rfl
  refine ⟨hc1, h1, h2, h3, h5, h6, fun K hK hK2 hKs => ?_, fun c d hc' hd => ?_, fun K hK => ?_⟩
  · have := h7 K hK hK2 hKs
    unfold rwl_ at this ⊢
    show _ = (m.filter _).map _
    by_cases z : K = v
    · subst z
      rw [ls]
      exact hc2
    · rw [ln K z, ← f2 K z]
      exact this
  · have := h8 c d hc' hd
    unfold rwc_ at this ⊢
    rw [ln _ (by omega)]
    exact this
  · obtain ⟨w1, w2, w3⟩ := h9 K hK
    rw [hk K]
    by_cases z : K = v
    · subst z
      rw [ls]
      rw [hl] at w1 w3
      rw [List.length_cons] at w1
      exact ⟨by omega, w2, fun y' hy' => w3 y' (List.mem_cons_of_mem _ hy')⟩
    · rw [ln K z]
      exact ⟨w1, w2, w3⟩
theorem xP_turn_ok (hl : l.Nodup) (hA : zA l c Z) (hc : c ≤ 512) (hH : zH Z) (hw8 : zW Z) (hW : CW gl fx ad W st) (hR : RW Z W 50) (hL : lr_ ad W []) (hv : v < zn_ Z) :
    ∃ ad' st' W' i j, xP_turn gl (some (ad (0, 0))) (nI v) st = some ((z_turn Z v).2, st', i, j) ∧ CW gl fx ad' W' st' ∧ RW (z_turn Z v).1 W' 50 ∧ lr_ ad' W' [] ∧ ag_ ad ad' W ∧ i + (bk_ W + (zl_ Z).length) ≤ bk_ W' + (zl_ (z_turn Z v).1).length + 48 ∧ j + (4 * bk_ W + 5 * (zl_ Z).length) ≤ 4 * bk_ W' + 5 * (zl_ (z_turn Z v).1).length + 328 := by
  have hi := zA_80 hA hc
  obtain ⟨-, hB, hpk, hE, hzt⟩ := hA
  have z1 := hB.1
  have hn := RW_n hR
  have h4 := z1.2.1
  have hvl := cwv_v (W := W) (v := v) (by omega) (by omega)
  have hemp := cu_empty hW hvl hR.2.2.2.2.2.2.2
  have front : ∀ (z1 : Int32) (z2 : st_S) (z3 z4 : Nat), (if (if cwl_ W v = [] then (1 : Int32) else 0) = 0 then
  (st_g (so_gq (some (ad (0, 0))) [0] 0) fun t20 =>
  st_g (so_lq t20 [4] (nI v)) fun t21 =>
  st_g (so_gq t21 [5] 1) fun t22 =>
  st_g (so_cm t22 [6]) fun _ =>
  st_b (al_remove gl t22 (0 : Int32)) fun t23 =>
  st_g (so_k t23 [8]) fun _ =>
  st_g (so_gq t23 [8] 0) fun t32 =>
  st_g (so_i t32 [3] [4]) fun t33 =>
  if t33 = 0 then
  (st_r (-1 : Int32))
  else
  (st_g (so_k t32 [3]) fun _ =>
  st_g (so_gq (some (ad (0, 0))) [0] 5) fun t35 =>
  st_g (so_cm t35 [1]) fun _ =>
  st_b (xT_begin gl t35 t32 t23) fun _ =>
  st_g (so_gq (some (ad (0, 0))) [0] 1) fun t44 =>
  st_g (so_gi t32 [3] 0) fun t45 =>
  st_g (so_lq t44 [5] t45) fun t46 =>
  st_it (fun rec85 => (fun x : Option Nat × Int32 × Option Nat × Option Nat × Option Nat × Int32 => xP_turn_b85 gl rec85 x.1 x.2.1 x.2.2.1 x.2.2.2.1 x.2.2.2.2.1 x.2.2.2.2.2)) fu_ ((some (ad (0, 0))), nI v, t23, t32, t46, (0 : Int32))))
  else
  (xP_turn_b23 gl )) st = some (z1, z2, z3, z4) → xP_turn gl (some (ad (0, 0))) (nI v) st = some (z1, z2, z3, z4) := by
    intro y1 y2 y3 y4 hy
    unfold xP_turn
    refine ru_g _ (r0_m hW) ?_
    refine ru_b (i2 := y3) (j2 := y4) (xP_isVat_y hW hR z1 hv) ?_ (by omega) (by omega)
    refine ru_f (by decide) ?_
    refine ru_g _ (r0_0 hW) ?_
    refine ru_g _ (r1_l hW (by omega) (by omega)) ?_
    refine ru_g _ (r7_1 hW (by omega) (by omega)) ?_
    refine ru_g _ (cu_lm hW hvl) ?_
    exact ru_b (i2 := y3) (j2 := y4) hemp hy (by omega) (by omega)
  have hrl := hR.2.2.2.2.2.1 v hvl (Or.inl (by omega)) (by omega)
  unfold rwl_ at hrl
  rcases zfirst_or v (zr_ Z) with ⟨h1, h2⟩ | ⟨i, r, h1, h2, h3, h4'⟩
  · have et : z_turn Z v = (Z, -1) := by unfold z_turn; rw [h1]
    rw [et]
    have he : cwl_ W v = [] := by
      rw [zfirst_n h1] at hrl
      exact List.map_eq_nil_iff.mp hrl
    refine ⟨ad, st, W, 0, 0, front _ _ _ _ ?_, hW, hR, hL, ag_i, by dsimp only; omega, by dsimp only; omega⟩
    exact ru_f (by rw [if_pos he]; decide) rfl
  · have et : z_turn Z v = (z_done v (z_settle (z_run v r.2.1 (zg_ Z (ep_ (ze_ Z r.2.1))) 0 (zj_r Z ((zr_ Z).eraseIdx i), r.2.2.1, r.2.2.2.1)).1 [] v r.2.2.2.2 (z_run v r.2.1 (zg_ Z (ep_ (ze_ Z r.2.1))) 0 (zj_r Z ((zr_ Z).eraseIdx i), r.2.2.1, r.2.2.2.1)).2.2), nI r.2.1) := by
      unfold z_turn
      rw [h2]
    rw [et]
    obtain ⟨y, ys, hys⟩ : ∃ y ys, cwl_ W v = y :: ys := by
      cases hh : cwl_ W v with
      | nil =>
        rw [hh, (zfirst_f h2).2.1] at hrl
        cases hrl
      | cons y ys => exact ⟨y, ys, rfl⟩
    have hr : r ∈ zr_ Z := List.mem_of_getElem? h1
    have hperm := er_perm h1
    obtain ⟨t1, t2, t3⟩ := zi_take hi hperm
    obtain ⟨r1, r2, r3, r4⟩ := hi.2.2.1.2.2.1 r hr
    have ho : 1 ≤ r.2.1 ∧ r.2.1 ≤ zo_ Z := by
      have := zk_K3 r1
      rcases r4 with c | c <;> omega
    obtain ⟨a1, a2, a3, a4, a5, a6, a7⟩ := hB
    have hsub : ((zr_ Z).eraseIdx i).Sublist (zr_ Z) := List.eraseIdx_sublist _ _
    have hB0 : zB (zj_r Z ((zr_ Z).eraseIdx i)) := ⟨a1, t1.2.1.1, t1.2.2.1, a4, ⟨a5.1, fun y hy => a5.2 y (hsub.subset hy)⟩, zn_zs zs_r a6, a7⟩
    have hp0 : zpk (zj_r Z ((zr_ Z).eraseIdx i)) := zpk_s hpk (hsub.filter _)
    obtain ⟨k1, k2, k3⟩ := a5.2 r hr
    have hw : zr_w Z r = v := by
      unfold zr_w
      rw [if_pos (by omega), h3]
    rw [hw] at k1 k3
    have hqq : r.2.2.2.2 = 0 ∨ 100 < r.2.2.2.2 := by
      rcases Nat.eq_zero_or_pos r.2.2.2.2 with c | c
      · exact Or.inl c
      · refine Or.inr (t3.2 _ (List.mem_append_left _ ?_)).1
        unfold za_1
        rw [if_pos c]
        exact List.mem_singleton.mpr rfl
    have o0 : r.2.1 ≠ 0 := by omega
    have hom : zk_made Z r.2.1 = true := r1.resolve_left o0
    have h60 := a1.2.2.2.1
    obtain ⟨st1, q1, q2, q3⟩ := cu_rem hW hvl hR.2.2.2.2.2.2.2 hys
    obtain ⟨hcy, hR1⟩ := RW_takeR (mc := (cwk_ W v).2.1 + 1) (ea := (cwk_ W v).2.2) hR hvl (by omega) (by omega) h2 hys
    have hbk1 := bk_k (W := W) (L := v) (y := ((cwk_ W v).1, (cwk_ W v).2.1 + 1, (cwk_ W v).2.2)) (xs := ys) hvl (by omega)
    have hC1 : cwC_ (cj_k (cj_l W v ys) v ((cwk_ W v).1, (cwk_ W v).2.1 + 1, (cwk_ W v).2.2)) y = some r.2 := hcy
    have hd1 : cwd_ (cj_k (cj_l W v ys) v ((cwk_ W v).1, (cwk_ W v).2.1 + 1, (cwk_ W v).2.2)) r.2.1 = true := by
      show cwd_ W r.2.1 = true
      rw [hR.2.1]
      exact hom
    have hL1 : lr_ ad (cj_k (cj_l W v ys) v ((cwk_ W v).1, (cwk_ W v).2.1 + 1, (cwk_ W v).2.2)) [] := hL
    have hdd : cwd_ (cj_k (cj_l W v ys) v ((cwk_ W v).1, (cwk_ W v).2.1 + 1, (cwk_ W v).2.2)) = cwd_ W := rfl
    have hE1 : cwe_ (cj_k (cj_l W v ys) v ((cwk_ W v).1, (cwk_ W v).2.1 + 1, (cwk_ W v).2.2)) = ze_ Z := hR.2.2.1
    generalize cj_k (cj_l W v ys) v ((cwk_ W v).1, (cwk_ W v).2.1 + 1, (cwk_ W v).2.2) = W1 at q2 hR1 hbk1 hC1 hd1 hL1 hdd hE1
    obtain ⟨st2, b1, b2⟩ := xT_begin_ok (u := r.2.1) q2 hC1
    have hg8 := (hi.2.2.1.1 r.2.1).2.2
    have hp8 := a1.2.2.2.2.2 _ hg8
    have htv : tv_ gl fx l 2080 v r.2.1 r.2.2.2.2 y ad (cj_T W1 (r.2.1, r.2.2.1, r.2.2.2.1, 0)) st2 (zj_r Z ((zr_ Z).eraseIdx i)) r.2.2.1 r.2.2.2.1 0 := by
      refine ⟨b2, RW_T hR1, hL1, hB0, hH, ?_, ?_, hp0, rfl, ho, k1, k2, hv, r2, k3, r.2, hC1, rfl, r1, r2, r3⟩
      · exact fun p hp => Nat.le_trans (hsub.filter _).length_le (hw8 p hp)
      · exact ⟨t1.1, ⟨t1.2.1.1, t1.2.1.2.1, Nat.le_trans t1.2.1.2.2 (by omega)⟩, t1.2.2⟩
    obtain ⟨ad', st3, W3, i3, j3, f1, f2, f3, f4, f5, f6, f7⟩ := xP_turn_it (n := 2080) (g := ep_ (ze_ Z r.2.1)) (prog := zg_ Z (ep_ (ze_ Z r.2.1))) hl hqq (by omega) hg8 (fun y hy => hi.2.2.2 _ y hy) hp8 (zg_ Z (ep_ (ze_ Z r.2.1))).length 0 fu_ 0 ad (cj_T W1 (r.2.1, r.2.2.1, r.2.2.2.1, 0)) st2 (zj_r Z ((zr_ Z).eraseIdx i)) r.2.2.1 r.2.2.2.1 rfl (Nat.zero_le _) (by unfold fu_; omega) (by omega) rfl (by show (zt_ Z v).length + _ < 1000000; have := hzt v; omega) htv
    rw [List.drop_zero] at f3 f6 f7
    have hb2 : bk_ (cj_T W1 (r.2.1, r.2.2.1, r.2.2.2.1, 0)) = bk_ W1 := rfl
    have hz2 : zl_ (zj_r Z ((zr_ Z).eraseIdx i)) = zl_ Z := rfl
    rw [hb2, hz2] at f6 f7
    dsimp only at hbk1
    refine ⟨ad', st3, W3, i3, j3, front _ _ _ _ ?_, f2, f3, f4, ⟨f5.1, fun f hf => f5.2 f (by show cwd_ W1 f = true; rw [hdd]; exact hf)⟩, by dsimp only; omega, by dsimp only; omega⟩
    refine ru_t (by rw [if_neg (by rw [hys]; exact fun z => by cases z)]) ?_
    refine ru_g _ (r0_0 hW) ?_
    refine ru_g _ (r1_l hW (by omega) (by omega)) ?_
    refine ru_g _ (r7_1 hW (by omega) (by omega)) ?_
    refine ru_g _ (cu_lm hW hvl) ?_
    refine ru_b (i2 := i3) (j2 := j3) q1 ?_ (by omega) (by omega)
    have hro := ro_at q2 hd1 (by omega)
    refine ru_g _ (og_k (rd_C q2 hC1) (by simp)) ?_
    refine ru_g (some (ad (16, r.2.1))) ((rC_0 q2 hC1).trans (congrArg some (rf_s o0))) ?_
    refine ru_g _ (og_i1 hro (by simp)) ?_
    refine ru_f (by decide) ?_
    refine ru_g _ (og_k hro (by simp)) ?_
    refine ru_g _ (r0_5 q2) ?_
    refine ru_g _ (og_m (at_4 q2) (by simp)) ?_
    rw [rf_s o0] at b1
    refine ru_b (i2 := i3) (j2 := j3) b1 ?_ (by omega) (by omega)
    refine ru_g _ (r0_1 b2) ?_
    have hro2 := ro_at b2 (show cwd_ (cj_T W1 (r.2.1, r.2.2.1, r.2.2.2.1, 0)) r.2.1 = true from hd1) (by omega)
    refine ru_g (nI (ep_ (ze_ Z r.2.1))) ((og_i hro2 (by simp) rfl).trans (by show some (nI (ep_ (cwe_ W1 r.2.1))) = _; rw [hE1])) ?_
    refine ru_g _ (r2_l b2 hg8) ?_
    exact f1
end CTT
