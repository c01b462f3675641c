/-! The class: deliver. -/
theorem zold_f {a b : Nat} {l m : List zm_L} {r : zm_L} (h : z_old a b l = some (r, m)) : l.filter (fun r => r.2.1 == a && r.2.2.1 == b) = r :: m.filter (fun r => r.2.1 == a && r.2.2.1 == b) ∧ ∀ c d, ¬ (c = a ∧ d = b) → m.filter (fun r => r.2.1 == c && r.2.2.1 == d) = l.filter (fun r => r.2.1 == c && r.2.2.1 == d) := by
  obtain ⟨A, B, rfl, rfl, h1, h2, h3⟩ := zold_split h
  refine ⟨?_, fun c d hcd => ?_⟩
  · have hA : A.filter (fun r => r.2.1 == a && r.2.2.1 == b) = [] := List.filter_eq_nil_iff.mpr (fun y hy z => h3 y hy (by simpa using z))
    rw [List.filter_append, List.filter_append, hA, List.filter_cons_of_pos (by rw [h1, h2]; simp)]
    rfl
  · rw [List.filter_append, List.filter_append, List.filter_cons_of_neg (by rw [h1, h2]; simp; intro z w; exact hcd ⟨z.symm, w.symm⟩)]
theorem zold_0 {a b : Nat} : ∀ {l : List zm_L}, z_old a b l = none → l.filter (fun r => r.2.1 == a && r.2.2.1 == b) = []
  | [], _ => rfl
  | r :: l, h => by
    unfold z_old at h
    split at h
    · cases h
    · rename_i hc
      have h2 : z_old a b l = none := by
        cases hq : z_old a b l with
        | none => rfl
        | some y => rw [hq] at h; cases h
      rw [List.filter_cons_of_neg (by simpa using hc)]
      exact zold_0 h2
section CDL
variable {gl : gl_T} {fx : fx_T} {ad : Nat × Nat → Nat} {W W' : cw_W} {st : st_S} {Z X : zz_S} {e a b s v L g u q t h p w ref c : Nat} {x : Int32} {lost l : List Nat}
/-- a call or an answer is taken, its argument unpacked: what holds then -/
theorem zB_arr {A B : List zm_L} {kind a' b' t x q : Nat} {v : Int32} (h : zB Z) (hL : zl_ Z = A ++ (kind, a', b', t, v, x, q) :: B) (hk12 : kind = 1 ∨ kind = 2) (ha : a' < 4) (hb : b' < 4) : zB (z_unpack (zj_l Z (A ++ B)) a' b' x) ∧ okr (z_unpack (zj_l Z (A ++ B)) a' b' x) b' x ∧ (kind = 1 → okr (z_unpack (zj_l Z (A ++ B)) a' b' x) b' t) ∧ (z_unpack (zj_l Z (A ++ B)) a' b' x).1 = Z.1 ∧ (∀ e, zh_ (z_unpack (zj_l Z (A ++ B)) a' b' x) e = zh_ Z e) ∧ zr_ (z_unpack (zj_l Z (A ++ B)) a' b' x) = zr_ Z := by
  have hr : (kind, a', b', t, v, x, q) ∈ zl_ Z := by rw [hL]; exact List.mem_append_right _ List.mem_cons_self
  obtain ⟨a1, a2, a3, a4, a5, a6, a7⟩ := h
  have h : zB Z := ⟨a1, a2, a3, a4, a5, a6, a7⟩
  obtain ⟨b1, b2, b3, b4, b5, b6, b7⟩ := a2.2.2.1 _ hr
  obtain ⟨k1, k2, k3, k4⟩ := a3.2.2.2 _ hr
  obtain ⟨m1, m2, m3, m4, m5⟩ := a4.2.1 _ hr
  dsimp only at b1 b2 b3 b4 b5 b6 b7 k1 k2 k3 k4 m1 m2 m3 m4 m5
  have hsub : ∀ r ∈ A ++ B, r ∈ zl_ Z := fun r hr => by
    rw [hL]
    rcases List.mem_append.mp hr with hr | hr
    · exact List.mem_append_left _ hr
    · exact List.mem_append_right _ (List.mem_cons_of_mem _ hr)
  have hgu := gG_unpack a4 hL hk12 ha hb a2.1 b6
  -- all but the counts, after unpacking
  have hface : (z_unpack (zj_l Z (A ++ B)) a' b' x).1 = Z.1 ∧ zg_ (z_unpack (zj_l Z (A ++ B)) a' b' x) = zg_ Z ∧ zr_ (z_unpack (zj_l Z (A ++ B)) a' b' x) = zr_ Z ∧ (∀ e, zh_ (z_unpack (zj_l Z (A ++ B)) a' b' x) e = zh_ Z e ∧ eg_ (ze_ (z_unpack (zj_l Z (A ++ B)) a' b' x) e) = eg_ (ze_ Z e) ∧ et_ (ze_ (z_unpack (zj_l Z (A ++ B)) a' b' x) e) = et_ (ze_ Z e) ∧ el_ (ze_ (z_unpack (zj_l Z (A ++ B)) a' b' x) e) = el_ (ze_ Z e) ∧ ∀ w, ei_ (ze_ Z e) w ≤ ei_ (ze_ (z_unpack (zj_l Z (A ++ B)) a' b' x) e) w) ∧ zs_ Z (z_unpack (zj_l Z (A ++ B)) a' b' x) ∧ (x ≠ 0 → zh_ Z x ≠ b' → ei_ (ze_ Z x) b' + 1 ≤ ei_ (ze_ (z_unpack (zj_l Z (A ++ B)) a' b' x) x) b') := by
    unfold z_unpack
    by_cases hc : x = 0 ∨ zh_ (zj_l Z (A ++ B)) x = b'
    · rw [if_pos hc]
      refine ⟨rfl, rfl, rfl, fun e => ⟨rfl, rfl, rfl, rfl, fun _ => Int.le_refl _⟩, fun _ => ⟨rfl, rfl, rfl, rfl⟩, fun c d => ?_⟩
      exact absurd hc (fun z => z.elim c d)
    · rw [if_neg hc]
      dsimp only
      have hfe := zj_face (Z := zj_l Z (A ++ B)) (f := x) (E := ej_i (ze_ (zj_l Z (A ++ B)) x) b' (ei_ (ze_ (zj_l Z (A ++ B)) x) b' + 1)) rfl rfl rfl rfl (fun w => by
        rw [ei_i]
        split
        · rename_i hw
          subst hw
          omega
        · exact Int.le_refl _)
      have hzs : zs_ Z (zj_e (zj_l Z (A ++ B)) x (ej_i (ze_ (zj_l Z (A ++ B)) x) b' (ei_ (ze_ (zj_l Z (A ++ B)) x) b' + 1))) := zs_j (Z := zj_l Z (A ++ B)) rfl rfl rfl rfl
      have hei : ei_ (ze_ Z x) b' + 1 ≤ ei_ (ze_ (zj_e (zj_l Z (A ++ B)) x (ej_i (ze_ (zj_l Z (A ++ B)) x) b' (ei_ (ze_ (zj_l Z (A ++ B)) x) b' + 1))) x) b' := by
        rw [ze_s, ei_i, if_pos rfl]
        exact Int.le_refl _
      split
      · exact ⟨rfl, rfl, rfl, hfe, hzs, fun _ _ => hei⟩
      · exact ⟨rfl, rfl, rfl, hfe, hzs, fun _ _ => hei⟩
  have hkY : zk_w (z_unpack (zj_l Z (A ++ B)) a' b' x) := zwp_unpack (zwp_l a2 hsub) ha hb b6
  have hdY : zd_ (zk_K Z) (z_unpack (zj_l Z (A ++ B)) a' b' x) := zd_unpack (zd_l a3 (fun r hr => a3.2.2.2 r (hsub r hr))) zk_K0 k3
  have haY : za_ (z_unpack (zj_l Z (A ++ B)) a' b' x) = za_ (zj_l Z (A ++ B)) := zun_a
  generalize z_unpack (zj_l Z (A ++ B)) a' b' x = Z1 at hgu hface hkY hdY haY
  obtain ⟨f1, f2, f3, f4, f5, f6⟩ := hface
  have eK := zk_KZ f1
  have hB1 : zB Z1 := ⟨zw_f a1 f1 f2, hkY, by rw [eK]; exact hdY, hgu, zT_m a5 f1 f4 (fun e => (f5 e).2.2.1) (fun r hr => by rw [f3] at hr; exact hr), zn_zs f5 a6, zroot_m a7 f1 (fun e => ⟨(f4 e).1, (f4 e).2.1⟩)⟩
  have hmem : (kind, a', b', t, v, x, q) ∈ zl_ Z := hr
  have live : ∀ e, zk_made Z e = true → gc_w (ze_ Z e) → eg_ (ze_ Z e) = false := fun e he hw => by
    cases hg : eg_ (ze_ Z e) with
    | false => rfl
    | true => exact absurd hw (a4.2.2 e he hg)
  have okx : okr Z1 b' x := by
    by_cases x0 : x = 0
    · exact Or.inl x0
    · by_cases hh : zh_ Z x = b'
      · refine Or.inr (Or.inl ⟨by rw [(f4 x).1]; exact hh, ?_⟩)
        rw [(f4 x).2.1]
        have hmx : zk_made Z x = true := k3.resolve_left x0
        exact live x hmx (gc_use (a4.1 x hmx) (gm_of a4 a2 x) hmem ⟨rfl, hh.symm, Or.inr (Or.inl ⟨hk12, rfl⟩)⟩)
      · refine Or.inr (Or.inr ⟨by rw [(f4 x).1]; exact hh, ?_⟩)
        have e1 := f6 x0 hh
        have e2 := ei_nn h k3 hb
        omega
  refine ⟨hB1, okx, fun kk1 => ?_, f1, fun e => (f4 e).1, f3⟩
  have hmt : zk_made Z t = true := k2.resolve_left (by omega)
  refine Or.inr (Or.inl ⟨by rw [(f4 t).1]; exact m2, ?_⟩)
  rw [(f4 t).2.1]
  exact live t hmt (gc_use (a4.1 t hmt) (gm_of a4 a2 t) hmem ⟨rfl, m2.symm, Or.inl ⟨kk1, rfl⟩⟩)
theorem xP_isVat_y (hW : CW gl fx ad W st) (hR : RW Z W s) (hz : zw_n Z) (hv : v < zn_ Z) : xP_isVat gl (some (ad (0, 0))) (nI v) st = some (1, st, 0, 0) := by
  have hn := RW_n hR
  have h4 := hz.2.1
  unfold xP_isVat
  refine ru_f (nI_pos (by omega)) ?_
  refine ru_g _ (r0_0 hW) ?_
  refine ru_g _ (r1_n hW) ?_
  rw [hn.1]
  exact ru_f (nI_ge hv (by omega)) rfl
theorem xP_isVat_n (hW : CW gl fx ad W st) (hR : RW Z W s) (hz : zw_n Z) {x : Int32} (hv : ∀ j, j < zn_ Z → x ≠ nI j) : xP_isVat gl (some (ad (0, 0))) x st = some (0, st, 0, 0) := by
  have hn := RW_n hR
  have h4 := hz.2.1
  unfold xP_isVat
  by_cases h0 : x < 0
  · exact ru_t h0 rfl
  · refine ru_f h0 ?_
    refine ru_g _ (r0_0 hW) ?_
    refine ru_g _ (r1_n hW) ?_
    rw [hn.1]
    obtain ⟨j, hj, rfl⟩ := nI_of h0
    exact ru_t (nI_le (Nat.le_of_not_lt (fun z => hv j z rfl)) hj) rfl
theorem xP_flying_ok (hW : CW gl fx ad W st) (hR : RW Z W s) (hz : zw_n Z) (ha : a < zn_ Z) (hb : b < zn_ Z) : xP_flying gl (some (ad (0, 0))) (nI a) (nI b) st = some (nI (z_flying Z a b), st, 0, 0) := by
  have hn := RW_n hR
  have h4 := hz.2.1
  have hv := cwv_h (W := W) (v := a) (b := b) (by omega) (by omega) (by omega)
  unfold xP_flying
  refine ru_g _ (r0_m hW) ?_
  refine ru_b (i2 := 0) (j2 := 0) (xP_isVat_y hW hR hz ha) ?_ rfl rfl
  refine ru_f (by decide) ?_
  refine ru_g _ (r0_m hW) ?_
  refine ru_b (i2 := 0) (j2 := 0) (xP_isVat_y hW hR hz hb) ?_ rfl rfl
  refine ru_f (by decide) ?_
  refine ru_g _ (r0_0 hW) ?_
  refine ru_g _ (r1_l hW (by omega) (by omega)) ?_
  refine ru_g _ (r7_2 hW (by omega) (by omega)) ?_
  refine ru_g _ (r9_l hW (by omega) (by omega) (by omega)) ?_
  refine ru_g _ (r11 hW (by omega) (by omega) (by omega)) ?_
  refine ru_g _ (cu_lm hW hv) ?_
  have hsz := cu_size hW hv hR.2.2.2.2.2.2.2
  have hl := congrArg List.length (hR.2.2.2.2.2.2.1 a b ha hb)
  rw [List.length_map, List.length_map] at hl
  rw [hl] at hsz
  exact ru_b hsz rfl rfl rfl
/-- a message is taken off its channel -/
theorem RW_take (hR : RW Z W s) (hz : zw_n Z) (ha : a < zn_ Z) (hb : b < zn_ Z) {r : zm_L} {m : List zm_L} (ho : z_old a b (zl_ Z) = some (r, m)) {y : Nat} {ys : List Nat} (hl : cwl_ W (4 + (4 * a + b)) = y :: ys) {mc : Int32} {ea : Nat} : mwv_ W y = some (mzv_ r) ∧ RW (zj_l Z m) (cj_k (cj_l W (4 + (4 * a + b)) ys) (4 + (4 * a + b)) ((cwk_ W (4 + (4 * a + b))).1, mc, ea)) s := by
  have h4 := hz.2.1
  obtain ⟨f1, f2⟩ := zold_f ho
  obtain ⟨h1, h2, h3, h5, h6, h7, h8, h9⟩ := hR
  have hc := h8 a b ha hb
  unfold rwc_ at hc
  rw [hl, f1, List.map_cons, List.map_cons] at hc
  have hc1 := (List.cons.inj hc).1
  have hc2 := (List.cons.inj hc).2
  have ln : ∀ K, K ≠ 4 + (4 * a + b) → cwl_ (cj_k (cj_l W (4 + (4 * a + b)) ys) (4 + (4 * a + b)) ((cwk_ W (4 + (4 * a + b))).1, mc, ea)) K = cwl_ W K := fun K hK => va_up_ne _ _ hK
  have ls : cwl_ (cj_k (cj_l W (4 + (4 * a + b)) ys) (4 + (4 * a + b)) ((cwk_ W (4 + (4 * a + b))).1, mc, ea)) (4 + (4 * a + b)) = ys := va_up_self _ _ _
  have hk : ∀ K, (cwk_ (cj_k (cj_l W (4 + (4 * a + b)) ys) (4 + (4 * a + b)) ((cwk_ W (4 + (4 * a + b))).1, mc, ea)) K).1 = (cwk_ W K).1 := fun K => by
    show (va_up (cwk_ W) (4 + (4 * a + b)) ((cwk_ W (4 + (4 * a + b))).1, mc, ea) K).1 = _
    unfold va_up
    split
    · rename_i z
      rw [z]
    · rfl
  refine ⟨hc1, h1, h2, h3, h5, h6, fun K hK hK2 hKs => ?_, fun c d hc' hd => ?_, fun K hK => ?_⟩
  · unfold rwl_
    rw [ln K (by omega)]
    exact h7 K hK hK2 hKs
  · have hc'' : c < zn_ Z := hc'
    have hd'' : d < zn_ Z := hd
    have := h8 c d hc'' hd''
    unfold rwc_ at this ⊢
    show _ = (m.filter _).map _
    by_cases cd : c = a ∧ d = b
    · obtain ⟨rfl, rfl⟩ := cd
      rw [ls]
      exact hc2
    · rw [ln _ (fun z => cd (by omega)), f2 c d cd]
      exact this
  · obtain ⟨w1, w2, w3⟩ := h9 K hK
    rw [hk K]
    by_cases z : K = 4 + (4 * a + b)
    · subst z
      rw [ls]
      rw [hl] at w1 w3
      rw [List.length_cons] at w1
      exact ⟨by omega, w2, fun y' hy' => w3 y' (List.mem_cons_of_mem _ hy')⟩
    · rw [ln K z]
      exact ⟨w1, w2, w3⟩
end CDL
