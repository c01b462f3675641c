/-! What holds between calls: deliveries, gives, pokes. -/
theorem zold_split {a b : Nat} : ∀ {l : List zm_L} {r : zm_L} {m : List zm_L}, z_old a b l = some (r, m) → ∃ A B, l = A ++ r :: B ∧ m = A ++ B ∧ r.2.1 = a ∧ r.2.2.1 = b ∧ ∀ y ∈ A, ¬ (y.2.1 = a ∧ y.2.2.1 = b)
  | [], _, _, h => by cases h
  | x :: l, r, m, h => by
    unfold z_old at h
    split at h
    · rename_i hc
      cases h
      exact ⟨[], l, rfl, rfl, hc.1, hc.2, fun y hy => by cases hy⟩
    · rename_i hc
      cases hq : z_old a b l with
      | none => rw [hq] at h; cases h
      | some y =>
        rw [hq] at h
        cases h
        obtain ⟨A, B, k1, k2, k3, k4, k5⟩ := zold_split (l := l) (r := y.1) (m := y.2) hq
        refine ⟨x :: A, B, by rw [k1]; rfl, by rw [k2]; rfl, k3, k4, fun z hz => ?_⟩
        rcases List.mem_cons.mp hz with rfl | hz
        · exact hc
        · exact k5 z hz
section ZBD
variable {Z X : zz_S} {a b w e : Nat}
theorem okr_m (h : okr Z w e) (hh : zh_ X e = zh_ Z e) (hg : eg_ (ze_ X e) = eg_ (ze_ Z e)) (hi : ei_ (ze_ Z e) w ≤ ei_ (ze_ X e) w) : okr X w e := by
  unfold okr at h ⊢
  rw [hh, hg]
  rcases h with c | c | c
  · exact Or.inl c
  · exact Or.inr (Or.inl c)
  · exact Or.inr (Or.inr ⟨c.1, by omega⟩)
theorem zT_m (h : zT Z) (f0 : X.1 = Z.1) (he : ∀ e, zh_ X e = zh_ Z e ∧ eg_ (ze_ X e) = eg_ (ze_ Z e) ∧ et_ (ze_ X e) = et_ (ze_ Z e) ∧ el_ (ze_ X e) = el_ (ze_ Z e) ∧ ∀ w, ei_ (ze_ Z e) w ≤ ei_ (ze_ X e) w) (hs : ∀ e, es_ (ze_ X e) = es_ (ze_ Z e)) (hr : ∀ r ∈ zr_ X, r ∈ zr_ Z) : zT X := by
  refine ⟨fun f hl => ?_, fun r hrr => ?_⟩
  · have e1 : zk_live X f = zk_live Z f := by
      unfold zk_live zk_made zo_ zp_
      rw [f0, (he f).2.1]
    rw [e1] at hl
    obtain ⟨h1, h2⟩ := h.1 f hl
    rw [(he f).1, (he f).2.2.1, (he f).2.2.2.1, hs f]
    exact ⟨fun c d => okr_m (h1 c d) (he _).1 (he _).2.1 ((he _).2.2.2.2 _), fun c s hs => okr_m (h2 c s hs) (he _).1 (he _).2.1 ((he _).2.2.2.2 _)⟩
  · obtain ⟨h1, h2, h3⟩ := h.2 r (hr r hrr)
    have e1 : zr_w X r = zr_w Z r := by
      unfold zr_w
      rw [(he r.1).1]
    rw [e1, (he _).1, (he _).2.1]
    exact ⟨h1, h2, okr_m h3 (he _).1 (he _).2.1 ((he _).2.2.2.2 _)⟩
theorem zroot_m (h : ∀ v, v < zn_ Z → zh_ Z (v + 1) = v ∧ eg_ (ze_ Z (v + 1)) = false) (f0 : X.1 = Z.1) (he : ∀ e, zh_ X e = zh_ Z e ∧ eg_ (ze_ X e) = eg_ (ze_ Z e)) : ∀ v, v < zn_ X → zh_ X (v + 1) = v ∧ eg_ (ze_ X (v + 1)) = false := fun v hv => by
  have e1 : zn_ X = zn_ Z := by unfold zn_; rw [f0]
  rw [e1] at hv
  rw [(he _).1, (he _).2]
  exact h v hv
/-- an entity changed but for its face; the rest as it was -/
theorem zj_face {f : Nat} {E : ze_E} (h1 : eh_ E = eh_ (ze_ Z f)) (h2 : eg_ E = eg_ (ze_ Z f)) (h3 : et_ E = et_ (ze_ Z f)) (h4 : el_ E = el_ (ze_ Z f)) (h5 : ∀ w, ei_ (ze_ Z f) w ≤ ei_ E w) : ∀ e, zh_ (zj_e Z f E) e = zh_ Z e ∧ eg_ (ze_ (zj_e Z f E) e) = eg_ (ze_ Z e) ∧ et_ (ze_ (zj_e Z f E) e) = et_ (ze_ Z e) ∧ el_ (ze_ (zj_e Z f E) e) = el_ (ze_ Z e) ∧ ∀ w, ei_ (ze_ Z e) w ≤ ei_ (ze_ (zj_e Z f E) e) w := fun e => by
  unfold zh_
  by_cases c : e = f
  · subst c
    rw [ze_s]
    exact ⟨h1, h2, h3, h4, h5⟩
  · rw [ze_n c]
    exact ⟨rfl, rfl, rfl, rfl, fun _ => Int.le_refl _⟩
theorem zB_j (h : zB Z) {f : Nat} {E : ze_E} (hg : gG (zj_e Z f E)) (h0 : 0 < f) (hf : zk_K Z f) (h1 : eh_ E = eh_ (ze_ Z f)) (h2 : eg_ E = eg_ (ze_ Z f)) (h3 : et_ E = et_ (ze_ Z f)) (h4 : el_ E = el_ (ze_ Z f)) (h5 : ∀ w, ei_ (ze_ Z f) w ≤ ei_ E w) (h6 : es_ E = es_ (ze_ Z f)) (h7 : ep_ E = ep_ (ze_ Z f)) : zB (zj_e Z f E) := by
  obtain ⟨a1, a2, a3, a4, a5, a6, a7⟩ := h
  have hface := zj_face (Z := Z) h1 h2 h3 h4 h5
  refine ⟨a1, zwp_j a2 h1 h2 h6 h3, zd_j a3 hf h0 ?_, hg, zT_m a5 rfl hface (fun e => (zs_j (Z := Z) h1 h2 h6 h3 e).2.2.1) (fun r hr => hr), zn_zs (zs_j h1 h2 h6 h3) a6, zroot_m a7 rfl (fun e => ⟨(hface e).1, (hface e).2.1⟩)⟩
  unfold ze_ok
  rw [h3, h4, h7]
  exact a3.1 f
/-- messages taken: all but the counts -/
theorem zB_l (h : zB Z) {L : List zm_L} (hL : ∀ r ∈ L, r ∈ zl_ Z) (hg : gG (zj_l Z L)) : zB (zj_l Z L) := by
  obtain ⟨a1, a2, a3, a4, a5, a6, a7⟩ := h
  exact ⟨a1, zwp_l a2 hL, zd_l a3 (fun r hr => a3.2.2.2 r (hL r hr)), hg, a5, zn_zs (Z := Z) (X := zj_l Z L) (fun _ => ⟨rfl, rfl, rfl, rfl⟩) a6, a7⟩
theorem ei_nn (h : zB Z) (he : zk_K Z e) (hw : w < 4) : 0 ≤ ei_ (ze_ Z e) w := by
  rcases he with c | c
  · rw [h.2.2.1.2.1 e (Or.inl c)]
    exact Int.le_refl _
  · exact (h.2.2.2.1.1 e c).2.2.2.2.2.2.1 w hw
theorem zB_done' {s : zz_S × List Nat} (hw : w < 4) (h : zB s.1) (hl : ∀ x ∈ s.2, zk_K s.1 x) (ha : za_ok s.1 s.2) : zB (z_done w s) := zB_done hw h hl ha
theorem zB_deliver (h : zB Z) (hA : za_ok Z []) (ha : a < 4) (hb : b < 4) : zB (z_deliver Z a b).1 := by
  unfold z_deliver
  cases ho : z_old a b (zl_ Z) with
  | none => exact h
  | some y =>
    obtain ⟨r, m⟩ := y
    obtain ⟨A, B, hL, hm, hra, hrb, hno⟩ := zold_split ho
    obtain ⟨hperm, -, -⟩ := zold_perm ho
    have hr : r ∈ zl_ Z := by rw [hL]; exact List.mem_append_right _ List.mem_cons_self
    obtain ⟨a1, a2, a3, a4, a5, a6, a7⟩ := h
    have h : zB Z := ⟨a1, a2, a3, a4, a5, a6, a7⟩
    obtain ⟨b1, b2, b3, b4, b5, b6, b7⟩ := a2.2.2.1 r hr
    obtain ⟨c1, c2, c3⟩ := a2.2.2.2.2.1 r hr
    obtain ⟨k1, k2, k3, k4⟩ := a3.2.2.2 r hr
    obtain ⟨m1, m2, m3, m4, m5⟩ := a4.2.1 r hr
    have ham := za_m hperm
    obtain ⟨kind, a', b', t, v, x, q⟩ := r
    dsimp only at hra hrb b1 b2 b3 b4 b5 b6 b7 k1 k2 k3 k4 m1 m2 m3 m4 m5 ham c1 c2 c3
    subst hra hrb hm
    dsimp only
    have hsub : ∀ r ∈ A ++ B, r ∈ zl_ Z := fun r hr => by
      rw [hL]
      rcases List.mem_append.mp hr with hr | hr
      · exact List.mem_append_left _ hr
      · exact List.mem_append_right _ (List.mem_cons_of_mem _ hr)
    by_cases hk12 : kind = 1 ∨ kind = 2
    · have hgu := gG_unpack a4 hL hk12 ha hb a2.1 b6
      -- all but the counts, after unpacking
      have hface : (z_unpack (zj_l Z (A ++ B)) a' b' x).1 = Z.1 ∧ zg_ (z_unpack (zj_l Z (A ++ B)) a' b' x) = zg_ Z ∧ zr_ (z_unpack (zj_l Z (A ++ B)) a' b' x) = zr_ Z ∧ (∀ e, zh_ (z_unpack (zj_l Z (A ++ B)) a' b' x) e = zh_ Z e ∧ eg_ (ze_ (z_unpack (zj_l Z (A ++ B)) a' b' x) e) = eg_ (ze_ Z e) ∧ et_ (ze_ (z_unpack (zj_l Z (A ++ B)) a' b' x) e) = et_ (ze_ Z e) ∧ el_ (ze_ (z_unpack (zj_l Z (A ++ B)) a' b' x) e) = el_ (ze_ Z e) ∧ ∀ w, ei_ (ze_ Z e) w ≤ ei_ (ze_ (z_unpack (zj_l Z (A ++ B)) a' b' x) e) w) ∧ zs_ Z (z_unpack (zj_l Z (A ++ B)) a' b' x) ∧ (x ≠ 0 → zh_ Z x ≠ b' → ei_ (ze_ Z x) b' + 1 ≤ ei_ (ze_ (z_unpack (zj_l Z (A ++ B)) a' b' x) x) b') := by
        unfold z_unpack
        by_cases hc : x = 0 ∨ zh_ (zj_l Z (A ++ B)) x = b'
        · rw [if_pos hc]
          refine ⟨rfl, rfl, rfl, fun e => ⟨rfl, rfl, rfl, rfl, fun _ => Int.le_refl _⟩, fun _ => ⟨rfl, rfl, rfl, rfl⟩, fun c d => ?_⟩
          exact absurd hc (fun z => z.elim c d)
        · rw [if_neg hc]
          dsimp only
          have hfe := zj_face (Z := zj_l Z (A ++ B)) (f := x) (E := ej_i (ze_ (zj_l Z (A ++ B)) x) b' (ei_ (ze_ (zj_l Z (A ++ B)) x) b' + 1)) rfl rfl rfl rfl (fun w => by
            rw [ei_i]
            split
            · rename_i hw
              subst hw
              omega
            · exact Int.le_refl _)
          have hzs : zs_ Z (zj_e (zj_l Z (A ++ B)) x (ej_i (ze_ (zj_l Z (A ++ B)) x) b' (ei_ (ze_ (zj_l Z (A ++ B)) x) b' + 1))) := zs_j (Z := zj_l Z (A ++ B)) rfl rfl rfl rfl
          have hei : ei_ (ze_ Z x) b' + 1 ≤ ei_ (ze_ (zj_e (zj_l Z (A ++ B)) x (ej_i (ze_ (zj_l Z (A ++ B)) x) b' (ei_ (ze_ (zj_l Z (A ++ B)) x) b' + 1))) x) b' := by
            rw [ze_s, ei_i, if_pos rfl]
            exact Int.le_refl _
          split
          · exact ⟨rfl, rfl, rfl, hfe, hzs, fun _ _ => hei⟩
          · exact ⟨rfl, rfl, rfl, hfe, hzs, fun _ _ => hei⟩
      have hkY : zk_w (z_unpack (zj_l Z (A ++ B)) a' b' x) := zwp_unpack (zwp_l a2 hsub) ha hb b6
      have hdY : zd_ (zk_K Z) (z_unpack (zj_l Z (A ++ B)) a' b' x) := zd_unpack (zd_l a3 (fun r hr => a3.2.2.2 r (hsub r hr))) zk_K0 k3
      have haY : za_ (z_unpack (zj_l Z (A ++ B)) a' b' x) = za_ (zj_l Z (A ++ B)) := zun_a
      rw [← haY] at ham
      generalize z_unpack (zj_l Z (A ++ B)) a' b' x = Z1 at hgu hface hkY hdY ham
      obtain ⟨f1, f2, f3, f4, f5, f6⟩ := hface
      have eK := zk_KZ f1
      have hB1 : zB Z1 := ⟨zw_f a1 f1 f2, hkY, by rw [eK]; exact hdY, hgu, zT_m a5 f1 f4 (fun e => (f5 e).2.2.1) (fun r hr => by rw [f3] at hr; exact hr), zn_zs f5 a6, zroot_m a7 f1 (fun e => ⟨(f4 e).1, (f4 e).2.1⟩)⟩
      have hmem : (kind, a', b', t, v, x, q) ∈ zl_ Z := hr
      have live : ∀ e, zk_made Z e = true → gc_w (ze_ Z e) → eg_ (ze_ Z e) = false := fun e he hw => by
        cases hg : eg_ (ze_ Z e) with
        | false => rfl
        | true => exact absurd hw (a4.2.2 e he hg)
      have okx : okr Z1 b' x := by
        by_cases x0 : x = 0
        · exact Or.inl x0
        · by_cases hh : zh_ Z x = b'
          · refine Or.inr (Or.inl ⟨by rw [(f4 x).1]; exact hh, ?_⟩)
            rw [(f4 x).2.1]
            have hmx : zk_made Z x = true := k3.resolve_left x0
            exact live x hmx (gc_use (a4.1 x hmx) (gm_of a4 a2 x) hmem ⟨rfl, hh.symm, Or.inr (Or.inl ⟨hk12, rfl⟩)⟩)
          · refine Or.inr (Or.inr ⟨by rw [(f4 x).1]; exact hh, ?_⟩)
            have e1 := f6 x0 hh
            have e2 := ei_nn h k3 hb
            omega
      by_cases kk1 : kind = 1
      · rw [if_pos kk1]
        rw [if_pos kk1] at ham
        have hq : 0 < q := c1 kk1
        have hmt : zk_made Z t = true := k2.resolve_left (by omega)
        have okt : okr Z1 b' t := by
          refine Or.inr (Or.inl ⟨by rw [(f4 t).1]; exact m2, ?_⟩)
          rw [(f4 t).2.1]
          exact live t hmt (gc_use (a4.1 t hmt) (gm_of a4 a2 t) hmem ⟨rfl, m2.symm, Or.inl ⟨kk1, rfl⟩⟩)
        obtain ⟨g1, g2⟩ := zB_go (v := v) (lost := []) hB1 hb okt (by rw [eK]; exact k2) okx (by rw [eK]; exact k3) (by rw [eK]; exact k4) hq (fun _ hx => by cases hx)
        have hf : zf_ Z1 (z_go Z1 [] b' t v x q).1 := zf_go
        have g3 : ∀ y ∈ (z_go Z1 [] b' t v x q).2, zk_K (z_go Z1 [] b' t v x q).1 y := fun y hy => by rw [zk_KZ hf.1]; exact g2 y hy
        exact zB_done' hb g1 g3 (za_okp hA (zgo_a.trans ham))
      · have kk2 : kind = 2 := by omega
        rw [if_neg kk1, if_pos kk2]
        rw [if_neg kk1] at ham
        obtain ⟨g1, g2⟩ := zB_settle (lost := []) (p := t) (ref := x) hB1 hb (Or.inr (c2 kk2)) (by rw [eK]; exact k2) okx (by rw [eK]; exact k3) (fun _ hx => by cases hx)
        have hf : zf_ Z1 (z_settle Z1 [] b' t x).1 := zf_settle
        obtain ⟨w1, w2, w3⟩ := zsettle_w (l := []) (lost := []) hkY hb (p := t) (ref := x) (Or.inr (c2 kk2)) b5 b6
        have g3 : ∀ y ∈ (z_settle Z1 [] b' t x).2, zk_K (z_settle Z1 [] b' t x).1 y := fun y hy => by rw [zk_KZ hf.1]; exact g2 y hy
        exact zB_done' hb g1 g3 (za_okp (za_okp hA ham) w2)
    · have x0 : x = 0 := m5 (by omega)
      subst x0
      have eu : z_unpack (zj_l Z (A ++ B)) a' b' 0 = zj_l Z (A ++ B) := by unfold z_unpack; rw [if_pos (Or.inl rfl)]
      rw [eu, if_neg (by omega), if_neg (by omega)]
      have hZ0 : zw_n (zj_l Z (A ++ B)) ∧ zk_w (zj_l Z (A ++ B)) ∧ zd_ (zk_K Z) (zj_l Z (A ++ B)) := ⟨a1, zwp_l a2 hsub, zd_l a3 (fun r hr => a3.2.2.2 r (hsub r hr))⟩
      have a6' : zn_r (zj_l Z (A ++ B)) := zn_zs (Z := Z) (X := zj_l Z (A ++ B)) (fun _ => ⟨rfl, rfl, rfl, rfl⟩) a6
      have pairB : ∀ (c d : Nat) (n : Int), gG (z_pair (zj_l Z (A ++ B)) c d t n) → zB (z_pair (zj_l Z (A ++ B)) c d t n) := by
        intro c d n hg
        have hE : ∃ E', z_pair (zj_l Z (A ++ B)) c d t n = zj_e (zj_l Z (A ++ B)) t E' ∧ eh_ E' = eh_ (ze_ Z t) ∧ eg_ E' = eg_ (ze_ Z t) ∧ et_ E' = et_ (ze_ Z t) ∧ el_ E' = el_ (ze_ Z t) ∧ ei_ E' = ei_ (ze_ Z t) ∧ es_ E' = es_ (ze_ Z t) ∧ ep_ E' = ep_ (ze_ Z t) := by
          refine ⟨_, rfl, ?_⟩
          split
          · exact ⟨rfl, rfl, rfl, rfl, rfl, rfl, rfl⟩
          · exact ⟨rfl, rfl, rfl, rfl, rfl, rfl, rfl⟩
        obtain ⟨E', e0, e1, e2, e3, e4, e5, e6, e7⟩ := hE
        rw [e0] at hg ⊢
        have hfe := zj_face (Z := zj_l Z (A ++ B)) (f := t) (E := E') e1 e2 e3 e4 (fun w => by rw [e5]; exact Int.le_refl _)
        refine ⟨a1, zwp_j hZ0.2.1 e1 e2 e6 e3, zd_j hZ0.2.2 k2 k1 ?_, hg, zT_m a5 rfl hfe (fun e => (zs_j (Z := zj_l Z (A ++ B)) e1 e2 e6 e3 e).2.2.1) (fun r hr => hr), zn_zs (zs_j (Z := zj_l Z (A ++ B)) e1 e2 e6 e3) a6', zroot_m a7 rfl (fun e => ⟨(hfe e).1, (hfe e).2.1⟩)⟩
        unfold ze_ok
        rw [e3, e4, e7]
        exact a3.1 t
      by_cases kk3 : kind = 3
      · rw [if_pos kk3]
        subst kk3
        have hg := gG_rel a4 hL hno
        have hfe := zj_face (Z := zj_l Z (A ++ B)) (f := t) (E := ej_x (ze_ Z t) a' (-v.toInt)) rfl rfl rfl rfl (fun w => Int.le_refl _)
        exact ⟨a1, zwp_x hZ0.2.1, zd_x hZ0.2.2 k2 k1, hg, zT_m a5 rfl hfe (fun e => (zs_j (Z := zj_l Z (A ++ B)) (f := t) (E := ej_x (ze_ Z t) a' (-v.toInt)) rfl rfl rfl rfl e).2.2.1) (fun r hr => hr), zn_zs (zs_j (Z := zj_l Z (A ++ B)) (E := ej_x (ze_ Z t) a' (-v.toInt)) rfl rfl rfl rfl) a6', zroot_m a7 rfl (fun e => ⟨(hfe e).1, (hfe e).2.1⟩)⟩
      · rw [if_neg kk3]
        by_cases kk4 : kind = 4
        · rw [if_pos kk4]
          subst kk4
          obtain ⟨c, hc, hv⟩ := c3 (Or.inl rfl)
          have hv : v = nI c := hv
          subst hv
          rw [nI_clamp (by omega)]
          exact pairB a' c 1 (gG_gift a4 a2 hL ha hc)
        · rw [if_neg kk4]
          have kk5 : kind = 5 := by omega
          subst kk5
          obtain ⟨c, hc, hv⟩ := c3 (Or.inr rfl)
          have hv : v = nI c := hv
          subst hv
          rw [nI_clamp (by omega)]
          exact pairB c a' (-1) (gG_red a4 a2 hL hno hc ha)
end ZBD
