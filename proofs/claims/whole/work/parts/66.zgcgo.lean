/-! What is in use is there: go, settle, mourning. -/
/-- the vat in which a call rests -/
def zr_w (Z : zz_S) (r : zr_R) : Nat := if r.1 < 4 then r.1 else zh_ Z r.1
/-- what live entities and resting calls lead to may be used where they are -/
def zT (Z : zz_S) : Prop := (∀ f, zk_live Z f = true → (100 < f → es_ (ze_ Z f) = true → okr Z (zh_ Z f) (et_ (ze_ Z f))) ∧ (f ≤ 60 → ∀ s, s < 4 → okr Z (zh_ Z f) (el_ (ze_ Z f) s))) ∧ ∀ r ∈ zr_ Z, zh_ Z r.2.1 = zr_w Z r ∧ eg_ (ze_ Z r.2.1) = false ∧ okr Z (zr_w Z r) r.2.2.2.1
def zG (Z : zz_S) : Prop := gG Z ∧ zT Z ∧ zn_r Z ∧ ∀ v, v < zn_ Z → zh_ Z (v + 1) = v ∧ eg_ (ze_ Z (v + 1)) = false
/-- all that holds between calls, but for numbers -/
def zB (Z : zz_S) : Prop := zw_n Z ∧ zk_w Z ∧ zd_ (zk_K Z) Z ∧ zG Z
section ZGG
variable {Z X : zz_S} {w u e q p t : Nat} {v : Int32} {lost : List Nat}
theorem okr_e (hh : zh_ X e = zh_ Z e) (hg : eg_ (ze_ X e) = eg_ (ze_ Z e)) (hi : ei_ (ze_ X e) = ei_ (ze_ Z e)) : okr X w e ↔ okr Z w e := by
  unfold okr
  rw [hh, hg, hi]
theorem okr_f (hf : zf_ Z X) : okr X w e ↔ okr Z w e := okr_e (hf.2.2.2 e).1 (hf.2.2.2 e).2.1 (hf.2.2.2 e).2.2.2.2.2.1
theorem live_f (hf : zf_ Z X) : zk_live X e = zk_live Z e := by
  unfold zk_live zk_made zo_ zp_
  rw [hf.1, (hf.2.2.2 e).2.1]
/-- the same entities and calls -/
theorem zT_f (h : zT Z) (hf : zf_ Z X) (ht : ∀ e, et_ (ze_ X e) = et_ (ze_ Z e)) (hsq : ∀ e, es_ (ze_ X e) = es_ (ze_ Z e)) (hr : zr_ X = zr_ Z) : zT X := by
  refine ⟨fun f hl => ?_, fun r hrr => ?_⟩
  · rw [live_f hf] at hl
    obtain ⟨h1, h2⟩ := h.1 f hl
    rw [(hf.2.2.2 f).1, ht f, hsq f, (hf.2.2.2 f).2.2.2.2.1]
    exact ⟨fun c d => (okr_f hf).mpr (h1 c d), fun c s hs => (okr_f hf).mpr (h2 c s hs)⟩
  · rw [hr] at hrr
    obtain ⟨h1, h2, h3⟩ := h.2 r hrr
    have e1 : zr_w X r = zr_w Z r := by
      unfold zr_w
      rw [(hf.2.2.2 r.1).1]
    rw [e1, (hf.2.2.2 _).1, (hf.2.2.2 _).2.1]
    exact ⟨h1, h2, (okr_f hf).mpr h3⟩
theorem okr_follow (h : zT Z) (hd : zd_ (zk_K Z) Z) : ∀ (n u : Nat), okr Z w u → zk_K Z u → okr Z w (z_follow Z w n u) ∧ zk_K Z (z_follow Z w n u)
  | 0, u, h1, h2 => ⟨h1, h2⟩
  | n + 1, u, h1, h2 => by
    unfold z_follow
    split
    · rename_i hp
      unfold zk_pass at hp
      simp only [Bool.and_eq_true, decide_eq_true_eq] at hp
      have hm : zk_made Z u = true := h2.resolve_left (by omega)
      have hg : eg_ (ze_ Z u) = false := by
        rcases h1 with c | c | c
        · omega
        · exact c.2
        · exact absurd hp.1.2 c.1
      have hl : zk_live Z u = true := by
        unfold zk_live
        rw [hm, hg]
        rfl
      have := (h.1 u hl).1 hp.1.1 hp.2
      rw [hp.1.2] at this
      exact okr_follow h hd n _ this (hd.1 u).1
    · exact ⟨h1, h2⟩
theorem zG_go (h : zG Z) (hz : zw_n Z) (hk : zk_w Z) (hd : zd_ (zk_K Z) Z) (hw : w < 4) (hu : okr Z w u) (hu2 : zk_K Z u) (he : okr Z w e) (he2 : zk_K Z e) : zG (z_go Z lost w u v e q).1 := by
  obtain ⟨t1, t2⟩ := okr_follow h.2.1 hd 101 u hu hu2
  have hs : zs_ Z (z_go Z lost w u v e q).1 := zgo_s
  have hf : zf_ Z (z_go Z lost w u v e q).1 := zf_go
  obtain ⟨g1, g2, g3, g4⟩ := h
  refine ⟨?_, ?_, zn_zs hs g3, fun x hx => ?_⟩
  · unfold z_go
    generalize z_follow Z w 101 u = t at t1 t2
    dsimp only
    split
    · exact g1
    · split
      · rename_i hc hh
        have h4 := (hk.1 t (zk_K2 hz t2)).1
        refine gG_carry g1 hk.1 (zk_K2 hz he2) hw h4 (fun c => hh c.symm) (Or.inl rfl) rfl he he2 (fun _ => ?_)
        rcases t1 with c | c | c
        · omega
        · exact absurd c.1 hh
        · exact c.2
      · exact g1
  · by_cases hrr : zr_ (z_go Z lost w u v e q).1 = zr_ Z
    · exact zT_f g2 hf (fun x => (hs x).2.2.2) (fun x => (hs x).2.2.1) hrr
    · have hX := zT_f (X := zj_r (z_go Z lost w u v e q).1 (zr_ Z)) g2 (zf_t hf zf_r) (fun x => (hs x).2.2.2) (fun x => (hs x).2.2.1) rfl
      refine ⟨hX.1, fun r hr => ?_⟩
      unfold z_go at hr hrr ⊢
      generalize z_follow Z w 101 u = t at t1 t2 hr hrr
      dsimp only at hr hrr ⊢
      split at hr
      · rename_i hc
        rw [if_pos hc] at hrr
        exact absurd rfl hrr
      · rename_i hc
        rw [if_neg hc] at hrr ⊢
        split at hr
        · rename_i hh
          rw [if_pos hh] at hrr
          exact absurd (show zr_ (z_pack Z w (zh_ Z t) e) = zr_ Z from zpk_r) hrr
        · rename_i hh
          rw [if_neg hh]
          have hh : zh_ Z t = w := Classical.byContradiction hh
          rcases List.mem_append.mp (show r ∈ zr_ Z ++ [_] from hr) with hr | hr
          · exact g2.2 r hr
          · rw [List.mem_singleton] at hr
            subst hr
            have hlive : eg_ (ze_ Z t) = false := by
              rcases t1 with c | c | c
              · omega
              · exact c.2
              · exact absurd hh c.1
            have hpl : zr_w Z ((if 100 < t then t else w), t, v, e, q) = w := by
              unfold zr_w
              dsimp only
              by_cases c : 100 < t
              · rw [if_pos c, if_neg (by omega)]
                exact hh
              · rw [if_neg c, if_pos hw]
            show zh_ Z t = zr_w Z _ ∧ eg_ (ze_ Z t) = false ∧ okr Z (zr_w Z _) e
            rw [hpl]
            exact ⟨hh, hlive, he⟩
  · have e1 : zn_ (z_go Z lost w u v e q).1 = zn_ Z := by unfold zn_; rw [hf.1]
    rw [e1] at hx
    rw [(hs _).1, (hs _).2.1]
    exact g4 x hx
theorem zw_f (h : zw_n Z) (f0 : X.1 = Z.1) (fg : zg_ X = zg_ Z) : zw_n X := by
  unfold zw_n zn_ zo_ zp_ at h ⊢
  rw [f0, fg]
  exact h
theorem zB_go (h : zB Z) (hw : w < 4) (hu : okr Z w u) (hu2 : zk_K Z u) (he : okr Z w e) (he2 : zk_K Z e) (hq2 : zk_K Z q) (h0 : 0 < q) (hl : ∀ x ∈ lost, zk_K Z x) : zB (z_go Z lost w u v e q).1 ∧ ∀ x ∈ (z_go Z lost w u v e q).2, zk_K Z x := by
  obtain ⟨h1, h2, h3, h4⟩ := h
  obtain ⟨d1, d2⟩ := zd_go (v := v) h3 zk_K0 hw hu2 he2 hq2 hl
  have hf : zf_ Z (z_go Z lost w u v e q).1 := zf_go
  exact ⟨⟨zw_f h1 hf.1 hf.2.1, zgo_w h2 hw (zk_K2 h1 hu2) (zk_K2 h1 he2) (zk_K2 h1 hq2) h0, by rw [zk_KZ hf.1]; exact d1, zG_go h4 h1 h2 h3 hw hu hu2 he he2⟩, d2⟩
theorem zB_fold (hw : w < 4) : ∀ (m : List zr_R) (s : zz_S × List Nat), zB s.1 → okr s.1 w u → zk_K s.1 u → (∀ r ∈ m, okr s.1 w r.2.2.2.1 ∧ zk_K s.1 r.2.2.2.1 ∧ zk_K s.1 r.2.2.2.2 ∧ 0 < r.2.2.2.2) → (∀ x ∈ s.2, zk_K s.1 x) →
    zB (m.foldl (fun s r => z_go s.1 s.2 w u r.2.2.1 r.2.2.2.1 r.2.2.2.2) s).1 ∧ ∀ x ∈ (m.foldl (fun s r => z_go s.1 s.2 w u r.2.2.1 r.2.2.2.1 r.2.2.2.2) s).2, zk_K s.1 x
  | [], s, h, _, _, _, hl => ⟨h, hl⟩
  | r :: m, s, h, hu, hu2, hm, hl => by
    obtain ⟨r1, r2, r3, r4⟩ := hm r List.mem_cons_self
    obtain ⟨k1, k2⟩ := zB_go (v := r.2.2.1) h hw hu hu2 r1 r2 r3 r4 hl
    have hf : zf_ s.1 (z_go s.1 s.2 w u r.2.2.1 r.2.2.2.1 r.2.2.2.2).1 := zf_go
    have eK := zk_KZ hf.1
    obtain ⟨a1, a2⟩ := zB_fold hw m (z_go s.1 s.2 w u r.2.2.1 r.2.2.2.1 r.2.2.2.2) k1 ((okr_f hf).mpr hu) (by rw [eK]; exact hu2) (fun x hx => by
      obtain ⟨x1, x2, x3, x4⟩ := hm x (List.mem_cons_of_mem _ hx)
      rw [eK]
      exact ⟨(okr_f hf).mpr x1, x2, x3, x4⟩) (by rw [eK]; exact k2)
    rw [eK] at a2
    exact ⟨a1, a2⟩
theorem zB_settle (h : zB Z) (hw : w < 4) (hp : p = 0 ∨ 100 < p) (hp2 : zk_K Z p) {ref : Nat} (hr : okr Z w ref) (hr2 : zk_K Z ref) (hl : ∀ x ∈ lost, zk_K Z x) : zB (z_settle Z lost w p ref).1 ∧ ∀ x ∈ (z_settle Z lost w p ref).2, zk_K Z x := by
  obtain ⟨h1, h2, h3, g1, g2, g3, g4⟩ := h
  have hp200 := zk_K2 h1 hp2
  have hr200 := zk_K2 h1 hr2
  have kw := (zsettle_w (l := []) (lost := lost) h2 hw hp hp200 hr200).1
  obtain ⟨d1, d2⟩ := zd_settle (lost := lost) h3 zk_K0 hw hp2 hr2 hl
  have hf : zf_ Z (z_settle Z lost w p ref).1 := zf_settle
  refine ⟨⟨zw_f h1 hf.1 hf.2.1, kw, by rw [zk_KZ hf.1]; exact d1, ?_⟩, d2⟩
  unfold z_settle
  split
  · exact ⟨g1, g2, g3, g4⟩
  · rename_i p0
    split
    · rename_i hh
      have h4 := (h2.1 p hp200).1
      have hf2 : zf_ Z (z_post (z_pack Z w (zh_ Z p) ref) 2 w (zh_ Z p) p 0 ref 0) := zf_t zf_pack zf_l
      have hs2 : zs_ Z (z_post (z_pack Z w (zh_ Z p) ref) 2 w (zh_ Z p) p 0 ref 0) := zs_pack
      refine ⟨gG_carry g1 h2.1 hr200 hw h4 (fun c => hh c.symm) (Or.inr rfl) rfl hr hr2 (fun c => absurd c (by decide)), zT_f g2 hf2 (fun x => (hs2 x).2.2.2) (fun x => (hs2 x).2.2.1) zpk_r, zn_zs hs2 g3, fun x hx => ?_⟩
      have e1 : zn_ (z_post (z_pack Z w (zh_ Z p) ref) 2 w (zh_ Z p) p 0 ref 0) = zn_ Z := by unfold zn_; rw [hf2.1]
      dsimp only at hx ⊢
      rw [e1] at hx
      rw [(hs2 _).1, (hs2 _).2.1]
      exact g4 x hx
    · rename_i hh
      have hh : zh_ Z p = w := Classical.byContradiction hh
      split
      · exact ⟨g1, g2, g3, g4⟩
      · rename_i hgs
        have hgo : eg_ (ze_ Z p) = false ∧ es_ (ze_ Z p) = false := by
          cases c1 : eg_ (ze_ Z p) <;> cases c2 : es_ (ze_ Z p) <;> simp_all
        obtain ⟨u, hu⟩ : ∃ u, u = if z_meet Z w p 101 ref = true then 0 else ref := ⟨_, rfl⟩
        have hu1 : okr Z w u ∧ zk_K Z u ∧ z_meet Z w p 101 u = false := by
          rw [hu]
          cases hm : z_meet Z w p 101 ref with
          | true =>
            rw [if_pos rfl]
            exact ⟨Or.inl rfl, zk_K0, zmeet_0 p0 101⟩
          | false =>
            rw [if_neg (by decide)]
            exact ⟨hr, hr2, hm⟩
        dsimp only
        rw [← hu]
        have hE : zf_ Z (zj_r (zj_e Z p (ej_s (ze_ Z p) u)) ((zr_ Z).filter (fun r => !(r.1 == p)))) := zf_t (zf_j (f := p) (E := ej_s (ze_ Z p) u) rfl rfl rfl rfl rfl rfl rfl) zf_r
        have hZ1 : zB (zj_r (zj_e Z p (ej_s (ze_ Z p) u)) ((zr_ Z).filter (fun r => !(r.1 == p)))) := by
          refine ⟨h1, ?_, ?_, gG_j (E := ej_s (ze_ Z p) u) g1 rfl rfl rfl rfl rfl, ?_, ?_, fun x hx => ?_⟩
          · obtain ⟨a1, a2, a3, a4, a5, a6⟩ := h2
            refine ⟨fun f hfz => ?_, fun r hr => a2 r (List.mem_filter.mp hr).1, a3, fun r hr => a4 r (List.mem_filter.mp hr).1, a5, ?_⟩
            · show eh_ (ze_ (zj_e Z p (ej_s (ze_ Z p) u)) f) < 4 ∧ et_ (ze_ (zj_e Z p (ej_s (ze_ Z p) u)) f) ≤ 200
              by_cases hfp : f = p
              · subst hfp
                rw [ze_s]
                exact ⟨(a1 f hfz).1, zk_K2 h1 hu1.2.1⟩
              · rw [ze_n hfp]
                exact a1 f hfz
            · show (((zr_ Z).filter _).filter _).length ≤ 80
              exact Nat.le_trans (List.Sublist.length_le (List.Sublist.filter _ List.filter_sublist)) a6
          · exact zd_r (zd_j (E := ej_s (ze_ Z p) u) h3 hp2 (by omega) ⟨hu1.2.1, (h3.1 p).2⟩) (fun r hr => h3.2.2.1 r (List.mem_filter.mp hr).1)
          · refine ⟨fun f hl => ?_, fun r hr => ?_⟩
            · rw [live_f hE] at hl
              obtain ⟨k1, k2⟩ := g2.1 f hl
              rw [(hE.2.2.2 f).1, (hE.2.2.2 f).2.2.2.2.1]
              refine ⟨fun c d => (okr_f hE).mpr ?_, fun c s hs => (okr_f hE).mpr (k2 c s hs)⟩
              have d : es_ (ze_ (zj_e Z p (ej_s (ze_ Z p) u)) f) = true := d
              show okr Z (zh_ Z f) (et_ (ze_ (zj_e Z p (ej_s (ze_ Z p) u)) f))
              by_cases hfp : f = p
              · subst hfp
                rw [ze_s, hh]
                exact hu1.1
              · rw [ze_n hfp] at d ⊢
                exact k1 c d
            · obtain ⟨k1, k2, k3⟩ := g2.2 r (List.mem_filter.mp hr).1
              have e1 : zr_w (zj_r (zj_e Z p (ej_s (ze_ Z p) u)) ((zr_ Z).filter (fun r => !(r.1 == p)))) r = zr_w Z r := by
                unfold zr_w
                rw [(hE.2.2.2 r.1).1]
              rw [e1, (hE.2.2.2 _).1, (hE.2.2.2 _).2.1]
              exact ⟨k1, k2, (okr_f hE).mpr k3⟩
          · exact zn_zs zs_r (zn_settle g3 h2.1 (zk_K2 h1 hu1.2.1) hh hgo.2 hu1.2.2)
          · rw [(hE.2.2.2 _).1, (hE.2.2.2 _).2.1]
            exact g4 x hx
        refine (zB_fold hw _ _ hZ1 ((okr_f hE).mpr hu1.1) hu1.2.1 (fun r hr => ?_) hl).1.2.2.2
        obtain ⟨b1, b2⟩ := List.mem_filter.mp hr
        have b3 : r.1 = p := by simpa using b2
        have h100 : 100 < p := by omega
        obtain ⟨k1, k2, k3⟩ := g2.2 r b1
        have hw2 : zr_w Z r = w := by
          unfold zr_w
          rw [if_neg (by omega), b3]
          exact hh
        rw [hw2] at k3
        obtain ⟨c1, c2, c3, c4⟩ := h3.2.2.1 r b1
        exact ⟨(okr_f hE).mpr k3, c2, c3, h2.2.2.2.1 r b1 (by omega)⟩
theorem zB_mourn (hw : w < 4) : ∀ (k : Nat) (Z : zz_S) (l : List Nat), zB Z → (∀ x ∈ l, zk_K Z x ∧ 100 < x) → za_ok Z l → zB (z_mourn w k Z l)
  | 0, _, _, h, _, _ => h
  | _ + 1, _, [], h, _, _ => h
  | k + 1, Z, q :: l, h, hl, ha => by
    unfold z_mourn
    have hq := hl q List.mem_cons_self
    obtain ⟨k1, k2⟩ := zB_settle (lost := l) (ref := 0) h hw (Or.inr hq.2) hq.1 (Or.inl rfl) zk_K0 (fun x hx => (hl x (List.mem_cons_of_mem _ hx)).1)
    have hf : zf_ Z (z_settle Z l w q 0).1 := zf_settle
    obtain ⟨w1, w2, w3⟩ := zsettle_w (l := []) (lost := l) h.2.1 hw (p := q) (ref := 0) (Or.inr hq.2) (zk_K2 h.1 hq.1) (by decide)
    have ha2 : za_ok Z l := ⟨ha.1.sublist (List.sublist_cons_self _ _), fun x hx => ha.2 x (List.mem_cons_of_mem _ hx)⟩
    have ha3 := za_okp ha2 w2
    exact zB_mourn hw k _ _ k1 (fun x hx => ⟨by rw [zk_KZ hf.1]; exact k2 x hx, (ha3.2 x (List.mem_append_left _ hx)).1⟩) ha3
theorem zB_done (hw : w < 4) (h : zB Z) (hl : ∀ x ∈ lost, zk_K Z x) (ha : za_ok Z lost) : zB (z_done w (Z, lost)) :=
  zB_mourn hw 101 Z lost h (fun x hx => ⟨hl x hx, (ha.2 x (List.mem_append_left _ hx)).1⟩) ha
end ZGG
