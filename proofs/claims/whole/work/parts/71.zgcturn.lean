/-! What holds between calls: pokes, turns. -/
/-- resting calls without an answer: pokes -/
def zq0 (Z : zz_S) : List zr_R := (zr_ Z).filter (fun r => r.2.2.2.2 == 0)
section ZTU
variable {Z X : zz_S} {v w t r o u e q p : Nat} {x : Int32} {lost : List Nat}
theorem zq0_go (h0 : 0 < q) : zq0 (z_go Z lost w u x e q).1 = zq0 Z := by
  unfold zq0
  rcases zgo_r (Z := Z) (lost := lost) (w := w) (u := u) (v := x) (e := e) (q := q) with h | h
  · rw [h]
  · rw [h, List.filter_append, List.filter_cons_of_neg (by simp; omega), List.filter_nil, List.append_nil]
theorem zq0_fold : ∀ (m : List zr_R) (s : zz_S × List Nat), (∀ r ∈ m, 0 < r.2.2.2.2) → zq0 (m.foldl (fun s r => z_go s.1 s.2 w u r.2.2.1 r.2.2.2.1 r.2.2.2.2) s).1 = zq0 s.1
  | [], _, _ => rfl
  | r :: m, s, h => (zq0_fold m _ (fun x hx => h x (List.mem_cons_of_mem _ hx))).trans (zq0_go (h r List.mem_cons_self))
theorem zq0_settle (hk : zk_w Z) (hp : p = 0 ∨ 100 < p) {ref : Nat} : (zq0 (z_settle Z lost w p ref).1).Sublist (zq0 Z) := by
  unfold z_settle
  split
  · exact List.Sublist.refl _
  · rename_i p0
    split
    · show ((zr_ (z_pack Z w (zh_ Z p) ref)).filter _).Sublist _
      rw [zpk_r]
      exact List.Sublist.refl _
    · split
      · exact List.Sublist.refl _
      · dsimp only
        rw [zq0_fold]
        · exact List.Sublist.filter _ List.filter_sublist
        · intro r hr
          obtain ⟨b1, b2⟩ := List.mem_filter.mp hr
          have b3 : r.1 = p := by simpa using b2
          exact hk.2.2.2.1 r b1 (by omega)
theorem zq0_mourn (hw : w < 4) : ∀ (k : Nat) (Z : zz_S) (l : List Nat), zk_w Z → za_ok Z l → (zq0 (z_mourn w k Z l)).Sublist (zq0 Z)
  | 0, _, _, _, _ => List.Sublist.refl _
  | _ + 1, _, [], _, _ => List.Sublist.refl _
  | k + 1, Z, q :: l, hk, ha => by
    unfold z_mourn
    have hq := ha.2 q List.mem_cons_self
    obtain ⟨w1, w2, w3⟩ := zsettle_w (l := []) (lost := l) hk hw (p := q) (ref := 0) (Or.inr hq.1) hq.2 (by decide)
    have ha2 : za_ok Z l := ⟨ha.1.sublist (List.sublist_cons_self _ _), fun x hx => ha.2 x (List.mem_cons_of_mem _ hx)⟩
    exact (zq0_mourn hw k _ _ w1 (za_okp ha2 w2)).trans (zq0_settle hk (Or.inr hq.1))
theorem zq0_done (hw : w < 4) {s : zz_S × List Nat} (hk : zk_w s.1) (ha : za_ok s.1 s.2) : (zq0 (z_done w s)).Sublist (zq0 s.1) := zq0_mourn hw 101 s.1 s.2 hk ha
/-- few pokes in each vat -/
def zpk (Z : zz_S) : Prop := ∀ v, v < 4 → ((zq0 Z).filter (fun r => r.1 == v)).length ≤ 20
theorem zpk_s (h : zpk Z) (hs : (zq0 X).Sublist (zq0 Z)) : zpk X := fun v hv => Nat.le_trans (hs.filter _).length_le (h v hv)
theorem four_len : ∀ (l : List zr_R), (∀ r ∈ l, r.1 < 4) → l.length = (l.filter (fun r => r.1 == 0)).length + (l.filter (fun r => r.1 == 1)).length + (l.filter (fun r => r.1 == 2)).length + (l.filter (fun r => r.1 == 3)).length
  | [], _ => rfl
  | r :: l, h => by
    have ih := four_len l (fun x hx => h x (List.mem_cons_of_mem _ hx))
    have hr := h r List.mem_cons_self
    rw [List.filter_cons, List.filter_cons, List.filter_cons, List.filter_cons, List.length_cons, ih]
    have h4 : r.1 = 0 ∨ r.1 = 1 ∨ r.1 = 2 ∨ r.1 = 3 := by omega
    rcases h4 with h | h | h | h <;> rw [h] <;> simp <;> omega
theorem zpk_80 (h : zpk Z) (hk : ∀ r ∈ zr_ Z, 100 < r.1 → 0 < r.2.2.2.2) (hd : ∀ r ∈ zr_ Z, r.1 < 4 ∨ 100 < r.1) : (zq0 Z).length ≤ 80 := by
  rw [four_len (zq0 Z) (fun r hr => ?_)]
  · have h0 := h 0 (by decide)
    have h1 := h 1 (by decide)
    have h2 := h 2 (by decide)
    have h3 := h 3 (by decide)
    omega
  · obtain ⟨b1, b2⟩ := List.mem_filter.mp hr
    have b3 : r.2.2.2.2 = 0 := by simpa using b2
    rcases hd r b1 with c | c
    · exact c
    · have := hk r b1 c
      omega
theorem zB_poke (h : zB Z) (hp : zpk Z) (hv : v < zn_ Z) : zB (z_poke Z v x).1 ∧ zpk (z_poke Z v x).1 := by
  unfold z_poke
  by_cases hc : z_inbox Z v < 20
  · rw [if_pos hc]
    obtain ⟨a1, a2, a3, a4, a5, a6, a7⟩ := h
    have h4 := a1.2.1
    have hno := a1.2.2.1
    have h60 := a1.2.2.2.1
    have hv4 : v < 4 := by omega
    obtain ⟨r1, r2⟩ := a7 v hv
    have kv : zk_K Z (v + 1) := zk_K4 (Or.inr (Or.inl ⟨by omega, by omega⟩))
    have hpk : zpk (zj_r Z (zr_ Z ++ [(v, v + 1, x, 0, 0)])) := fun w hw => by
      unfold zq0
      show (((zr_ Z ++ [(v, v + 1, x, 0, 0)]).filter _).filter _).length ≤ 20
      rw [List.filter_append, List.filter_append, List.length_append, List.filter_cons_of_pos (by simp), List.filter_nil]
      by_cases c : v = w
      · subst c
        rw [List.filter_cons_of_pos (by simp), List.filter_nil, List.length_singleton]
        have e1 : (((zr_ Z).filter (fun r => r.2.2.2.2 == 0)).filter (fun r => r.1 == v)).length ≤ z_inbox Z v := by
          unfold z_inbox
          exact (List.Sublist.filter _ List.filter_sublist).length_le
        omega
      · rw [List.filter_cons_of_neg (by simp [c]), List.filter_nil, List.length_nil]
        exact hp w hw
    have hrok : zr_ok (zk_K Z) (v, v + 1, x, 0, 0) := ⟨kv, zk_K0, zk_K0, Or.inl ⟨hv4, by show 0 < v + 1; omega, by show v + 1 ≤ 100; omega⟩⟩
    have hmem : ∀ r ∈ zr_ Z ++ [(v, v + 1, x, 0, 0)], r ∈ zr_ Z ∨ r = (v, v + 1, x, 0, 0) := fun r hr => by
      rcases List.mem_append.mp hr with hr | hr
      · exact Or.inl hr
      · exact Or.inr (List.mem_singleton.mp hr)
    refine ⟨⟨a1, ⟨a2.1, fun r hr => ?_, a2.2.2.1, fun r hr => ?_, a2.2.2.2.2.1, ?_⟩, zd_r a3 (fun r hr => ?_), a4, ⟨a5.1, fun r hr => ?_⟩, zn_zs zs_r a6, a7⟩, hpk⟩
    · rcases hmem r hr with hr | hr
      · exact a2.2.1 r hr
      · rw [hr]
        exact ⟨by show v ≤ 200; omega, by show v + 1 ≤ 200; omega, by show 0 ≤ 200; omega, by show 0 ≤ 200; omega⟩
    · rcases hmem r hr with hr | hr
      · exact a2.2.2.2.1 r hr
      · rw [hr]
        intro c
        have c : 100 < v := c
        omega
    · refine zpk_80 hpk (fun r hr => ?_) (fun r hr => ?_)
      · rcases hmem r hr with hr | hr
        · exact a2.2.2.2.1 r hr
        · rw [hr]
          intro c
          have c : 100 < v := c
          omega
      · rcases hmem r hr with hr | hr
        · rcases (a3.2.2.1 r hr).2.2.2 with c | c
          · exact Or.inl c.1
          · exact Or.inr c.1
        · rw [hr]
          exact Or.inl hv4
    · rcases hmem r hr with hr | hr
      · exact a3.2.2.1 r hr
      · rw [hr]
        exact hrok
    · rcases hmem r hr with hr | hr
      · exact a5.2 r hr
      · rw [hr]
        have hw : zr_w Z (v, v + 1, x, 0, 0) = v := by unfold zr_w; rw [if_pos hv4]
        show zh_ Z (v + 1) = zr_w Z _ ∧ eg_ (ze_ Z (v + 1)) = false ∧ okr Z (zr_w Z _) 0
        rw [hw]
        exact ⟨r1, r2, Or.inl rfl⟩
  · rw [if_neg hc]
    exact ⟨h, hp⟩
theorem zB_t (h : zB Z) {l : List Int32} : zB (zj_t Z v l) := by
  obtain ⟨a1, a2, a3, a4, a5, a6, a7⟩ := h
  exact ⟨a1, a2, a3, a4, a5, zn_zs (Z := Z) (X := zj_t Z v l) (fun _ => ⟨rfl, rfl, rfl, rfl⟩) a6, a7⟩
/-- what an instruction leaves, beside the bounds -/
def zB_q (v : Nat) (Z : zz_S) (S : zz_S × Int32 × Nat) : Prop := zB S.1 ∧ zpk S.1 ∧ okr S.1 v S.2.2 ∧ (∀ w e, zk_K Z e → okr Z w e → okr S.1 w e) ∧ ∀ e, zk_K Z e → zh_ S.1 e = zh_ Z e
theorem zB_act (h : zB Z) (hA : za_ok Z []) (hpk : zpk Z) (hv : v < 4) (ho : 1 ≤ o ∧ o ≤ zo_ Z) (hoh : zh_ Z o = v) (hog : eg_ (ze_ Z o) = false) (hr : okr Z v r) (hr2 : zk_K Z r) {op y : Int32} (hop : zo_i (op, y)) : zB_q v Z (z_act v o (Z, x, r) op y).1 := by
  have hok : zk_K Z o := zk_K4 (Or.inr (Or.inl ho))
  have hE := h.2.2.1.1 o
  have hlive : zk_live Z o = true := by
    unfold zk_live
    rw [hok.resolve_left (by omega), hog]
    rfl
  have hsl := (h.2.2.2.2.1.1 o hlive).2 (Nat.le_trans ho.2 h.1.2.2.2.1)
  rw [hoh] at hsl
  have base : ∀ u, okr Z v u → zB_q v Z (Z, x, u) := fun u hu => ⟨h, hpk, hu, fun _ _ _ hk => hk, fun _ _ => rfl⟩
  have base2 : ∀ z u, okr Z v u → zB_q v Z (Z, z, u) := fun z u hu => ⟨h, hpk, hu, fun _ _ _ hk => hk, fun _ _ => rfl⟩
  unfold z_act
  by_cases k0 : op = 0
  · rw [if_pos k0]; exact base2 _ r hr
  rw [if_neg k0]
  by_cases k1 : op = 1
  · rw [if_pos k1]; exact base2 _ r hr
  rw [if_neg k1]
  by_cases k2 : op = 2
  · rw [if_pos k2]
    have hfe := zj_face (Z := Z) (f := o) (E := ej_n (ze_ Z o) x) rfl rfl rfl rfl (fun w => Int.le_refl _)
    refine ⟨zB_j h (E := ej_n (ze_ Z o) x) (gG_j h.2.2.2.1 rfl rfl rfl rfl rfl) (by omega) hok rfl rfl rfl rfl (fun w => Int.le_refl _) rfl rfl, hpk, okr_m hr (hfe r).1 (hfe r).2.1 ((hfe r).2.2.2.2 v), fun w e _ hk => okr_m hk (hfe e).1 (hfe e).2.1 ((hfe e).2.2.2.2 w), fun e _ => (hfe e).1⟩
  rw [if_neg k2]
  by_cases k3 : op = 3
  · rw [if_pos k3]
    have hfe : ∀ e, zh_ (zj_e Z o (ej_l (ze_ Z o) y.toNatClampNeg r)) e = zh_ Z e ∧ eg_ (ze_ (zj_e Z o (ej_l (ze_ Z o) y.toNatClampNeg r)) e) = eg_ (ze_ Z e) ∧ ei_ (ze_ (zj_e Z o (ej_l (ze_ Z o) y.toNatClampNeg r)) e) = ei_ (ze_ Z e) := fun e => by
      unfold zh_
      by_cases c : e = o
      · subst c
        rw [ze_s]
        exact ⟨rfl, rfl, rfl⟩
      · rw [ze_n c]
        exact ⟨rfl, rfl, rfl⟩
    exact ⟨zB_slot h hok (by omega) (by rw [hoh]; exact hr) hr2, hpk, (okr_e (hfe r).1 (hfe r).2.1 (hfe r).2.2).mpr hr, fun w e _ hk => (okr_e (hfe e).1 (hfe e).2.1 (hfe e).2.2).mpr hk, fun e _ => (hfe e).1⟩
  rw [if_neg k3]
  by_cases k4 : op = 4
  · rw [if_pos k4]
    obtain ⟨sl, hsl4, rfl⟩ := hop.2.2.1 (Or.inr (Or.inl k4))
    exact base2 _ _ (hsl _ (by rw [nI_clamp (by omega)]; exact hsl4))
  rw [if_neg k4]
  by_cases k5 : op = 5
  · rw [if_pos k5]; exact base2 _ _ (Or.inr (Or.inl ⟨hoh, hog⟩))
  rw [if_neg k5]
  by_cases k6 : op = 6
  · rw [if_pos k6]
    obtain ⟨g, hg, rfl⟩ := hop.2.2.2 (Or.inl k6)
    obtain ⟨f1, f2, f3⟩ := zB_fresh (x := x) h hv (g := (nI g).toNatClampNeg) (by rw [nI_clamp (by omega)]; exact hg) hr hr2
    refine ⟨f1, ?_, f2, f3, fun e he => ?_⟩
    · refine zpk_s hpk ?_
      show (zq0 (z_fresh Z v (nI g).toNatClampNeg x r).1).Sublist _
      unfold z_fresh
      split
      · exact List.Sublist.refl _
      · exact List.Sublist.refl _
    · show zh_ (z_fresh Z v (nI g).toNatClampNeg x r).1 e = _
      unfold z_fresh
      split
      · rfl
      · unfold zh_
        rw [ze_n (fun c => by have := zk_K3 he; omega)]
        rfl
  rw [if_neg k6]
  by_cases k7 : op = 7
  · rw [if_pos k7]
    obtain ⟨sl, hsl4, rfl⟩ := hop.2.2.1 (Or.inr (Or.inr k7))
    have ht := hsl (nI sl).toNatClampNeg (by rw [nI_clamp (by omega)]; exact hsl4)
    have ht2 := hE.2.1 (nI sl).toNatClampNeg
    obtain ⟨f1, f2, f3⟩ := zB_send (x := x) h hA hv ht ht2 hr hr2
    refine ⟨f1, ?_, f2, f3, fun e he => ?_⟩
    · show zpk (z_send Z v (el_ (ze_ Z o) (nI sl).toNatClampNeg) x r).1
      generalize el_ (ze_ Z o) (nI sl).toNatClampNeg = t at ht ht2
      refine zpk_s hpk ?_
      by_cases h0 : t = 0 ∨ 100 ≤ zp_ Z
      · rw [zsend_0 h0]
        exact List.Sublist.refl _
      · have hp : zp_ Z < 100 := by omega
        rw [zsend_e (by omega) hp]
        split
        · have hans := zi_ans h.2.2.1 hA h.1
          have k3 := zprom_a (hm := zh_ Z t) hA hans hp
          have h4 := (h.2.1.1 t (zk_K2 h.1 ht2)).1
          have hkp := zprom_w h.2.1 h4
          have hz1 := za_okp k3 (zgo_a (Z := z_prom Z (zh_ Z t)) (lost := []) (w := v) (u := t) (v := x) (e := r) (q := 101 + zp_ Z).trans (by unfold za_1; rw [if_pos (by omega)]; exact List.Perm.refl _))
          refine (zq0_done hv (zgo_w hkp hv (zk_K2 h.1 ht2) (zk_K2 h.1 hr2) (by omega) (by omega)) hz1).trans ?_
          rw [zq0_go (by omega)]
          exact List.Sublist.refl _
        · show ((zr_ (z_pack (z_prom Z (zh_ Z t)) v (zh_ Z t) r)).filter _).Sublist _
          rw [zpk_r]
          exact List.Sublist.refl _
    · show zh_ (z_send Z v (el_ (ze_ Z o) (nI sl).toNatClampNeg) x r).1 e = _
      generalize el_ (ze_ Z o) (nI sl).toNatClampNeg = t at ht ht2
      by_cases h0 : t = 0 ∨ 100 ≤ zp_ Z
      · rw [zsend_0 h0]
      · have hp : zp_ Z < 100 := by omega
        have hne : e ≠ 101 + zp_ Z := fun c => by
          have := zk_K3 he
          have := h.1.2.2.2.1
          omega
        have ep : zh_ (z_prom Z (zh_ Z t)) e = zh_ Z e := by unfold zh_; rw [zprom_h hne]
        rw [zsend_e (by omega) hp]
        split
        · have hf := zf_t (zf_go (Z := z_prom Z (zh_ Z t)) (lost := []) (w := v) (u := t) (v := x) (e := r) (q := 101 + zp_ Z)) (zf_done (w := v))
          exact (hf.2.2.2 e).1.trans ep
        · have hs2 : zs_ (z_prom Z (zh_ Z t)) (z_post (z_pack (z_prom Z (zh_ Z t)) v (zh_ Z t) r) 1 v (zh_ Z t) t x r (101 + zp_ Z)) := zs_pack
          refine Eq.trans ?_ ep
          rw [← (hs2 e).1]
          unfold zh_
          rw [ze_n hne]
  rw [if_neg k7]
  by_cases k8 : op = 8
  · rw [if_pos k8]; exact base2 _ _ hr
  rw [if_neg k8]
  by_cases k9 : op = 9
  · rw [if_pos k9]
    exact ⟨zB_t h, hpk, hr, fun _ _ _ hk => hk, fun _ _ => rfl⟩
  rw [if_neg k9]
  exact base2 _ _ (Or.inl rfl)
end ZTU
