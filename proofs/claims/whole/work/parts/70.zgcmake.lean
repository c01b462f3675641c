/-! What holds between calls: gives, new objects, sends. -/
section ZGM
variable {Z X : zz_S} {v w t r f s u : Nat} {x : Int32}
theorem gj_give {e : Nat} {E : ze_E} {L : List zm_L} (hj : gj_ e E L) (hv : v < 4) (hh : v ≠ eh_ E) {d : Int} (hd : d = ei_ E v + 1) : gj_ e (ej_i (ej_x E v 1) v d) L := by
  obtain ⟨j1, j2, j3, j4, k1, k2, k3, k4⟩ := hj
  have hg : ∀ b, gc_0 (ej_i (ej_x E v 1) v d) b = gc_0 E b + (if b = v then 1 else 0) := fun b => by rw [gc_0i, gc_0x]
  have hi : ∀ b, ei_ (ej_i (ej_x E v 1) v d) b = ei_ E b + (if b = v then 1 else 0) := fun b => by
    rw [ei_i]
    by_cases c : b = v
    · rw [if_pos c, if_pos c, hd, c]
    · rw [if_neg c, if_neg c]
      show ei_ E b = _
      omega
  refine ⟨fun b hb hbh => ?_, j2, fun b hb hbh => ?_, j4, ?_, ?_, fun b hb => ?_, k4⟩
  · rw [hg, hi]
    have : gc_0 E b + gs_ (gc_p e b) L = ei_ E b + gs_ (gc_c e (eh_ E) b) L := j1 b hb hbh
    show gc_0 E b + _ + gs_ (gc_p e b) L = ei_ E b + _ + gs_ (gc_c e (eh_ E) b) L
    omega
  · rw [hg]
    refine gw_mono L ?_ (j3 b hb hbh)
    split <;> omega
  · show va_up (ex_ E) v _ (eh_ E) = 0
    rw [va_up_ne _ _ (Ne.symm hh)]
    exact k1
  · rw [hi]
    show ei_ E (eh_ E) + (if eh_ E = v then 1 else 0) = 0
    rw [if_neg (Ne.symm hh)]
    omega
  · rw [hi]
    have := k3 b hb
    split <;> omega
theorem gG_give (h : gG Z) (hv : v < 4) (hh : v ≠ zh_ Z f) (hl : zk_made Z f = true → eg_ (ze_ Z f) = false) {d : Int} (hd : d = ei_ (ze_ Z f) v + 1) : gG (zj_e Z f (ej_i (ej_x (ze_ Z f) v 1) v d)) := by
  obtain ⟨g1, g2, g3⟩ := h
  have hhe : ∀ e, zh_ (zj_e Z f (ej_i (ej_x (ze_ Z f) v 1) v d)) e = zh_ Z e := fun e => by
    unfold zh_
    by_cases c : e = f
    · subst c
      rw [ze_s]
      rfl
    · rw [ze_n c]
  refine ⟨fun e he => ?_, fun r hr => ?_, fun e he hg => ?_⟩
  · show gj_ e _ (zl_ Z)
    by_cases c : e = f
    · subst c
      rw [ze_s]
      exact gj_give (g1 e he) hv hh hd
    · rw [ze_n c]
      exact g1 e he
  · unfold mw_
    rw [hhe]
    exact g2 r hr
  · by_cases c : e = f
    · subst c
      rw [ze_s] at hg
      have hg : eg_ (ze_ Z e) = true := hg
      rw [hl he] at hg
      cases hg
    · rw [ze_n c] at hg ⊢
      exact g3 e he hg
theorem zB_give (h : zB Z) (hv : v < 4) (hf : zk_K Z f) (h0 : 0 < f) (hh : v ≠ zh_ Z f) (hl : eg_ (ze_ Z f) = false) {d : Int} (hd : d = ei_ (ze_ Z f) v + 1) : zB (zj_e Z f (ej_i (ej_x (ze_ Z f) v 1) v d)) := by
  refine zB_j h (gG_give h.2.2.2.1 hv hh (fun _ => hl) hd) h0 hf rfl rfl rfl rfl (fun w => ?_) rfl rfl
  rw [ei_i]
  split
  · rename_i c
    rw [c, hd]
    omega
  · exact Int.le_refl _
/-- a slot is set -/
theorem zB_slot (h : zB Z) (hf : zk_K Z f) (h0 : 0 < f) (hu : okr Z (zh_ Z f) u) (hu2 : zk_K Z u) : zB (zj_e Z f (ej_l (ze_ Z f) s u)) := by
  obtain ⟨a1, a2, a3, a4, a5, a6, a7⟩ := h
  have hface : ∀ e, zh_ (zj_e Z f (ej_l (ze_ Z f) s u)) e = zh_ Z e ∧ eg_ (ze_ (zj_e Z f (ej_l (ze_ Z f) s u)) e) = eg_ (ze_ Z e) ∧ et_ (ze_ (zj_e Z f (ej_l (ze_ Z f) s u)) e) = et_ (ze_ Z e) ∧ ei_ (ze_ (zj_e Z f (ej_l (ze_ Z f) s u)) e) = ei_ (ze_ Z e) := fun e => by
    unfold zh_
    by_cases c : e = f
    · subst c
      rw [ze_s]
      exact ⟨rfl, rfl, rfl, rfl⟩
    · rw [ze_n c]
      exact ⟨rfl, rfl, rfl, rfl⟩
  have hok : ∀ w e, okr (zj_e Z f (ej_l (ze_ Z f) s u)) w e ↔ okr Z w e := fun w e => okr_e (hface e).1 (hface e).2.1 (hface e).2.2.2
  refine ⟨a1, zwp_j a2 rfl rfl rfl rfl, zd_j a3 hf h0 ⟨(a3.1 f).1, fun s' => ?_, (a3.1 f).2.2⟩, gG_j a4 rfl rfl rfl rfl rfl, ⟨fun e hl => ?_, fun r hr => ?_⟩, zn_zs (zs_j rfl rfl rfl rfl) a6, zroot_m a7 rfl (fun e => ⟨(hface e).1, (hface e).2.1⟩)⟩
  · show zk_K Z (va_up (el_ (ze_ Z f)) s u s')
    unfold va_up
    split
    · exact hu2
    · exact (a3.1 f).2.1 s'
  · have e1 : zk_live (zj_e Z f (ej_l (ze_ Z f) s u)) e = zk_live Z e := by
      unfold zk_live
      rw [(hface e).2.1]
      rfl
    rw [e1] at hl
    obtain ⟨k1, k2⟩ := a5.1 e hl
    have hse : es_ (ze_ (zj_e Z f (ej_l (ze_ Z f) s u)) e) = es_ (ze_ Z e) := (zs_j (Z := Z) (f := f) (E := ej_l (ze_ Z f) s u) rfl rfl rfl rfl e).2.2.1
    rw [(hface e).1, (hface e).2.2.1, hse]
    refine ⟨fun c d => (hok _ _).mpr (k1 c d), fun d s' hs' => (hok _ _).mpr ?_⟩
    by_cases c : e = f
    · subst c
      rw [ze_s]
      show okr Z (zh_ Z e) (va_up (el_ (ze_ Z e)) s u s')
      unfold va_up
      split
      · exact hu
      · exact k2 d s' hs'
    · rw [ze_n c]
      exact k2 d s' hs'
  · obtain ⟨k1, k2, k3⟩ := a5.2 r hr
    have e1 : zr_w (zj_e Z f (ej_l (ze_ Z f) s u)) r = zr_w Z r := by
      unfold zr_w
      rw [(hface r.1).1]
    rw [e1, (hface _).1, (hface _).2.1]
    exact ⟨k1, k2, (hok _ _).mpr k3⟩
theorem va_comm {α : Type} {f : Nat → α} {i j : Nat} {x y : α} (h : i ≠ j) : va_up (va_up f i x) j y = va_up (va_up f j y) i x := by
  funext k
  unfold va_up
  by_cases h1 : k = i
  · by_cases h2 : k = j
    · exact absurd (h1.symm.trans h2) h
    · rw [if_neg h2, if_pos h1, if_pos h1]
  · by_cases h2 : k = j
    · rw [if_pos h2, if_neg h1, if_pos h2]
    · rw [if_neg h2, if_neg h1, if_neg h1, if_neg h2]
theorem va_twice {α : Type} {f : Nat → α} {i : Nat} {x y : α} : va_up (va_up f i x) i y = va_up f i y := by
  funext k
  unfold va_up
  split <;> rfl
theorem zje_twice {E F : ze_E} : zj_e (zj_e Z f E) f F = zj_e Z f F := by
  unfold zj_e
  show (Z.1, Z.2.1, va_up (va_up (ze_ Z) f E) f F, Z.2.2.2) = _
  rw [va_twice]
theorem zgive_e (h : v ≠ w) : z_give Z v s w = zj_e (zj_e Z (w + 1) (ej_i (ej_x (ze_ Z (w + 1)) v 1) v (ei_ (ze_ Z (w + 1)) v + 1))) (v + 1) (ej_l (ze_ Z (v + 1)) s (w + 1)) := by
  unfold z_give
  dsimp only
  rw [if_neg h, zje_twice, ze_s, ze_n (show w + 1 ≠ v + 1 by omega)]
  show zj_e (zj_e Z (v + 1) (ej_l (ze_ Z (v + 1)) s (w + 1))) (w + 1) (ej_i (ej_x (ze_ Z (w + 1)) v 1) v (ei_ (ze_ Z (w + 1)) v + 1)) = _
  unfold zj_e
  show (Z.1, Z.2.1, va_up (va_up (ze_ Z) _ _) _ _, Z.2.2.2) = (Z.1, Z.2.1, va_up (va_up (ze_ Z) _ _) _ _, Z.2.2.2)
  rw [va_comm (show v + 1 ≠ w + 1 by omega)]
theorem zB_gives (h : zB Z) (hv : v < zn_ Z) (hw : w < zn_ Z) : zB (z_give Z v s w) := by
  have h4 := h.1.2.1
  have hno := h.1.2.2.1
  have kv : zk_K Z (v + 1) := zk_K4 (Or.inr (Or.inl ⟨by omega, by omega⟩))
  have kw : zk_K Z (w + 1) := zk_K4 (Or.inr (Or.inl ⟨by omega, by omega⟩))
  obtain ⟨rv1, rv2⟩ := h.2.2.2.2.2.2 v hv
  obtain ⟨rw1, rw2⟩ := h.2.2.2.2.2.2 w hw
  by_cases hvw : v = w
  · subst hvw
    unfold z_give
    dsimp only
    rw [if_pos rfl]
    exact zB_slot h kv (by omega) (Or.inr (Or.inl ⟨rfl, rv2⟩)) kv
  · rw [zgive_e hvw]
    have hB := zB_give (d := ei_ (ze_ Z (w + 1)) v + 1) h (show v < 4 by omega) kw (by omega) (by rw [rw1]; exact hvw) rw2 rfl
    have e1 : ze_ (zj_e Z (w + 1) (ej_i (ej_x (ze_ Z (w + 1)) v 1) v (ei_ (ze_ Z (w + 1)) v + 1))) (v + 1) = ze_ Z (v + 1) := ze_n (by omega)
    rw [← e1]
    refine zB_slot hB kv (by omega) ?_ kw
    have e2 : zh_ (zj_e Z (w + 1) (ej_i (ej_x (ze_ Z (w + 1)) v 1) v (ei_ (ze_ Z (w + 1)) v + 1))) (v + 1) = v := by
      unfold zh_
      rw [e1]
      exact rv1
    rw [e2]
    refine Or.inr (Or.inr ⟨?_, ?_⟩)
    · unfold zh_
      rw [ze_s]
      exact fun c => hvw (by rw [← rw1]; exact c.symm)
    · rw [ze_s, ei_i, if_pos rfl]
      have := ei_nn h kw (show v < 4 by omega)
      omega
theorem zn_p (hp : ∀ w e, zk_pass X w e = zk_pass Z w e) (ht : ∀ e, et_ (ze_ X e) = et_ (ze_ Z e)) (hn : zn_r Z) : zn_r X := by
  have e1 : ∀ j p, z_it X j p = z_it Z j p := by
    intro j
    induction j with
    | zero => exact fun _ => rfl
    | succ j ih =>
      intro p
      show z_it X j (et_ (ze_ X p)) = z_it Z j (et_ (ze_ Z p))
      rw [ih, ht p]
  intro w p n h1 h2
  rw [e1]
  refine hn w p n h1 (fun j hj => ?_)
  have := h2 j hj
  rw [e1, hp] at this
  exact this
/-- a new entity -/
theorem zB_new {Y : zz_S} {E : ze_E} (h : zB Z) (hY : Y.2 = Z.2) (hYn : zw_n Y) (hmono : ∀ e, zk_K Z e → zk_K Y e) (hmade : ∀ e, zk_made Y e = true → zk_made Z e = true ∨ e = f) (hnz : zn_ Y = zn_ Z) (hf : ¬ zk_K Z f) (hfY : zk_K Y f) (h0 : 0 < f) (hE : eh_ E < 4 ∧ eg_ E = false ∧ es_ E = false ∧ et_ E = 0 ∧ ep_ E < 8 ∧ (∀ b, ex_ E b = 0) ∧ (∀ b, ei_ E b = 0) ∧ ∀ a b, eo_ E a b = 0) (hl : ∀ s, okr Z (eh_ E) (el_ E s) ∧ zk_K Z (el_ E s)) : zB (zj_e Y f E) := by
  obtain ⟨a1, a2, a3, a4, a5, a6, a7⟩ := h
  obtain ⟨e1, e2, e3, e4, e5, e6, e7, e8⟩ := hE
  have yg : zg_ Y = zg_ Z := by unfold zg_; rw [hY]
  have ye : ze_ Y = ze_ Z := by unfold ze_; rw [hY]
  have yr : zr_ Y = zr_ Z := by unfold zr_; rw [hY]
  have yl : zl_ Y = zl_ Z := by unfold zl_; rw [hY]
  have yt : zt_ Y = zt_ Z := by unfold zt_; rw [hY]
  have hold : ze_ Z f = e0_ := a3.2.1 f (Or.inr hf)
  have nf : ∀ e, zk_K Z e → e ≠ f := fun e he c => hf (c ▸ he)
  have hn : ∀ e, e ≠ f → ze_ (zj_e Y f E) e = ze_ Z e := fun e he => by rw [ze_n he, ye]
  have hok : ∀ w e, zk_K Z e → okr Z w e → okr (zj_e Y f E) w e := fun w e he hk => by
    unfold okr zh_ at hk ⊢
    rw [hn e (nf e he)]
    exact hk
  have hYk : zk_w Y := by
    unfold zk_w zw_e zw_r zw_l zh_ at a2 ⊢
    rw [ye, yr, yl]
    exact a2
  have hYd : zd_ (zk_K Y) Y := by
    have := zd_mono a3 hmono
    unfold zd_ at this ⊢
    rw [ye, yr, yl]
    exact this
  refine ⟨hYn, ⟨fun e he => ?_, hYk.2⟩, zd_j hYd hfY h0 ⟨by rw [e4]; exact zk_K0, fun s => hmono _ (hl s).2, e5⟩, ⟨fun e he => ?_, fun r hr => ?_, fun e he hg => ?_⟩, ⟨fun e he => ?_, fun r hr => ?_⟩, ?_, fun v hv => ?_⟩
  · unfold zh_
    by_cases c : e = f
    · subst c
      rw [ze_s, e4]
      exact ⟨e1, Nat.zero_le _⟩
    · rw [hn e c]
      exact a2.1 e he
  · show gj_ e (ze_ (zj_e Y f E) e) (zl_ Y)
    rw [yl]
    by_cases c : e = f
    · subst c
      rw [ze_s]
      refine gj_0 e6 e7 e8 (fun r hr => ?_)
      obtain ⟨k1, k2, k3, k4⟩ := a3.2.2.2 r hr
      exact ⟨nf _ k2, nf _ k3⟩
    · rw [hn e c]
      exact a4.1 e ((hmade e he).resolve_right c)
  · have hr : r ∈ zl_ Y := hr
    rw [yl] at hr
    obtain ⟨k1, k2, k3, k4⟩ := a3.2.2.2 r hr
    unfold mw_ zh_
    rw [hn _ (nf _ k2)]
    exact a4.2.1 r hr
  · by_cases c : e = f
    · subst c
      rw [ze_s, e2] at hg
      cases hg
    · rw [hn e c] at hg ⊢
      exact a4.2.2 e ((hmade e he).resolve_right c) hg
  · by_cases c : e = f
    · subst c
      unfold zh_
      rw [ze_s, e4]
      exact ⟨fun _ _ => Or.inl rfl, fun _ s _ => hok _ _ (hl s).2 (hl s).1⟩
    · unfold zk_live at he
      rw [Bool.and_eq_true] at he
      have hm := (hmade e he.1).resolve_right c
      have hg := he.2
      rw [hn e c] at hg
      have hlz : zk_live Z e = true := by unfold zk_live; rw [hm, hg]; rfl
      obtain ⟨k1, k2⟩ := a5.1 e hlz
      unfold zh_ at k1 k2 ⊢
      rw [hn e c]
      exact ⟨fun c d => hok _ _ (a3.1 e).1 (k1 c d), fun c s hs => hok _ _ ((a3.1 e).2.1 s) (k2 c s hs)⟩
  · have hr : r ∈ zr_ Y := hr
    rw [yr] at hr
    obtain ⟨k1, k2, k3⟩ := a5.2 r hr
    obtain ⟨c1, c2, c3, c4⟩ := a3.2.2.1 r hr
    have e9 : zr_w (zj_e Y f E) r = zr_w Z r := by
      unfold zr_w zh_
      rcases c4 with c4 | c4
      · rw [if_pos c4.1, if_pos c4.1]
      · rw [hn _ (by rw [← c4.2]; exact nf _ c1)]
    rw [e9]
    unfold zh_ at k1 ⊢
    rw [hn _ (nf _ c1)]
    exact ⟨k1, k2, hok _ _ c2 k3⟩
  · refine zn_p (fun w e => ?_) (fun e => ?_) a6
    · unfold zk_pass zh_
      by_cases c : e = f
      · subst c
        rw [ze_s, hold, e3]
        show (_ && _ && false) = (_ && _ && false)
        rw [Bool.and_false, Bool.and_false]
      · rw [hn e c]
    · by_cases c : e = f
      · subst c
        rw [ze_s, hold, e4]
        rfl
      · rw [hn e c]
  · have hv : v < zn_ Y := hv
    rw [hnz] at hv
    have hno := a1.2.2.1
    have kv : zk_K Z (v + 1) := zk_K4 (Or.inr (Or.inl ⟨by omega, by omega⟩))
    unfold zh_
    rw [hn _ (nf _ kv)]
    exact a7 v hv
theorem zB_fresh (h : zB Z) (hv : v < 4) {g : Nat} (hg : g < 8) (hr : okr Z v r) (hr2 : zk_K Z r) : zB (z_fresh Z v g x r).1 ∧ okr (z_fresh Z v g x r).1 v (z_fresh Z v g x r).2 ∧ ∀ w e, zk_K Z e → okr Z w e → okr (z_fresh Z v g x r).1 w e := by
  unfold z_fresh
  by_cases hc : 60 ≤ zo_ Z
  · rw [if_pos hc]
    exact ⟨h, Or.inl rfl, fun _ _ _ hk => hk⟩
  · rw [if_neg hc]
    have hnf : ¬ zk_K Z (zo_ Z + 1) := fun c => by
      have := zk_K3 c
      omega
    have h1 := h.1
    refine ⟨zB_new (Y := zj_o Z (zo_ Z + 1)) h rfl ⟨h1.1, h1.2.1, Nat.le_succ_of_le h1.2.2.1, by show zo_ Z + 1 ≤ 60; omega, h1.2.2.2.2⟩ (fun e he => zk_K4 (by
        have := zk_K3 he
        show e = 0 ∨ (1 ≤ e ∧ e ≤ zo_ Z + 1) ∨ (101 ≤ e ∧ e ≤ 100 + zp_ Z)
        omega)) (fun e he => ?_) rfl hnf (zk_K4 (Or.inr (Or.inl ⟨by omega, Nat.le_refl _⟩))) (by omega) ⟨hv, rfl, rfl, rfl, hg, fun _ => rfl, fun _ => rfl, fun _ _ => rfl⟩ (fun s => ?_), ?_, fun w e he hk => ?_⟩
    · have := zk_K3 (Z := zj_o Z (zo_ Z + 1)) (Or.inr he)
      have h3 : e = 0 ∨ (1 ≤ e ∧ e ≤ zo_ Z + 1) ∨ (101 ≤ e ∧ e ≤ 100 + zp_ Z) := this
      by_cases c : e = zo_ Z + 1
      · exact Or.inr c
      · refine Or.inl ((zk_K4 (Z := Z) (by omega)).resolve_left (made_n0 he))
    · show okr Z v (va_up (fun _ => 0) 0 r s) ∧ zk_K Z (va_up (fun _ => 0) 0 r s)
      unfold va_up
      split
      · exact ⟨hr, hr2⟩
      · exact ⟨Or.inl rfl, zk_K0⟩
    · refine Or.inr (Or.inl ⟨?_, ?_⟩)
      · unfold zh_
        rw [ze_s]
        rfl
      · rw [ze_s]
        rfl
    · unfold okr zh_ at hk ⊢
      have : e ≠ zo_ Z + 1 := fun c => hnf (c ▸ he)
      rw [ze_n this]
      exact hk
theorem zB_prom (h : zB Z) (hv : v < 4) (hp : zp_ Z < 100) : zB (z_prom Z v) ∧ ∀ w e, zk_K Z e → okr Z w e → okr (z_prom Z v) w e := by
  have h1 := h.1
  have hnf : ¬ zk_K Z (101 + zp_ Z) := fun c => by
    have := zk_K3 c
    have := h1.2.2.2.1
    omega
  refine ⟨zB_new (Y := zj_p Z (zp_ Z + 1)) h rfl ⟨h1.1, h1.2.1, h1.2.2.1, h1.2.2.2.1, by show zp_ Z + 1 ≤ 100; omega, h1.2.2.2.2.2⟩ (fun e he => zk_K4 (by
      have := zk_K3 he
      show e = 0 ∨ (1 ≤ e ∧ e ≤ zo_ Z) ∨ (101 ≤ e ∧ e ≤ 100 + (zp_ Z + 1))
      omega)) (fun e he => ?_) rfl hnf (zk_K4 (Or.inr (Or.inr ⟨by omega, by show 101 + zp_ Z ≤ 100 + (zp_ Z + 1); omega⟩))) (by omega) ⟨hv, rfl, rfl, rfl, (by decide : (0 : Nat) < 8), fun _ => rfl, fun _ => rfl, fun _ _ => rfl⟩ (fun s => ⟨Or.inl rfl, zk_K0⟩), fun w e he hk => ?_⟩
  · have h3 : e = 0 ∨ (1 ≤ e ∧ e ≤ zo_ Z) ∨ (101 ≤ e ∧ e ≤ 100 + (zp_ Z + 1)) := zk_K3 (Z := zj_p Z (zp_ Z + 1)) (Or.inr he)
    by_cases c : e = 101 + zp_ Z
    · exact Or.inr c
    · refine Or.inl ((zk_K4 (Z := Z) (by omega)).resolve_left (made_n0 he))
  · unfold okr zh_ at hk ⊢
    have : e ≠ 101 + zp_ Z := fun c => hnf (c ▸ he)
    rw [zprom_h this]
    exact hk
theorem zB_send (h : zB Z) (hA : za_ok Z []) (hv : v < 4) (ht : okr Z v t) (ht2 : zk_K Z t) (hr : okr Z v r) (hr2 : zk_K Z r) : zB (z_send Z v t x r).1 ∧ okr (z_send Z v t x r).1 v (z_send Z v t x r).2 ∧ ∀ w e, zk_K Z e → okr Z w e → okr (z_send Z v t x r).1 w e := by
  by_cases h0 : t = 0 ∨ 100 ≤ zp_ Z
  · rw [zsend_0 h0]
    exact ⟨h, Or.inl rfl, fun _ _ _ hk => hk⟩
  · have hp : zp_ Z < 100 := by omega
    rw [zsend_e (by omega) hp]
    have h4 := (h.2.1.1 t (zk_K2 h.1 ht2)).1
    obtain ⟨p1, p2⟩ := zB_prom h h4 hp
    have hans := zi_ans h.2.2.1 hA h.1
    have k3 := zprom_a (hm := zh_ Z t) hA hans hp
    have hmono : ∀ e, zk_K Z e → zk_K (z_prom Z (zh_ Z t)) e := fun e he => zk_K4 (by
      have := zk_K3 he
      show e = 0 ∨ (1 ≤ e ∧ e ≤ zo_ Z) ∨ (101 ≤ e ∧ e ≤ 100 + (zp_ Z + 1))
      omega)
    have hq : zk_K (z_prom Z (zh_ Z t)) (101 + zp_ Z) := zk_K4 (Or.inr (Or.inr ⟨by omega, by show 101 + zp_ Z ≤ 100 + (zp_ Z + 1); omega⟩))
    have kt := hmono t ht2
    have kr := hmono r hr2
    have ot := p2 v t ht2 ht
    have or_ := p2 v r hr2 hr
    have hne : ∀ e, zk_K Z e → e ≠ 101 + zp_ Z := fun e he c => by
      have := zk_K3 he
      have := h.1.2.2.2.1
      omega
    have eht : zh_ (z_prom Z (zh_ Z t)) t = zh_ Z t := by unfold zh_; rw [zprom_h (hne t ht2)]
    have ehq : zh_ (z_prom Z (zh_ Z t)) (101 + zp_ Z) = zh_ Z t := by unfold zh_ z_prom; rw [ze_s]; rfl
    have egq : eg_ (ze_ (z_prom Z (zh_ Z t)) (101 + zp_ Z)) = false := by unfold z_prom; rw [ze_s]; rfl
    have eiq : ∀ b, ei_ (ze_ (z_prom Z (zh_ Z t)) (101 + zp_ Z)) b = 0 := fun b => by unfold z_prom; rw [ze_s]; rfl
    have hqp : 0 < 101 + zp_ Z := by omega
    generalize 101 + zp_ Z = q at k3 hq hne ehq egq eiq hqp
    generalize z_prom Z (zh_ Z t) = Z1 at p1 p2 k3 hmono hq kt kr ot or_ eht ehq egq eiq
    by_cases hc : zh_ Z t = v
    · rw [if_pos hc]
      obtain ⟨g1, g2⟩ := zB_go (v := x) (lost := []) p1 hv ot kt or_ kr hq hqp (fun _ hx => by cases hx)
      have hf : zf_ Z1 (z_go Z1 [] v t x r q).1 := zf_go
      have hf2 := zf_t hf (zf_done (w := v) (s := z_go Z1 [] v t x r q))
      have g3 : ∀ y ∈ (z_go Z1 [] v t x r q).2, zk_K (z_go Z1 [] v t x r q).1 y := fun y hy => by rw [zk_KZ hf.1]; exact g2 y hy
      have hz1 := za_okp k3 (zgo_a (Z := Z1) (lost := []) (w := v) (u := t) (v := x) (e := r) (q := q).trans (by unfold za_1; rw [if_pos hqp]; exact List.Perm.refl _))
      refine ⟨zB_done' hv g1 g3 hz1, (okr_f hf2).mpr (Or.inr (Or.inl ⟨by rw [ehq]; exact hc, egq⟩)), fun w e he hk => (okr_f hf2).mpr (p2 w e he hk)⟩
    · rw [if_neg hc]
      have hei : 0 < ei_ (ze_ Z1 t) v := by
        rcases ot with c | c | c
        · omega
        · exact absurd (eht.symm.trans c.1) hc
        · exact c.2
      obtain ⟨a1, a2, a3, a4, a5, a6, a7⟩ := p1
      have hr200 := zk_K2 a1 kr
      have hgc : gG (z_post (z_pack Z1 v (zh_ Z t) r) 1 v (zh_ Z t) t x r q) := gG_carry a4 a2.1 hr200 hv h4 (fun c => hc c.symm) (Or.inl rfl) eht or_ kr (fun _ => hei)
      have hf2 : zf_ Z1 (z_post (z_pack Z1 v (zh_ Z t) r) 1 v (zh_ Z t) t x r q) := zf_t zf_pack zf_l
      have hs2 : zs_ Z1 (z_post (z_pack Z1 v (zh_ Z t) r) 1 v (zh_ Z t) t x r q) := zs_pack
      have hB2 : zB (z_post (z_pack Z1 v (zh_ Z t) r) 1 v (zh_ Z t) t x r q) := by
        refine ⟨zw_f a1 hf2.1 hf2.2.1, zwp_post (zwp_pack a2 hv h4 hr200) (by decide) (by decide) hv h4 (zk_K2 a1 kt) hr200 (zk_K2 a1 hq) ⟨fun _ => hqp, fun z => absurd (show (1:Nat) = 2 from z) (by decide), fun z => absurd (show (1:Nat) = 4 ∨ (1:Nat) = 5 from z) (by decide)⟩, ?_, hgc, zT_f a5 hf2 (fun e => (hs2 e).2.2.2) (fun e => (hs2 e).2.2.1) zpk_r, zn_zs hs2 a6, zroot_m a7 hf2.1 (fun e => ⟨(hs2 e).1, (hs2 e).2.1⟩)⟩
        rw [zk_KZ hf2.1]
        exact zd_post (zd_pack a3 zk_K0 kr) (by omega) kt kr hq
      have ei2 : ei_ (ze_ (z_post (z_pack Z1 v (zh_ Z t) r) 1 v (zh_ Z t) t x r q) q) v = 0 := by rw [(hf2.2.2.2 q).2.2.2.2.2.1]; exact eiq v
      have eh2 : zh_ (z_post (z_pack Z1 v (zh_ Z t) r) 1 v (zh_ Z t) t x r q) q = zh_ Z t := (hs2 q).1.trans ehq
      have eg2 : eg_ (ze_ (z_post (z_pack Z1 v (zh_ Z t) r) 1 v (zh_ Z t) t x r q) q) = false := (hs2 q).2.1.trans egq
      have ok2 : ∀ w e, zk_K Z e → okr Z w e → okr (z_post (z_pack Z1 v (zh_ Z t) r) 1 v (zh_ Z t) t x r q) w e := fun w e he hk => (okr_f hf2).mpr (p2 w e he hk)
      have hq2 : zk_K (z_post (z_pack Z1 v (zh_ Z t) r) 1 v (zh_ Z t) t x r q) q := by rw [zk_KZ hf2.1]; exact hq
      generalize z_post (z_pack Z1 v (zh_ Z t) r) 1 v (zh_ Z t) t x r q = Z2 at hB2 ei2 eh2 eg2 ok2 hq2
      refine ⟨zB_give (d := 1) hB2 hv hq2 hqp (by rw [eh2]; exact fun c => hc c.symm) eg2 (by rw [ei2]; rfl), ?_, fun w e he hk => ?_⟩
      · refine Or.inr (Or.inr ⟨?_, ?_⟩)
        · unfold zh_
          rw [ze_s]
          show ¬ eh_ (ze_ Z2 q) = v
          have : eh_ (ze_ Z2 q) = zh_ Z t := eh2
          rw [this]
          exact hc
        · rw [ze_s, ei_i, if_pos rfl]
          decide
      · have := ok2 w e he hk
        unfold okr zh_ at this ⊢
        rw [ze_n (hne e he)]
        exact this
end ZGM
