/-! All that holds between calls, and that each call keeps it. -/
def zA (l : List Nat) (c : Nat) (Z : zz_S) : Prop := zi_ l (500 + 3 * c) Z ∧ zB Z ∧ zpk Z ∧ zE (8 * c) Z ∧ ∀ v, (zt_ Z v).length ≤ 8 * c
section ZAL
variable {Z X : zz_S} {l : List Nat} {c v w a b s n : Nat} {x : Int32} {D : Nat → Bool}
theorem zA_len (h : zA l c Z) (hc : c ≤ 512) : (zl_ Z).length ≤ 2040 := by
  have h1 := h.1.2.1.2.2
  have h2 := zphi_l (Z := Z)
  unfold zphi_n at h1
  omega
theorem zA_x (h : zA l c Z) (hc : c ≤ 512) : zx_b Z 1000000 := zx_of h.2.1 h.2.2.2.1 (by omega) (by have := zA_len h hc; omega)
theorem zA_s (h : zA l c Z) : zA l (c + 1) Z := by
  obtain ⟨⟨h1, ⟨h2, h3, h4⟩, h5, h6⟩, h7, h8, h9, h10⟩ := h
  exact ⟨⟨h1, ⟨h2, h3, by omega⟩, h5, h6⟩, h7, h8, zE_m h9 (by omega), fun v => by have := h10 v; omega⟩
theorem zA_80 (h : zA l c Z) (hc : c ≤ 512) : zi_ l 2080 Z := by
  obtain ⟨⟨h1, ⟨h2, h3, h4⟩, h5, h6⟩, h7⟩ := h
  exact ⟨h1, ⟨h2, h3, by omega⟩, h5, h6⟩
theorem zdeliver_f : zg_ (z_deliver Z a b).1 = zg_ Z ∧ zt_ (z_deliver Z a b).1 = zt_ Z := by
  unfold z_deliver
  cases z_old a b (zl_ Z) with
  | none => exact ⟨rfl, rfl⟩
  | some y =>
    dsimp only
    have h0 : zg_ (z_unpack (zj_l Z y.2) a b y.1.2.2.2.2.2.1) = zg_ Z ∧ zt_ (z_unpack (zj_l Z y.2) a b y.1.2.2.2.2.2.1) = zt_ Z := by
      unfold z_unpack
      split
      · exact ⟨rfl, rfl⟩
      · dsimp only
        split <;> exact ⟨rfl, rfl⟩
    generalize z_unpack (zj_l Z y.2) a b y.1.2.2.2.2.2.1 = Z1 at h0
    split
    · have hf := zf_t (zf_go (Z := Z1) (lost := []) (w := b) (u := y.1.2.2.2.1) (v := y.1.2.2.2.2.1) (e := y.1.2.2.2.2.2.1) (q := y.1.2.2.2.2.2.2)) (zf_done (w := b))
      exact ⟨hf.2.1.trans h0.1, hf.2.2.1.trans h0.2⟩
    · split
      · have hf := zf_t (zf_settle (Z := Z1) (lost := []) (w := b) (p := y.1.2.2.2.1) (ref := y.1.2.2.2.2.2.1)) (zf_done (w := b))
        exact ⟨hf.2.1.trans h0.1, hf.2.2.1.trans h0.2⟩
      · split
        · exact h0
        · split <;> exact h0
theorem zo_f (h : zo_g Z) (hg : zg_ X = zg_ Z) : zo_g X := by
  unfold zo_g
  rw [hg]
  exact h
theorem zA_deliver (ha : zl_all l) (h : zA l c Z) (ha4 : a < 4) (hb4 : b < 4) : zA l (c + 1) (z_deliver Z a b).1 := by
  obtain ⟨h1, h2, h3, h4, h5⟩ := h
  have k1 := zdeliver_w ha.1 h1.2.1 ha4 hb4
  have k2 := zB_deliver h2 h1.2.1.2.1 ha4 hb4
  have kf := zdeliver_f (Z := Z) (a := a) (b := b)
  refine ⟨⟨k2.1, ⟨k1.1, k1.2.1, by have := k1.2.2; omega⟩, k2.2.2.1, zo_f h1.2.2.2 kf.1⟩, k2, ?_, zE_m (zE_deliver h4 h2.2.2.2.1 ha4 hb4) (by omega), fun v => by rw [kf.2]; have := h5 v; omega⟩
  refine zpk_s h3 ?_
  unfold z_deliver
  cases ho : z_old a b (zl_ Z) with
  | none => exact List.Sublist.refl _
  | some y =>
    obtain ⟨r, m⟩ := y
    obtain ⟨hperm, -, -⟩ := zold_perm ho
    have hr : r ∈ zl_ Z := hperm.mem_iff.mpr List.mem_cons_self
    obtain ⟨b1, b2, b3, b4, b5, b6, b7⟩ := h2.2.1.2.2.1 r hr
    obtain ⟨c1, c2, c3⟩ := h2.2.1.2.2.2.2.1 r hr
    have hkY : zk_w (z_unpack (zj_l Z m) a b r.2.2.2.2.2.1) := zwp_unpack (zwp_l h2.2.1 (fun x hx => hperm.mem_iff.mpr (List.mem_cons_of_mem _ hx))) ha4 hb4 b6
    have haY : za_ (z_unpack (zj_l Z m) a b r.2.2.2.2.2.1) = za_ (zj_l Z m) := zun_a
    have ham := za_m hperm
    have hq0 : zq0 (z_unpack (zj_l Z m) a b r.2.2.2.2.2.1) = zq0 Z := by
      unfold z_unpack
      split
      · rfl
      · dsimp only
        split <;> rfl
    dsimp only
    generalize z_unpack (zj_l Z m) a b r.2.2.2.2.2.1 = Z1 at hkY haY hq0
    rw [← haY] at ham
    rw [← hq0]
    by_cases k1 : r.1 = 1
    · rw [if_pos k1] at ham ⊢
      have hq := c1 k1
      refine (zq0_done hb4 (zgo_w hkY hb4 b5 b6 b7 hq) (za_okp h1.2.1.2.1 (zgo_a.trans ham))).trans ?_
      rw [zq0_go hq]
      exact List.Sublist.refl _
    · rw [if_neg k1] at ham ⊢
      by_cases k2 : r.1 = 2
      · rw [if_pos k2]
        obtain ⟨w1, w2, w3⟩ := zsettle_w (l := []) (lost := []) hkY hb4 (p := r.2.2.2.1) (ref := r.2.2.2.2.2.1) (Or.inr (c2 k2)) b5 b6
        exact (zq0_done hb4 w1 (za_okp (za_okp h1.2.1.2.1 ham) w2)).trans (zq0_settle hkY (Or.inr (c2 k2)))
      · rw [if_neg k2]
        split
        · exact List.Sublist.refl _
        · split <;> exact List.Sublist.refl _
theorem zA_give (ha : zl_all l) (h : zA l c Z) (hv : v < zn_ Z) (hw : w < zn_ Z) : zA l (c + 1) (z_give Z v s w) := by
  obtain ⟨h1, h2, h3, h4, h5⟩ := h
  have k2 := zB_gives (s := s) h2 hv hw
  have hv4 : v < 4 := by have := h2.1.2.1; omega
  have kf : zg_ (z_give Z v s w) = zg_ Z ∧ zt_ (z_give Z v s w) = zt_ Z ∧ zr_ (z_give Z v s w) = zr_ Z ∧ zl_ (z_give Z v s w) = zl_ Z := by
    unfold z_give
    dsimp only
    split <;> exact ⟨rfl, rfl, rfl, rfl⟩
  have kp : zphi_n l (z_give Z v s w) ≤ zphi_n l Z + 1 := by
    unfold z_give
    have e1 : zphi_n l (zj_e Z (v + 1) (ej_l (ze_ Z (v + 1)) s (w + 1))) = zphi_n l Z := zphi_j rfl
    dsimp only
    split
    · omega
    · generalize zj_e Z (v + 1) (ej_l (ze_ Z (v + 1)) s (w + 1)) = Z1 at e1
      have e2 : zphi_n l (zj_e Z1 (w + 1) (ej_x (ze_ Z1 (w + 1)) v 1)) = zphi_n l Z1 := zphi_x
      generalize zj_e Z1 (w + 1) (ej_x (ze_ Z1 (w + 1)) v 1) = Z2 at e2
      have := zphi_i (Z := Z2) (f := w + 1) (d := ei_ (ze_ Z2 (w + 1)) v + 1) ha.1 hv4
      omega
  have hz : za_ (z_give Z v s w) = za_ Z := by unfold za_; rw [kf.2.2.1, kf.2.2.2]
  refine ⟨⟨k2.1, ⟨k2.2.1, ?_, by have := h1.2.1.2.2; omega⟩, k2.2.2.1, zo_f h1.2.2.2 kf.1⟩, k2, ?_, zE_m (zE_give h4) (by omega), fun v => by rw [kf.2.1]; have := h5 v; omega⟩
  · have := h1.2.1.2.1
    unfold za_ok at this ⊢
    rw [hz]
    exact this
  · refine zpk_s h3 ?_
    unfold zq0
    rw [kf.2.2.1]
    exact List.Sublist.refl _
theorem zA_poke (h : zA l c Z) (hv : v < zn_ Z) : zA l (c + 1) (z_poke Z v x).1 := by
  have hs := zA_s h
  obtain ⟨h1, h2, h3, h4, h5⟩ := h
  obtain ⟨k1, k2⟩ := zB_poke (x := x) h2 h3 hv
  unfold z_poke at k1 k2 ⊢
  by_cases hc : z_inbox Z v < 20
  · rw [if_pos hc] at k1 k2 ⊢
    refine ⟨⟨k1.1, ⟨k1.2.1, ?_, ?_⟩, k1.2.2.1, h1.2.2.2⟩, k1, k2, hs.2.2.2.1, hs.2.2.2.2⟩
    · refine za_okp h1.2.1.2.1 ?_
      show (za_r (zr_ Z ++ [_]) ++ za_l (zl_ Z)).Perm (za_r (zr_ Z) ++ za_l (zl_ Z))
      rw [za_ra, za_r1, show za_1 (v, v + 1, x, 0, 0).2.2.2.2 = [] from rfl, List.append_nil]
    · rw [zphi_r, show zc_r (v, v + 1, x, 0, 0) = 0 from rfl]
      have := h1.2.1.2.2
      omega
  · rw [if_neg hc]
    exact hs
theorem zA_turn (ha : zl_all l) (h : zA l c Z) (hv : v < 4) : zA l (c + 1) (z_turn Z v).1 := by
  obtain ⟨h1, h2, h3, h4, h5⟩ := h
  obtain ⟨k1, k2⟩ := zi_turn ha.1 h1 hv
  obtain ⟨k3, k4⟩ := zB_turn ha.1 h1 h2 h3 hv
  refine ⟨⟨k1.1, ⟨k1.2.1.1, k1.2.1.2.1, by have := k1.2.1.2.2; omega⟩, k1.2.2⟩, k3, k4, zE_m (zE_turn ha.1 h1 hv h4) (by omega), fun w => by have := k2 w; have := h5 w; omega⟩
theorem zA_sweep (ha : zl_all l) (h : zA l c Z) (hc : c ≤ 512) (hv : v < zn_ Z) (hD : zk_isR Z v D) : zA l (c + 1) (z_sweep Z v D).1 := by
  have hx := zA_x h hc
  obtain ⟨h1, h2, h3, h4, h5⟩ := h
  have hv4 : v < 4 := by have := h2.1.2.1; omega
  have hx2 : ∀ e, e ≤ 200 → ei_ (ze_ Z e) v < 1000000 := fun e he => ((hx e he).1 v hv4).2.2.2
  obtain ⟨k1, k2⟩ := zB_sweep ha h1 h2 h3 hD hv hx2
  have k3 := zi_sweep (D := D) ha h1 hv4
  have kt := (zsw_f (Z := Z) (v := v) (D := D) (e := 0)).2.2.2.1
  refine ⟨⟨k3.1, ⟨k3.2.1.1, k3.2.1.2.1, by have := k3.2.1.2.2; omega⟩, k3.2.2⟩, k1, k2, zE_m (zE_sweep hv4 hx2 h4) (by omega), fun w => by rw [kt]; have := h5 w; omega⟩
/-- programs changed -/
theorem zA_g (h : zA l c Z) {g : Nat} {L : List (Int32 × Int32)} (hL : L.length ≤ 8) (hi : ∀ i ∈ L, zo_i i) : zA l (c + 1) (zj_g Z g L) := by
  obtain ⟨⟨h1, h2, h3, h6⟩, ⟨b1, b2, b3, b4, b5, b6, b7⟩, h8, h9, h10⟩ := zA_s h
  have hw : zw_n (zj_g Z g L) := by
    refine ⟨h1.1, h1.2.1, h1.2.2.1, h1.2.2.2.1, h1.2.2.2.2.1, fun k hk => ?_⟩
    show (va_up (zg_ Z) g L k).length ≤ 8
    unfold va_up
    split
    · exact hL
    · exact h1.2.2.2.2.2 k hk
  refine ⟨⟨hw, h2, h3, fun k i hk => ?_⟩, ⟨hw, b2, b3, b4, b5, zn_zs (Z := Z) (X := zj_g Z g L) (fun _ => ⟨rfl, rfl, rfl, rfl⟩) b6, b7⟩, h8, h9, h10⟩
  have hk : i ∈ va_up (zg_ Z) g L k := hk
  unfold va_up at hk
  split at hk
  · exact hi i hk
  · exact h6 k i hk
theorem zA_clear (h : zA l c Z) {g : Int32} : zA l (c + 1) (z_clear Z g).1 := by
  unfold z_clear
  split
  · exact zA_g h (by decide) (fun i hi => by cases hi)
  · exact zA_s h
theorem zA_code (h : zA l c Z) {g op x : Int32} : zA l (c + 1) (z_code Z g op x).1 := by
  unfold z_code
  split
  · rename_i hc
    obtain ⟨c1, c2, c3, c4, c5, c6, c7⟩ := hc
    refine zA_g h (by rw [List.length_append, List.length_singleton]; omega) (fun i hi => ?_)
    rcases List.mem_append.mp hi with hi | hi
    · exact h.1.2.2.2 _ i hi
    · rw [List.mem_singleton] at hi
      rw [hi]
      refine ⟨c3, c4, fun z => ?_, fun z => ?_⟩
      · obtain ⟨d1, d2⟩ := c6 z
        obtain ⟨j, hj, rfl⟩ := nI_of (x := x) (fun y => n_lt0.mp y d1)
        exact ⟨j, (nI_ltI hj (by decide)).mp (show nI j < nI 4 from d2), rfl⟩
      · obtain ⟨d1, d2⟩ := c7 z
        obtain ⟨j, hj, rfl⟩ := nI_of (x := x) (fun y => n_lt0.mp y d1)
        exact ⟨j, (nI_ltI hj (by decide)).mp (show nI j < nI 8 from d2), rfl⟩
  · exact zA_s h
theorem zA_0 (h2 : 2 ≤ n) (h4 : n ≤ 4) : zA l 0 (z0_ n) := by
  have hE : ∀ e, (1 ≤ e ∧ e ≤ n ∧ ze_ (z0_ n) e = (e - 1, false, false, 0, e - 1, 0, fun _ => 0, fun _ => 0, fun _ => 0, fun _ _ => 0)) ∨ (¬ (1 ≤ e ∧ e ≤ n) ∧ ze_ (z0_ n) e = e0_) := fun e => by
    show (_ ∧ _ ∧ (if 1 ≤ e ∧ e ≤ n then _ else e0_) = _) ∨ (_ ∧ (if 1 ≤ e ∧ e ≤ n then _ else e0_) = _)
    by_cases c : 1 ≤ e ∧ e ≤ n
    · exact Or.inl ⟨c.1, c.2, if_pos c⟩
    · exact Or.inr ⟨c, if_neg c⟩
  have hF : ∀ e, zh_ (z0_ n) e < 4 ∧ eg_ (ze_ (z0_ n) e) = false ∧ es_ (ze_ (z0_ n) e) = false ∧ et_ (ze_ (z0_ n) e) = 0 ∧ ep_ (ze_ (z0_ n) e) < 8 ∧ (∀ s, el_ (ze_ (z0_ n) e) s = 0) ∧ (∀ b, ex_ (ze_ (z0_ n) e) b = 0) ∧ (∀ b, ei_ (ze_ (z0_ n) e) b = 0) ∧ ∀ a b, eo_ (ze_ (z0_ n) e) a b = 0 := fun e => by
    unfold zh_
    rcases hE e with ⟨c1, c2, c⟩ | ⟨c1, c⟩
    · rw [c]
      exact ⟨by show e - 1 < 4; omega, rfl, rfl, rfl, by show e - 1 < 8; omega, fun _ => rfl, fun _ => rfl, fun _ => rfl, fun _ _ => rfl⟩
    · rw [c]
      exact ⟨by decide, rfl, rfl, rfl, by decide, fun _ => rfl, fun _ => rfl, fun _ => rfl, fun _ _ => rfl⟩
  have hz : zw_n (z0_ n) := ⟨h2, h4, Nat.le_refl _, by show n ≤ 60; omega, by show 0 ≤ 100; omega, fun g _ => Nat.zero_le _⟩
  have hk : zk_w (z0_ n) := ⟨fun e _ => ⟨(hF e).1, by rw [(hF e).2.2.2.1]; omega⟩, (fun r hr => by cases hr), (fun r hr => by cases hr), (fun r hr => by cases hr), (fun r hr => by cases hr), Nat.zero_le _⟩
  have hd : zd_ (zk_K (z0_ n)) (z0_ n) := ⟨fun e => ⟨by rw [(hF e).2.2.2.1]; exact zk_K0, fun s => by rw [(hF e).2.2.2.2.2.1]; exact zk_K0, (hF e).2.2.2.2.1⟩, fun e he => by
    rcases hE e with ⟨c1, c2, c⟩ | ⟨c1, c⟩
    · exfalso
      rcases he with he | he
      · omega
      · exact he (zk_K4 (Or.inr (Or.inl ⟨c1, c2⟩)))
    · exact c, (fun r hr => by cases hr), (fun r hr => by cases hr)⟩
  refine ⟨⟨hz, ⟨hk, ⟨List.nodup_nil, fun q hq => by cases hq⟩, ?_⟩, hd, fun g i hi => by cases hi⟩, ⟨hz, hk, hd, ⟨fun e _ => gj_0 (hF e).2.2.2.2.2.2.1 (hF e).2.2.2.2.2.2.2.1 (hF e).2.2.2.2.2.2.2.2 (fun r hr => by cases hr), (fun r hr => by cases hr), fun e _ hg => (by rw [(hF e).2.1] at hg; cases hg)⟩, ⟨fun f _ => ⟨fun _ hs => (by rw [(hF f).2.2.1] at hs; cases hs), fun _ s _ => (by rw [(hF f).2.2.2.2.2.1]; exact Or.inl rfl)⟩, fun r hr => (by cases hr)⟩, fun w p m hm hp => ?_, fun v hv => ?_⟩, (fun v _ => Nat.zero_le _), fun e b _ => ?_, fun v => Nat.zero_le _⟩
  · have : zc_n l (ze_ (z0_ n)) = 0 := by
      unfold zc_n
      rw [List.length_eq_zero_iff, List.filter_eq_nil_iff]
      intro k _
      rw [(hF (k / 4)).2.2.2.2.2.2.2.1]
      decide
    show 0 + 0 + zc_n l (ze_ (z0_ n)) + 5 * (100 - 0) ≤ 500 + 3 * 0
    omega
  · have := hp 0 (by omega)
    unfold zk_pass at this
    rw [(hF _).2.2.1, Bool.and_false] at this
    cases this
  · have hv : v < n := hv
    refine ⟨?_, (hF _).2.1⟩
    unfold zh_
    rcases hE (v + 1) with ⟨c1, c2, c⟩ | ⟨c1, c⟩
    · rw [c]
      show v + 1 - 1 = v
      omega
    · exact absurd ⟨by omega, by omega⟩ c1
  · rw [(hF e).2.2.2.2.2.2.2.1]
    show (0 : Int) + 0 ≤ _
    omega
end ZAL
