/-! What the instructions of a turn keep. -/
/-- an instruction within its bounds -/
def zo_i (i : Int32 × Int32) : Prop := 0 ≤ i.1 ∧ i.1 ≤ 10 ∧ ((i.1 = 3 ∨ i.1 = 4 ∨ i.1 = 7) → ∃ s, s < 4 ∧ i.2 = nI s) ∧ ((i.1 = 6 ∨ i.1 = 8) → ∃ g, g < 8 ∧ i.2 = nI g)
def zo_g (Z : zz_S) : Prop := ∀ g, ∀ i ∈ zg_ Z g, zo_i i
/-- what holds between two calls and between two instructions -/
def zi_ (l : List Nat) (n : Nat) (Z : zz_S) : Prop := zw_n Z ∧ zk_b l n Z ∧ zd_ (zk_K Z) Z ∧ zo_g Z
section ZAC
variable {Z X : zz_S} {l : List Nat} {n v g r o t : Nat} {x : Int32}
theorem zk_K0 : zk_K Z 0 := Or.inl rfl
theorem zk_K2 (hz : zw_n Z) {e : Nat} (h : zk_K Z e) : e ≤ 200 := by
  rcases h with h | h
  · omega
  · unfold zk_made at h
    simp only [Bool.or_eq_true, Bool.and_eq_true, decide_eq_true_eq] at h
    have h1 := hz.2.2.2.1
    have h2 := hz.2.2.2.2.1
    omega
theorem zk_K3 {e : Nat} (h : zk_K Z e) : e = 0 ∨ (1 ≤ e ∧ e ≤ zo_ Z) ∨ (101 ≤ e ∧ e ≤ 100 + zp_ Z) := by
  rcases h with h | h
  · exact Or.inl h
  · unfold zk_made at h
    simp only [Bool.or_eq_true, Bool.and_eq_true, decide_eq_true_eq] at h
    exact Or.inr h
theorem zk_K4 {e : Nat} (h : e = 0 ∨ (1 ≤ e ∧ e ≤ zo_ Z) ∨ (101 ≤ e ∧ e ≤ 100 + zp_ Z)) : zk_K Z e := by
  unfold zk_K zk_made
  simp only [Bool.or_eq_true, Bool.and_eq_true, decide_eq_true_eq]
  exact h
theorem zi_ans (h : zd_ (zk_K Z) Z) (hA : za_ok Z []) (hz : zw_n Z) : ∀ q ∈ za_ Z, q ≤ 100 + zp_ Z := by
  intro q hq
  have h1 := hA.2 q hq
  have h60 := hz.2.2.2.1
  have key : zk_K Z q := by
    rcases List.mem_append.mp hq with hq | hq
    · obtain ⟨y, hy, e1⟩ := List.mem_map.mp (List.mem_filter.mp hq).1
      rw [← e1]
      exact (h.2.2.1 y hy).2.2.1
    · obtain ⟨y, hy, e1⟩ := List.mem_map.mp (List.mem_filter.mp hq).1
      rw [← e1]
      exact (h.2.2.2 y (List.mem_filter.mp hy).1).2.2.2
  have := zk_K3 key
  omega
theorem zi_newp (h : zd_ (zk_K Z) Z) (hz : zw_n Z) : ze_ Z (101 + zp_ Z) = e0_ := by
  refine h.2.1 _ (Or.inr (fun c => ?_))
  have h60 := hz.2.2.2.1
  have := zk_K3 c
  omega
theorem zi_newo (h : zd_ (zk_K Z) Z) (h60 : zo_ Z < 60) : ze_ Z (zo_ Z + 1) = e0_ := by
  refine h.2.1 _ (Or.inr (fun c => ?_))
  have := zk_K3 c
  omega
theorem zi_fresh (h : zi_ l n Z) (hv : v < 4) (hg : g < 8) (hr : zk_K Z r) : zi_ l n (z_fresh Z v g x r).1 ∧ zk_K (z_fresh Z v g x r).1 (z_fresh Z v g x r).2 ∧ (∀ e, zk_K Z e → zk_K (z_fresh Z v g x r).1 e) ∧ zg_ (z_fresh Z v g x r).1 = zg_ Z ∧ zt_ (z_fresh Z v g x r).1 = zt_ Z := by
  unfold z_fresh
  by_cases hc : 60 ≤ zo_ Z
  · rw [if_pos hc]
    exact ⟨h, zk_K0, fun _ he => he, rfl, rfl⟩
  · rw [if_neg hc]
    obtain ⟨h1, ⟨h2, h3, h4⟩, h5, h6⟩ := h
    have hn := zi_newo h5 (by omega)
    have hmono : ∀ e, zk_K Z e → zk_K (zj_o Z (zo_ Z + 1)) e := fun e he => zk_K4 (by
      have := zk_K3 he
      show e = 0 ∨ (1 ≤ e ∧ e ≤ zo_ Z + 1) ∨ (101 ≤ e ∧ e ≤ 100 + zp_ Z)
      omega)
    have hnew : zk_K (zj_o Z (zo_ Z + 1)) (zo_ Z + 1) := zk_K4 (Or.inr (Or.inl ⟨by omega, Nat.le_refl _⟩))
    refine ⟨⟨?_, ⟨?_, h3, ?_⟩, ?_, h6⟩, hnew, hmono, rfl, rfl⟩
    · exact ⟨h1.1, h1.2.1, Nat.le_succ_of_le h1.2.2.1, by show zo_ Z + 1 ≤ 60; omega, h1.2.2.2.2⟩
    · refine ⟨fun e he => ?_, h2.2⟩
      unfold zh_
      by_cases hef : e = zo_ Z + 1
      · subst hef
        rw [ze_s]
        exact ⟨hv, Nat.zero_le _⟩
      · rw [ze_n hef]
        exact h2.1 e he
    · refine Nat.le_trans (Nat.le_of_eq ?_) h4
      refine zphi_j (Z := zj_o Z (zo_ Z + 1)) ?_
      show (fun _ => (0 : Int)) = ei_ (ze_ Z (zo_ Z + 1))
      rw [hn]
      rfl
    · refine zd_j (Z := zj_o Z (zo_ Z + 1)) (zd_mono h5 hmono) hnew (by omega) ⟨zk_K0, fun s => ?_, hg⟩
      show zk_K _ (va_up (fun _ => 0) 0 r s)
      unfold va_up
      split
      · exact hmono r hr
      · exact zk_K0
theorem zi_send (hl : l.Nodup) (h : zi_ l n Z) (hv : v < 4) (ht : zk_K Z t) (hr : zk_K Z r) : zi_ l n (z_send Z v t x r).1 ∧ zk_K (z_send Z v t x r).1 (z_send Z v t x r).2 ∧ (∀ e, zk_K Z e → zk_K (z_send Z v t x r).1 e) ∧ zg_ (z_send Z v t x r).1 = zg_ Z ∧ zt_ (z_send Z v t x r).1 = zt_ Z ∧ zo_ (z_send Z v t x r).1 = zo_ Z := by
  obtain ⟨h1, h2, h5, h6⟩ := h
  have hans := zi_ans h5 h2.2.1 h1
  have hnew := zi_newp h5 h1
  have hw := zsend_w (x := x) hl h2 (fun _ => hnew) hans hv (zk_K2 h1 ht) (zk_K2 h1 hr)
  by_cases h0 : t = 0 ∨ 100 ≤ zp_ Z
  · rw [zsend_0 h0]
    exact ⟨⟨h1, h2, h5, h6⟩, zk_K0, fun _ he => he, rfl, rfl, rfl⟩
  · have hp : zp_ Z < 100 := by omega
    rw [zsend_e (by omega) hp] at hw ⊢
    have hmono : ∀ e, zk_K Z e → zk_K (z_prom Z (zh_ Z t)) e := fun e he => zk_K4 (by
      have := zk_K3 he
      show e = 0 ∨ (1 ≤ e ∧ e ≤ zo_ Z) ∨ (101 ≤ e ∧ e ≤ 100 + (zp_ Z + 1))
      omega)
    have hq : zk_K (z_prom Z (zh_ Z t)) (101 + zp_ Z) := zk_K4 (Or.inr (Or.inr ⟨by omega, by show 101 + zp_ Z ≤ 100 + (zp_ Z + 1); omega⟩))
    have hd : zd_ (zk_K (z_prom Z (zh_ Z t))) (z_prom Z (zh_ Z t)) := zd_j (Z := zj_p Z (zp_ Z + 1)) (zd_mono h5 hmono) hq (by omega) ⟨zk_K0, fun _ => zk_K0, (by decide : (0 : Nat) < 8)⟩
    have hzw : zw_n (z_prom Z (zh_ Z t)) := ⟨h1.1, h1.2.1, h1.2.2.1, h1.2.2.2.1, by show zp_ Z + 1 ≤ 100; omega, h1.2.2.2.2.2⟩
    have kt := hmono t ht
    have kr := hmono r hr
    have eg : zg_ (z_prom Z (zh_ Z t)) = zg_ Z := rfl
    have et : zt_ (z_prom Z (zh_ Z t)) = zt_ Z := rfl
    have eo : zo_ (z_prom Z (zh_ Z t)) = zo_ Z := rfl
    generalize hqe : 101 + zp_ Z = q at hq hw ⊢
    generalize z_prom Z (zh_ Z t) = Z1 at hmono hq hd hzw kt kr hw eg et eo ⊢
    have fin : ∀ X : zz_S, X.1 = Z1.1 → zg_ X = zg_ Z1 → zt_ X = zt_ Z1 → zd_ (zk_K Z1) X → zk_b l n X → zi_ l n X ∧ zk_K X q ∧ (∀ e, zk_K Z e → zk_K X e) ∧ zg_ X = zg_ Z ∧ zt_ X = zt_ Z ∧ zo_ X = zo_ Z := by
      intro X f0 fg ft f2 f3
      have eK := zk_KZ f0
      refine ⟨⟨?_, f3, by rw [eK]; exact f2, ?_⟩, by rw [eK]; exact hq, fun e he => by rw [eK]; exact hmono e he, fg.trans eg, ft.trans et, ?_⟩
      · unfold zw_n at hzw ⊢
        unfold zn_ zo_ zp_ at hzw ⊢
        rw [f0, fg]
        exact hzw
      · unfold zo_g
        rw [fg, eg]
        exact h6
      · unfold zo_ at eo ⊢
        rw [f0]
        exact eo
    split at hw
    · rename_i hc
      rw [if_pos hc]
      obtain ⟨k1, k2⟩ := zd_go (v := x) hd zk_K0 hv kt kr hq (lost := []) (fun _ hx => by cases hx)
      have kf := zf_t (zf_go (Z := Z1) (lost := []) (w := v) (u := t) (v := x) (e := r) (q := q)) (zf_done (w := v))
      exact fin _ kf.1 kf.2.1 kf.2.2.1 (zd_done k1 zk_K0 hv k2) hw
    · rename_i hc
      rw [if_neg hc]
      have ht0 : 0 < t := by omega
      have k1 := zd_post (kind := 1) (a := v) (b := zh_ Z t) (v := x) (zd_pack (a := v) (b := zh_ Z t) hd zk_K0 kr) ht0 kt kr hq
      have k2 : zf_ Z1 (z_post (z_pack Z1 v (zh_ Z t) r) 1 v (zh_ Z t) t x r q) := zf_t zf_pack zf_l
      generalize z_post (z_pack Z1 v (zh_ Z t) r) 1 v (zh_ Z t) t x r q = Z2 at k1 k2 hw ⊢
      exact fin _ k2.1 k2.2.1 k2.2.2.1 (zd_j k1 hq (by omega) (k1.1 q)) hw
theorem zi_j (h : zi_ l n Z) {f : Nat} {E : ze_E} (hf : zk_K Z f) (h0 : 0 < f) (hE : ze_ok (zk_K Z) E) (h1 : eh_ E = eh_ (ze_ Z f)) (h2 : eg_ E = eg_ (ze_ Z f)) (h3 : es_ E = es_ (ze_ Z f)) (h4 : et_ E = et_ (ze_ Z f)) (h6 : ei_ E = ei_ (ze_ Z f)) : zi_ l n (zj_e Z f E) := by
  obtain ⟨k1, ⟨k2, k3, k4⟩, k5, k6⟩ := h
  exact ⟨k1, ⟨zwp_j k2 h1 h2 h3 h4, k3, by rw [zphi_j h6]; exact k4⟩, zd_j k5 hf h0 hE, k6⟩
/-- what an instruction leaves -/
def zi_q (l : List Nat) (n : Nat) (Z : zz_S) (S : (zz_S × Int32 × Nat) × Nat) : Prop := zi_ l n S.1.1 ∧ zk_K S.1.1 S.1.2.2 ∧ (∀ e, zk_K Z e → zk_K S.1.1 e) ∧ zg_ S.1.1 = zg_ Z ∧ (∀ w, (zt_ S.1.1 w).length ≤ (zt_ Z w).length + 1) ∧ zo_ Z ≤ zo_ S.1.1
theorem zi_act (hl : l.Nodup) (h : zi_ l n Z) (hv : v < 4) (ho : 1 ≤ o ∧ o ≤ zo_ Z) (hr : zk_K Z r) {op y : Int32} (hop : zo_i (op, y)) : zi_q l n Z (z_act v o (Z, x, r) op y) := by
  have hok : zk_K Z o := zk_K4 (Or.inr (Or.inl ho))
  have hE := h.2.2.1.1 o
  have triv : ∀ {Y : zz_S}, zi_ l n Y → Y.1 = Z.1 → zg_ Y = zg_ Z → zt_ Y = zt_ Z → ∀ u, zk_K Z u → zi_ l n Y ∧ zk_K Y u ∧ (∀ e, zk_K Z e → zk_K Y e) ∧ zg_ Y = zg_ Z ∧ (∀ w, (zt_ Y w).length ≤ (zt_ Z w).length + 1) ∧ zo_ Z ≤ zo_ Y := by
    intro Y a b c d u hu
    have eK := zk_KZ b
    exact ⟨a, by rw [eK]; exact hu, fun e he => by rw [eK]; exact he, c, fun w => by rw [d]; omega, by unfold zo_; rw [b]; exact Nat.le_refl _⟩
  unfold z_act
  split
  · exact triv h rfl rfl rfl r hr
  split
  · exact triv h rfl rfl rfl r hr
  split
  · exact triv (zi_j (E := ej_n (ze_ Z o) x) h hok ho.1 hE rfl rfl rfl rfl rfl) rfl rfl rfl r hr
  split
  · refine triv (zi_j (E := ej_l (ze_ Z o) y.toNatClampNeg r) h hok ho.1 ⟨hE.1, fun s => ?_, hE.2.2⟩ rfl rfl rfl rfl rfl) rfl rfl rfl r hr
    show zk_K Z (va_up (el_ (ze_ Z o)) y.toNatClampNeg r s)
    unfold va_up
    split
    · exact hr
    · exact hE.2.1 s
  split
  · exact triv h rfl rfl rfl _ (hE.2.1 _)
  split
  · exact triv h rfl rfl rfl o hok
  split
  · rename_i h6
    obtain ⟨g, hg, rfl⟩ := hop.2.2.2 (Or.inl h6)
    have := zi_fresh (x := x) h hv (g := (nI g).toNatClampNeg) (by rw [nI_clamp (by omega)]; exact hg) hr
    refine ⟨this.1, this.2.1, this.2.2.1, this.2.2.2.1, fun w => by dsimp only; rw [this.2.2.2.2]; omega, ?_⟩
    show zo_ Z ≤ zo_ (z_fresh Z v (nI g).toNatClampNeg x r).1
    unfold z_fresh
    split
    · exact Nat.le_refl _
    · exact Nat.le_succ _
  split
  · have := zi_send (x := x) hl h hv (hE.2.1 y.toNatClampNeg) hr
    exact ⟨this.1, this.2.1, this.2.2.1, this.2.2.2.1, fun w => by dsimp only; rw [this.2.2.2.2.1]; omega, by dsimp only; rw [this.2.2.2.2.2]; exact Nat.le_refl _⟩
  split
  · exact triv h rfl rfl rfl r hr
  split
  · refine ⟨h, hr, fun e he => he, rfl, fun w => ?_, Nat.le_refl _⟩
    show (va_up (zt_ Z) v (x :: zt_ Z v) w).length ≤ _
    unfold va_up
    split
    · rename_i hw
      rw [hw]
      exact Nat.le_refl _
    · omega
  · exact triv h rfl rfl rfl 0 zk_K0
end ZAC
