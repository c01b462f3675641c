/-! The reference's act and turn. -/
/-- the picture within a turn: the value and the reference in hand -/
def rt_ (S : zz_S × Int32 × Nat) (M : ms_S) : Prop := rm_ S.1 M ∧ M.1 34 = S.2.1 ∧ M.1 35 = nI S.2.2
section RTU
variable {Z : zz_S} {M : ms_S} {l : List Nat} {v o r : Nat} {x : Int32}
theorem rm_s {k : Nat} {y : Int32} (h : rm_ Z M) (hk : 33 < k) : rm_ Z (pu_s M k y) := by
  obtain ⟨h1, h2, h3, h4, h5, h6, h7⟩ := h
  exact ⟨fr_n h1 rfl (ps_n (by omega)) (ps_n (by omega)) (ps_n (by omega)), h2, h3, fr_r h4 rfl (ps_n (by omega)) rfl rfl rfl rfl rfl, fr_l h5 rfl (ps_n (by omega)) rfl rfl rfl rfl rfl, h6, (ps_n (by omega)).trans h7⟩
theorem pm_act_ok (hl : l.Nodup) (h : rt_ (Z, x, r) M) (hi : zi_ l 2080 Z) (hv : v < 4) (ho : 1 ≤ o ∧ o ≤ zo_ Z) (hr : zk_K Z r) (ht : (zt_ Z v).length < 100000) {op y : Int32} (hop : zo_i (op, y)) :
    ∃ M', pm_act (nI v) (nI o) op y M = some (nI (z_act v o (Z, x, r) op y).2, M') ∧ rt_ (z_act v o (Z, x, r) op y).1 M' := by
  obtain ⟨h1, h34, h35⟩ := h
  dsimp only at h1 h34 h35
  have h60 : o ≤ 60 := Nat.le_trans ho.2 hi.1.2.2.2.1
  have hro := (h1.2.2.1 o (by omega)).2.2.2.2.2.2 h60
  have hE := hi.2.2.1.1 o
  have j12 : o < (mr_ 12).2 := by show o < 61; omega
  have hri := rm_i h1
  have h30 : M.1 30 = 0 := h1.2.2.2.2.2.2
  unfold pm_act z_act
  by_cases k0 : op = 0
  · rw [if_pos k0, if_pos k0]
    exact ⟨_, pn_w _ rfl rfl, rm_s h1 (by decide), ps_s, (ps_n (by decide)).trans h35⟩
  rw [if_neg k0, if_neg k0]
  by_cases k1 : op = 1
  · rw [if_pos k1, if_pos k1]
    refine ⟨pu_s M 34 (x + en_ (ze_ Z o)), ?_, rm_s h1 (by decide), ps_s, (ps_n (by decide)).trans h35⟩
    refine pn_g x (show some (M.1 34) = _ by rw [h34]) ?_
    refine pn_g _ (po_l j12) ?_
    rw [hro.2.1]
    exact pn_w _ rfl rfl
  rw [if_neg k1, if_neg k1]
  by_cases k2 : op = 2
  · rw [if_pos k2, if_pos k2]
    refine ⟨pu_a M 12 o x, ?_, rm_m (ri_u hri (by decide) (ue_n hri.2.2.1)) h30, h34, h35⟩
    refine pn_g x (show some (M.1 34) = _ by rw [h34]) ?_
    exact pn_w _ (po_s j12) rfl
  rw [if_neg k2, if_neg k2]
  by_cases k3 : op = 3
  · rw [if_pos k3, if_pos k3]
    obtain ⟨s, hs, rfl⟩ := hop.2.2.1 (Or.inl k3)
    rw [nI_clamp (by omega)]
    refine ⟨pu_a M 13 (4 * o + s) (nI r), ?_, rm_m (ri_u hri (by decide) (ue_l hri.2.2.1 hs)) h30, h34, h35⟩
    refine pn_g (nI r) (show some (M.1 35) = _ by rw [h35]) ?_
    rw [e4_]
    exact pn_w _ (po_s (show 4 * o + s < (mr_ 13).2 by show _ < 244; omega)) rfl
  rw [if_neg k3, if_neg k3]
  by_cases k4 : op = 4
  · rw [if_pos k4, if_pos k4]
    obtain ⟨s, hs, rfl⟩ := hop.2.2.1 (Or.inr (Or.inl k4))
    rw [nI_clamp (by omega)]
    refine ⟨pu_s M 35 (nI (el_ (ze_ Z o) s)), ?_, rm_s h1 (by decide), (ps_n (by decide)).trans h34, ps_s⟩
    rw [e4_]
    refine pn_g _ (po_l (show 4 * o + s < (mr_ 13).2 by show _ < 244; omega)) ?_
    rw [hro.2.2 s hs]
    exact pn_w _ rfl rfl
  rw [if_neg k4, if_neg k4]
  by_cases k5 : op = 5
  · rw [if_pos k5, if_pos k5]
    exact ⟨_, pn_w _ rfl rfl, rm_s h1 (by decide), (ps_n (by decide)).trans h34, ps_s⟩
  rw [if_neg k5, if_neg k5]
  by_cases k6 : op = 6
  · rw [if_pos k6, if_pos k6]
    obtain ⟨g, hg, rfl⟩ := hop.2.2.2 (Or.inl k6)
    rw [nI_clamp (by omega)]
    obtain ⟨M', g1, g2, g3⟩ := pm_fresh_ok h1 hi.1 (zi_newo hi.2.2.1) hv hg h34 h35
    exact ⟨_, pn_b _ g1 (pn_w _ rfl rfl), rm_s g2 (by decide), (ps_n (by decide)).trans ((g3 34 (by decide)).trans h34), ps_s⟩
  rw [if_neg k6, if_neg k6]
  by_cases k7 : op = 7
  · rw [if_pos k7, if_pos k7]
    obtain ⟨s, hs, rfl⟩ := hop.2.2.1 (Or.inr (Or.inr k7))
    rw [nI_clamp (by omega)]
    have hp : ∀ {e}, zk_K Z e → e ≠ 101 + zp_ Z := fun he c => by
      have := zk_K3 he
      have := hi.1.2.2.2.1
      omega
    have hs2 := hE.2.1 s
    obtain ⟨M', g1, g2, g3⟩ := pm_send_ok hl h1 hi.1 hi.2.1 (fun _ => zi_newp hi.2.2.1 hi.1) (zi_ans hi.2.2.1 hi.2.1.2.1 hi.1) hv (zk_K2 hi.1 hs2) (zk_K2 hi.1 hr) (hp hs2) (hp hr) h34 h35
    refine ⟨_, ?_, rm_s g2 (by decide), (ps_n (by decide)).trans g3, ps_s⟩
    rw [e4_]
    refine pn_g _ (po_l (show 4 * o + s < (mr_ 13).2 by show _ < 244; omega)) ?_
    rw [hro.2.2 s hs]
    exact pn_b _ g1 (pn_w _ rfl rfl)
  rw [if_neg k7, if_neg k7]
  by_cases k8 : op = 8
  · rw [if_pos k8, if_pos k8]
    obtain ⟨g, hg, rfl⟩ := hop.2.2.2 (Or.inr k8)
    rw [nI_clamp (by omega)]
    refine ⟨M, ?_, h1, h34, h35⟩
    refine pn_g x (show some (M.1 34) = _ by rw [h34]) ?_
    by_cases hx : x = 0
    · exact pn_t hx (by rw [if_pos hx]; rfl)
    · exact pn_f hx (by rw [if_neg hx]; rfl)
  rw [if_neg k8, if_neg k8]
  by_cases k9 : op = 9
  · rw [if_pos k9, if_pos k9]
    obtain ⟨M', g1, g2, g3⟩ := pm_put_ok h1 hv ht
    rw [h34] at g2
    exact ⟨M', pn_b _ g1 rfl, g2, by rw [g3]; exact h34, by rw [g3]; exact h35⟩
  rw [if_neg k9, if_neg k9]
  exact ⟨_, pn_w _ rfl rfl, rm_s h1 (by decide), (ps_n (by decide)).trans h34, ps_s⟩
theorem zrun_k : ∀ (L : List (Int32 × Int32)) (k : Nat) (S : zz_S × Int32 × Nat), z_run v o L k S = z_run v o (L.drop k) 0 S
  | [], k, S => by rw [List.drop_nil]; cases k <;> rfl
  | i :: L, 0, S => rfl
  | i :: L, k + 1, S => by
    rw [List.drop_succ_cons]
    show z_run v o L k S = _
    exact zrun_k L k S
/-- what a run leaves -/
theorem zi_run (hl : l.Nodup) {n : Nat} (hv : v < 4) : ∀ (L : List (Int32 × Int32)) (k : Nat) (S : zz_S × Int32 × Nat), zi_ l n S.1 → zk_K S.1 S.2.2 → 1 ≤ o ∧ o ≤ zo_ S.1 → (∀ i ∈ L, zo_i i) →
    zi_ l n (z_run v o L k S).1 ∧ zk_K (z_run v o L k S).1 (z_run v o L k S).2.2 ∧ (∀ e, zk_K S.1 e → zk_K (z_run v o L k S).1 e) ∧ zg_ (z_run v o L k S).1 = zg_ S.1 ∧ (∀ w, (zt_ (z_run v o L k S).1 w).length ≤ (zt_ S.1 w).length + L.length)
  | [], k, S, h1, h2, _, _ => ⟨by cases k <;> exact h1, by cases k <;> exact h2, fun e he => by cases k <;> exact he, by cases k <;> rfl, fun w => by cases k <;> exact Nat.le_refl _⟩
  | i :: L, k + 1, S, h1, h2, h3, h4 => by
    obtain ⟨a1, a2, a3, a4, a5⟩ := zi_run hl hv L k S h1 h2 h3 (fun x hx => h4 x (List.mem_cons_of_mem _ hx))
    exact ⟨a1, a2, a3, a4, fun w => Nat.le_trans (a5 w) (by rw [List.length_cons]; omega)⟩
  | i :: L, 0, S, h1, h2, h3, h4 => by
    obtain ⟨b1, b2, b3, b4, b5, b6⟩ := zi_act (x := S.2.1) hl h1 hv h3 h2 (op := i.1) (y := i.2) (h4 i List.mem_cons_self)
    obtain ⟨a1, a2, a3, a4, a5⟩ := zi_run hl hv L (z_act v o S i.1 i.2).2 (z_act v o S i.1 i.2).1 b1 b2 ⟨h3.1, Nat.le_trans h3.2 b6⟩ (fun x hx => h4 x (List.mem_cons_of_mem _ hx))
    refine ⟨a1, a2, fun e he => a3 e (b3 e he), a4.trans b4, fun w => ?_⟩
    have h5 := a5 w
    have h6 := b5 w
    rw [List.length_cons]
    show (zt_ (z_run v o L (z_act v o S i.1 i.2).2 (z_act v o S i.1 i.2).1).1 w).length ≤ _
    have h7 : (zt_ (z_act v o (S.1, S.2.1, S.2.2) i.1 i.2).1.1 w).length = (zt_ (z_act v o S i.1 i.2).1.1 w).length := rfl
    omega
theorem zact_k {S : zz_S × Int32 × Nat} {op y : Int32} (hop : zo_i (op, y)) : (z_act v o S op y).2 < 8 := by
  unfold z_act
  by_cases k0 : op = 0
  · rw [if_pos k0]
    exact (by decide : 0 < 8)
  rw [if_neg k0]
  by_cases k1 : op = 1
  · rw [if_pos k1]
    exact (by decide : 0 < 8)
  rw [if_neg k1]
  by_cases k2 : op = 2
  · rw [if_pos k2]
    exact (by decide : 0 < 8)
  rw [if_neg k2]
  by_cases k3 : op = 3
  · rw [if_pos k3]
    exact (by decide : 0 < 8)
  rw [if_neg k3]
  by_cases k4 : op = 4
  · rw [if_pos k4]
    exact (by decide : 0 < 8)
  rw [if_neg k4]
  by_cases k5 : op = 5
  · rw [if_pos k5]
    exact (by decide : 0 < 8)
  rw [if_neg k5]
  by_cases k6 : op = 6
  · rw [if_pos k6]
    exact (by decide : 0 < 8)
  rw [if_neg k6]
  by_cases k7 : op = 7
  · rw [if_pos k7]
    exact (by decide : 0 < 8)
  rw [if_neg k7]
  by_cases k8 : op = 8
  · rw [if_pos k8]
    obtain ⟨g, hg, hgy⟩ := hop.2.2.2 (Or.inr k8)
    have hgy : y = nI g := hgy
    rw [hgy, nI_clamp (by omega)]
    dsimp only
    split <;> omega
  rw [if_neg k8]
  by_cases k9 : op = 9
  · rw [if_pos k9]
    exact (by decide : 0 < 8)
  rw [if_neg k9]
  exact (by decide : 0 < 8)
/-- the loop over a program -/
theorem pm_turn_run (hl : l.Nodup) (hv : v < 4) {g q : Nat} (hg : g < 8) {G : List (Int32 × Int32)} (hG : G.length ≤ 8) (hGi : ∀ i ∈ G, zo_i i) : ∀ (d i fuel : Nat) (S : zz_S × Int32 × Nat) (M : ms_S), 8 - i = d → d + 1 < fuel → i < 100 → rt_ S M → zi_ l 2080 S.1 → zk_K S.1 S.2.2 → 1 ≤ o ∧ o ≤ zo_ S.1 → zg_ S.1 g = G → (∀ w, (zt_ S.1 w).length + d < 100000) →
    ∃ M', rt_ (z_run v o (G.drop i) 0 S) M' ∧ ∀ y, (pg_ (pi_ 35) fun t12 => pb_ (pm_settle (nI v) (nI q) t12) fun _ => pb_ (pm_mourn (nI v)) fun _ => pr_ (nI o)) M' = some y →
      pt_ (fun rec95 => (fun x : Int32 × Int32 × Int32 × Int32 × Int32 => pm_turn_b95 rec95 x.1 x.2.1 x.2.2.1 x.2.2.2.1 x.2.2.2.2)) fuel (nI v, nI o, nI q, nI g, nI i) M = some y := by
  intro d
  induction d using Nat.strongRecOn with
  | _ d ih =>
  intro i fuel S M hd hf hi h hz hr ho hSG ht
  obtain ⟨m, rfl⟩ : ∃ m, fuel = m + 1 := ⟨fuel - 1, by omega⟩
  have hrow := h.1.2.1 g hg
  rw [hSG] at hrow
  have j3 : g < (mr_ 3).2 := by show g < 8; omega
  by_cases hc : G.length ≤ i
  · rw [List.drop_eq_nil_of_le hc]
    refine ⟨M, h, fun y hy => ?_⟩
    show pm_turn_b95 _ (nI v) (nI o) (nI q) (nI g) (nI i) M = _
    unfold pm_turn_b95
    refine pn_g _ (po_l j3) ?_
    rw [hrow.1]
    exact pn_t (nI_le hc (by omega)) hy
  · have hlt : i < G.length := by omega
    have hgi : G[i]? = some G[i] := List.getElem?_eq_getElem hlt
    have hii := hGi _ (List.getElem_mem hlt)
    have hri := hrow.2 i _ hgi
    rw [dr_s hgi]
    generalize G[i] = I at hgi hii hri
    obtain ⟨M1, c1, c2⟩ := pm_act_ok (x := S.2.1) (r := S.2.2) hl (Z := S.1) h hz hv ho hr (by have := ht v; omega) hii
    obtain ⟨b1, b2, b3, b4, b5, b6⟩ := zi_act (x := S.2.1) hl hz hv ho hr hii
    have hkk : (z_act v o (S.1, S.2.1, S.2.2) I.1 I.2).2 < 8 := zact_k hii
    have hrun : z_run v o (I :: G.drop (i + 1)) 0 S = z_run v o (G.drop (i + 1 + (z_act v o (S.1, S.2.1, S.2.2) I.1 I.2).2)) 0 (z_act v o (S.1, S.2.1, S.2.2) I.1 I.2).1 := by
      show z_run v o (G.drop (i + 1)) (z_act v o (S.1, S.2.1, S.2.2) I.1 I.2).2 (z_act v o (S.1, S.2.1, S.2.2) I.1 I.2).1 = _
      rw [zrun_k, List.drop_drop]
    rw [hrun]
    generalize hS2 : z_act v o (S.1, S.2.1, S.2.2) I.1 I.2 = S2 at c1 c2 b1 b2 b3 b4 b5 b6 hkk
    obtain ⟨M', e1, e2⟩ := ih (8 - (i + 1 + S2.2)) (by omega) (i + 1 + S2.2) m S2.1 M1 rfl (by omega) (by omega) c2 b1 b2 ⟨ho.1, Nat.le_trans ho.2 b6⟩ (by rw [b4]; exact hSG) (fun w => by have := ht w; have := b5 w; omega)
    refine ⟨M', e1, fun y hy => ?_⟩
    show pm_turn_b95 _ (nI v) (nI o) (nI q) (nI g) (nI i) M = _
    unfold pm_turn_b95
    refine pn_g _ (po_l j3) ?_
    rw [hrow.1]
    refine pn_f (nI_ge hlt (by omega)) ?_
    have e8 : (8 : Int32) * nI g + nI i = nI (8 * g + i) := by rw [show (8 : Int32) = nI 8 from rfl, pk_mul, nI_add]
    rw [e8]
    refine pn_g _ (po_l (show 8 * g + i < (mr_ 4).2 by show _ < 64; omega)) ?_
    refine pn_g _ (po_l (show 8 * g + i < (mr_ 5).2 by show _ < 64; omega)) ?_
    rw [hri.1, hri.2]
    refine pn_b _ c1 ?_
    rw [nI_1, nI_add]
    exact e2 y hy
end RTU
