/-! Counts of references: what posts and entity updates keep. -/
section GJP
variable {e : Nat} {E E' : ze_E} {L : List zm_L} {r : zm_L}
theorem gp_m {b : Nat} (h : r.1 = 1 ∨ r.1 = 2 ∨ r.1 = 4) : gc_p e b r = 0 := by
  unfold gc_p
  rw [if_neg (by omega), if_neg (by omega)]
theorem gq_m {a b : Nat} (h : r.1 = 1 ∨ r.1 = 2 ∨ r.1 = 3) : gc_q e a b r = 0 := by
  unfold gc_q
  rw [if_neg (by omega), if_neg (by omega)]
theorem gc_m {a b : Nat} (h : r.1 = 3 ∨ r.1 = 4 ∨ r.1 = 5) : gc_c e a b r = 0 := by
  unfold gc_c
  rw [if_neg (by omega)]
theorem gc_cn {a b : Nat} (h : r.2.2.2.2.2.1 ≠ e) : gc_c e a b r = 0 := by
  unfold gc_c
  rw [if_neg (fun c => h c.2.2.2)]
theorem gp_n {b : Nat} (h : r.2.2.2.1 ≠ e) : gc_p e b r = 0 := by
  unfold gc_p
  rw [if_neg (fun c => h c.2.2), if_neg (fun c => h c.2.2)]
theorem gq_n {a b : Nat} (h : r.2.2.2.1 ≠ e) : gc_q e a b r = 0 := by
  unfold gc_q
  rw [if_neg (fun c => h c.2.2.1), if_neg (fun c => h c.2.2.1)]
/-- a message more, the entity as it was -/
theorem gj_app (hj : gj_ e E L) (H1 : ∀ b, b < 4 → b ≠ eh_ E → gc_p e b r = gc_c e (eh_ E) b r) (H2 : ∀ a b, a < 4 → b < 4 → a ≠ eh_ E → b ≠ eh_ E → gc_q e a b r = gc_c e a b r) (H3 : ∀ b, b < 4 → b ≠ eh_ E → gc_u e (eh_ E) b r → 1 ≤ gc_0 E b + gs_ (gc_p e b) L) (H4 : ∀ a b, a < 4 → b < 4 → a ≠ eh_ E → b ≠ eh_ E → gc_g e b r → 0 ≤ eo_ E a b + gs_ (gc_q e a b) L) : gj_ e E (L ++ [r]) := by
  obtain ⟨j1, j2, j3, j4, j5⟩ := hj
  refine ⟨fun b hb hbh => ?_, fun a b ha hb hah hbh => ?_, fun b hb hbh => gw_app L _ r (j3 b hb hbh) (H3 b hb hbh), fun a b ha hb hah hbh => gw_app L _ r (j4 a b ha hb hah hbh) (H4 a b ha hb hah hbh), j5⟩
  · rw [gs_a, gs_a, gs_1, gs_1]
    have := j1 b hb hbh
    have := H1 b hb hbh
    omega
  · rw [gs_a, gs_a, gs_1, gs_1]
    have := j2 a b ha hb hah hbh
    have := H2 a b ha hb hah hbh
    omega
/-- a message about other things -/
theorem gj_irr (hj : gj_ e E L) (h1 : r.2.2.2.1 ≠ e) (h2 : r.2.2.2.2.2.1 ≠ e) : gj_ e E (L ++ [r]) :=
  gj_app hj (fun b _ _ => by rw [gp_n h1, gc_cn h2]) (fun a b _ _ _ _ => by rw [gq_n h1, gc_cn h2]) (fun b _ _ hu => by
    rcases hu.2.2 with c | c | c
    · exact absurd c.2 h1
    · exact absurd c.2 h2
    · exact absurd c.2 h1) (fun a b _ _ _ _ hg => absurd hg.2.2 h1)
/-- a call or an answer that carries something else -/
theorem gj_tgt (hj : gj_ e E L) (hk : r.1 = 1 ∨ r.1 = 2) (h2 : r.2.2.2.2.2.1 ≠ e) (h4 : r.2.1 < 4) (hu : r.1 = 1 → r.2.2.2.1 = e → 0 < ei_ E r.2.1) : gj_ e E (L ++ [r]) := by
  refine gj_app hj (fun b _ _ => by rw [gp_m (by omega), gc_cn h2]) (fun a b _ _ _ _ => by rw [gq_m (by omega), gc_cn h2]) (fun b hb hbh hx => ?_) (fun a b _ _ _ _ hg => absurd hg.1 (by omega))
  have h1 := hj.1 b hb hbh
  have h3 := gc_c_pos (e := e) (a := eh_ E) (b := b) (L := L)
  rcases hx.2.2 with c | c | c
  · have := hu c.1 c.2
    rw [hx.1] at this
    omega
  · exact absurd c.2 h2
  · omega
/-- it carries e home -/
theorem gj_home (hj : gj_ e E L) (hk : r.1 = 1 ∨ r.1 = 2) (h2 : r.2.2.1 = eh_ E) (h3 : r.2.1 ≠ r.2.2.1) (hu : 0 < ei_ E r.2.1) : gj_ e E (L ++ [r]) := by
  refine gj_app hj (fun b _ hbh => ?_) (fun a b _ _ _ hbh => ?_) (fun b hb hbh hx => ?_) (fun a b _ _ _ _ hg => absurd hg.1 (by omega))
  · rw [gp_m (by omega)]
    unfold gc_c
    rw [if_neg (fun c => h3 (by rw [c.2.1, h2]))]
  · rw [gq_m (by omega)]
    unfold gc_c
    rw [if_neg (fun c => hbh (by rw [← c.2.2.1, h2]))]
  · have h1 := hj.1 b hb hbh
    have h3 := gc_c_pos (e := e) (a := eh_ E) (b := b) (L := L)
    rw [hx.1] at hu
    omega
theorem gc_0x {b c : Nat} {d : Int} : gc_0 (ej_x E c d) b = gc_0 E b + (if b = c then d else 0) := by
  show va_up (ex_ E) c (ex_ E c + d) b + _ = ex_ E b + _ + _
  unfold va_up
  split
  · rename_i h
    subst h
    show ex_ E b + d + (zm0 (eo_ E 0 b) + zm0 (eo_ E 1 b) + zm0 (eo_ E 2 b) + zm0 (eo_ E 3 b)) = _
    omega
  · show ex_ E b + (zm0 (eo_ E 0 b) + zm0 (eo_ E 1 b) + zm0 (eo_ E 2 b) + zm0 (eo_ E 3 b)) = _
    omega
/-- its home carries e to another vat -/
theorem gj_exp (hj : gj_ e E L) (hk : r.1 = 1 ∨ r.1 = 2) (h1 : r.2.1 = eh_ E) (h2 : r.2.2.2.2.2.1 = e) (h3 : r.2.1 ≠ r.2.2.1) : gj_ e (ej_x E r.2.2.1 1) (L ++ [r]) := by
  obtain ⟨j1, j2, j3, j4, j5⟩ := hj
  have hu : ∀ b, b ≠ eh_ E → ¬ gc_u e (eh_ E) b r := fun b hbh c => hbh (by rw [← c.1, h1])
  refine ⟨fun b hb hbh => ?_, fun a b ha hb hah hbh => ?_, fun b hb hbh => ?_, fun a b ha hb hah hbh => ?_, ?_⟩
  · have hbh : b ≠ eh_ E := hbh
    have h4 := j1 b hb hbh
    rw [gs_a, gs_a, gs_1, gs_1, gp_m (by omega), gc_0x]
    show _ = ei_ E b + (gs_ (gc_c e (eh_ E) b) L + gc_c e (eh_ E) b r)
    have h5 : gc_c e (eh_ E) b r = if b = r.2.2.1 then 1 else 0 := by
      unfold gc_c
      by_cases c : b = r.2.2.1
      · rw [if_pos ⟨hk, h1, c.symm, h2⟩, if_pos c]
      · rw [if_neg (fun z => c z.2.2.1.symm), if_neg c]
    rw [h5]
    omega
  · have hah : a ≠ eh_ E := hah
    rw [gs_a, gs_a, gs_1, gs_1, gq_m (by omega)]
    show eo_ E a b + _ = _
    have h4 := j2 a b ha hb hah hbh
    have h5 : gc_c e a b r = 0 := by
      unfold gc_c
      rw [if_neg (fun z => hah (by rw [← z.2.1, h1]))]
    omega
  · have hbh : b ≠ eh_ E := hbh
    rw [gc_0x]
    refine gw_mono _ ?_ (gw_app L _ r (j3 b hb hbh) (fun c => absurd c (hu b hbh)))
    split <;> omega
  · exact gw_app L _ r (j4 a b ha hb hah hbh) (fun c => absurd c.1 (by omega))
  · refine ⟨?_, j5.2.1, j5.2.2.1, j5.2.2.2⟩
    show va_up (ex_ E) r.2.2.1 _ (eh_ E) = 0
    rw [va_up_ne _ _ (by rw [← h1]; exact h3)]
    exact j5.1
/-- a third vat is given e: the gift, then the carry -/
theorem gj_gift (hj : gj_ e E L) {g : zm_L} {a b : Nat} (he0 : e ≠ 0) (hg : g.1 = 4 ∧ g.2.1 = a ∧ g.2.2.1 = eh_ E ∧ g.2.2.2.1 = e ∧ g.2.2.2.2.1 = nI b ∧ g.2.2.2.2.2.1 = 0) (hk : r.1 = 1 ∨ r.1 = 2) (hr : r.2.1 = a ∧ r.2.2.1 = b ∧ r.2.2.2.2.2.1 = e) (hrt : r.2.2.2.1 ≠ e) (hb4 : b < 4) (hab : a ≠ b) (ha : a ≠ eh_ E) (hbh : b ≠ eh_ E) (hi : 0 < ei_ E a) : gj_ e E (L ++ [g] ++ [r]) := by
  obtain ⟨j1, j2, j3, j4, j5⟩ := hj
  refine ⟨fun c hc hch => ?_, fun c d hc hd hch hdh => ?_, fun c hc hch => ?_, fun c d hc hd hch hdh => ?_, j5⟩
  · rw [gs_a, gs_a, gs_a, gs_a, gs_1, gs_1, gs_1, gs_1, gp_m (by omega), gp_m (r := r) (by omega), gc_m (r := g) (by omega)]
    have h5 : gc_c e (eh_ E) c r = 0 := by
      unfold gc_c
      rw [if_neg (fun z => ha (by rw [← hr.1, z.2.1]))]
    have := j1 c hc hch
    omega
  · rw [gs_a, gs_a, gs_a, gs_a, gs_1, gs_1, gs_1, gs_1, gq_m (r := r) (by omega), gc_m (r := g) (by omega)]
    have h5 : gc_c e c d r = if c = a ∧ d = b then 1 else 0 := by
      unfold gc_c
      by_cases z : c = a ∧ d = b
      · rw [if_pos ⟨hk, by rw [hr.1, z.1], by rw [hr.2.1, z.2], hr.2.2⟩, if_pos z]
      · rw [if_neg (fun y => z ⟨by rw [← y.2.1, hr.1], by rw [← y.2.2.1, hr.2.1]⟩), if_neg z]
    have h6 : gc_q e c d g = if c = a ∧ d = b then 1 else 0 := by
      unfold gc_q
      by_cases z : c = a ∧ d = b
      · rw [if_pos ⟨hg.1, by rw [hg.2.1, z.1], hg.2.2.2.1, by rw [hg.2.2.2.2.1, z.2]⟩, if_pos z]
      · rw [if_neg (fun y => z ⟨by rw [← y.2.1, hg.2.1], (nI_eq (by omega) (by omega)).mp (by rw [← y.2.2.2, hg.2.2.2.2.1])⟩), if_neg (by omega), if_neg z]
    have := j2 c d hc hd hch hdh
    rw [h5, h6]
    omega
  · refine gw_app _ _ r (gw_app L _ g (j3 c hc hch) (fun hx => ?_)) (fun hx => ?_)
    · have h1 := j1 c hc hch
      have h3 := gc_c_pos (e := e) (a := eh_ E) (b := c) (L := L)
      rw [← hg.2.1, hx.1] at hi
      omega
    · rcases hx.2.2 with z | z | z
      · exact absurd z.2 hrt
      · exact absurd (show b = eh_ E by rw [← hr.2.1]; exact hx.2.1) hbh
      · omega
  · refine gw_app _ _ r (gw_app L _ g (j4 c d hc hd hch hdh) (fun hx => ?_)) (fun hx => absurd hx.1 (by omega))
    have h1 := j2 c d hc hd hch hdh
    have h3 := gc_c_pos (e := e) (a := c) (b := d) (L := L)
    omega
/-- the entity's counts as they were -/
theorem gj_same (hj : gj_ e E L) (h1 : eh_ E' = eh_ E) (h2 : ex_ E' = ex_ E) (h3 : ei_ E' = ei_ E) (h4 : eo_ E' = eo_ E) : gj_ e E' L := by
  unfold gj_ gc_0 at hj ⊢
  rw [h1, h2, h3, h4]
  exact hj
theorem gc_ws (h2 : ex_ E' = ex_ E) (h4 : eo_ E' = eo_ E) : gc_w E' ↔ gc_w E := by
  unfold gc_w
  rw [h2, h4]
/-- nothing known of e anywhere -/
theorem gj_0 (h1 : ∀ b, ex_ E b = 0) (h2 : ∀ b, ei_ E b = 0) (h3 : ∀ a b, eo_ E a b = 0) (hL : ∀ r ∈ L, r.2.2.2.1 ≠ e ∧ r.2.2.2.2.2.1 ≠ e) : gj_ e E L := by
  have hg0 : ∀ b, gc_0 E b = 0 := fun b => by
    unfold gc_0
    rw [h1, h3, h3, h3, h3]
    rfl
  refine ⟨fun b _ _ => ?_, fun a b _ _ _ _ => ?_, fun b _ _ => gw_0 L _ (fun r hr c => ?_), fun a b _ _ _ _ => gw_0 L _ (fun r hr c => (hL r hr).1 c.2.2), h1 _, h2 _, fun b _ => by rw [h2]; exact Int.le_refl _, fun a b _ _ _ => h3 a b⟩
  · rw [hg0, h2, gs_0 (fun r hr => gp_n (hL r hr).1), gs_0 (fun r hr => gc_cn (hL r hr).2)]
  · rw [h3, gs_0 (fun r hr => gq_n (hL r hr).1), gs_0 (fun r hr => gc_cn (hL r hr).2)]
    rfl
  · rcases c.2.2 with z | z | z
    · exact (hL r hr).1 z.2
    · exact (hL r hr).2 z.2
    · exact (hL r hr).1 z.2
end GJP
/-- the counts of all entities; messages go home; what is gone is not wanted -/
def gG (Z : zz_S) : Prop := (∀ e, zk_made Z e = true → gj_ e (ze_ Z e) (zl_ Z)) ∧ (∀ r ∈ zl_ Z, mw_ Z r) ∧ ∀ e, zk_made Z e = true → eg_ (ze_ Z e) = true → ¬ gc_w (ze_ Z e)
/-- a reference that the vat w may use -/
def okr (Z : zz_S) (w e : Nat) : Prop := e = 0 ∨ (zh_ Z e = w ∧ eg_ (ze_ Z e) = false) ∨ (zh_ Z e ≠ w ∧ 0 < ei_ (ze_ Z e) w)
section GGP
variable {Z X : zz_S} {a b t x q kind w : Nat} {v : Int32}
theorem gm_of (h : gG Z) (hk : zk_w Z) (e : Nat) : gm_ e (zh_ Z e) (zl_ Z) := fun r hr => by
  obtain ⟨m1, m2, m3, m4, -⟩ := h.2.1 r hr
  obtain ⟨w1, w2, w3, w4, w5, w6, w7⟩ := hk.2.2.1 r hr
  refine ⟨hk.2.2.2.2.1 r hr, w3, m1, fun c => by rw [← c, m2], m3, fun c c2 => ?_⟩
  rw [← c2, m2]
  exact m4 c
theorem made_n0 {e : Nat} (h : zk_made Z e = true) : e ≠ 0 := fun c => by
  subst c
  unfold zk_made at h
  simp at h
/-- an entity changed, its counts as they were -/
theorem gG_j (h : gG Z) {f : Nat} {E : ze_E} (h1 : eh_ E = eh_ (ze_ Z f)) (h2 : ex_ E = ex_ (ze_ Z f)) (h3 : ei_ E = ei_ (ze_ Z f)) (h4 : eo_ E = eo_ (ze_ Z f)) (h5 : eg_ E = eg_ (ze_ Z f)) : gG (zj_e Z f E) := by
  obtain ⟨g1, g2, g3⟩ := h
  have hh : ∀ e, zh_ (zj_e Z f E) e = zh_ Z e := fun e => by
    unfold zh_
    by_cases c : e = f
    · subst c
      rw [ze_s]
      exact h1
    · rw [ze_n c]
  refine ⟨fun e he => ?_, fun r hr => ?_, fun e he hg => ?_⟩
  · by_cases c : e = f
    · subst c
      rw [ze_s]
      exact gj_same (g1 e he) h1 h2 h3 h4
    · rw [ze_n c]
      exact g1 e he
  · unfold mw_
    rw [hh]
    exact g2 r hr
  · by_cases c : e = f
    · subst c
      rw [ze_s] at hg ⊢
      rw [gc_ws h2 h4]
      rw [h5] at hg
      exact g3 e he hg
    · rw [ze_n c] at hg ⊢
      exact g3 e he hg
theorem gG_r (h : gG Z) {L : List zr_R} : gG (zj_r Z L) := h
theorem gG_f {X : zz_S} (h : gG Z) (f0 : X.1 = Z.1) (he : ze_ X = ze_ Z) (hl : zl_ X = zl_ Z) : gG X := by
  unfold gG mw_ zh_ zk_made zo_ zp_ at h ⊢
  rw [f0, he, hl]
  exact h
/-- a call or an answer is posted, its argument packed -/
theorem gG_carry (h : gG Z) (hz : zw_e Z) (hx2 : x ≤ 200) (ha : a < 4) (hb : b < 4) (hab : a ≠ b) (hkind : kind = 1 ∨ kind = 2) (ht : zh_ Z t = b) (hx : okr Z a x) (hxm : zk_K Z x) (h1 : kind = 1 → 0 < ei_ (ze_ Z t) a) : gG (z_post (z_pack Z a b x) kind a b t v x q) := by
  obtain ⟨g1, g2, g3⟩ := h
  have hm : mw_ Z (kind, a, b, t, v, x, q) := ⟨hab, ht, fun c => absurd (show kind = 3 from c) (by omega), fun c => absurd (show kind = 4 ∨ kind = 5 from c) (by omega), fun c => absurd (show 3 ≤ kind from c) (by omega)⟩
  have tgt : ∀ e L, gj_ e (ze_ Z e) L → e ≠ x → gj_ e (ze_ Z e) (L ++ [(kind, a, b, t, v, x, q)]) := fun e L hj hne => gj_tgt hj hkind (fun c => hne c.symm) ha (fun k c => by
    have c : t = e := c
    rw [← c]
    exact h1 k)
  unfold z_pack
  by_cases x0 : x = 0
  · rw [if_pos x0]
    refine ⟨fun e he => tgt e _ (g1 e he) (fun c => made_n0 he (by rw [c, x0])), fun r hr => ?_, g3⟩
    rcases List.mem_append.mp hr with hr | hr
    · exact g2 r hr
    · rw [List.mem_singleton] at hr
      rw [hr]
      exact hm
  · rw [if_neg x0]
    have hxmade : zk_made Z x = true := hxm.resolve_left x0
    have hx := hx.resolve_left x0
    by_cases hha : zh_ Z x = a
    · rw [if_pos hha]
      have hlive : eg_ (ze_ Z x) = false := by
        rcases hx with c | c
        · exact c.2
        · exact absurd hha c.1
      have hh : ∀ e, zh_ (zj_e Z x (ej_x (ze_ Z x) b 1)) e = zh_ Z e := fun e => by
        unfold zh_
        by_cases c : e = x
        · subst c
          rw [ze_s]
          rfl
        · rw [ze_n c]
      refine ⟨fun e he => ?_, fun r hr => ?_, fun e he hg => ?_⟩
      · show gj_ e (ze_ (zj_e Z x (ej_x (ze_ Z x) b 1)) e) (zl_ Z ++ [(kind, a, b, t, v, x, q)])
        by_cases c : e = x
        · subst c
          rw [ze_s]
          exact gj_exp (r := (kind, a, b, t, v, e, q)) (g1 e he) hkind hha.symm rfl hab
        · rw [ze_n c]
          exact tgt e _ (g1 e he) c
      · show mw_ (zj_e Z x (ej_x (ze_ Z x) b 1)) r
        unfold mw_
        rw [hh]
        rcases List.mem_append.mp (show r ∈ zl_ Z ++ [(kind, a, b, t, v, x, q)] from hr) with hr | hr
        · exact g2 r hr
        · rw [List.mem_singleton] at hr
          rw [hr]
          exact hm
      · have hg : eg_ (ze_ (zj_e Z x (ej_x (ze_ Z x) b 1)) e) = true := hg
        show ¬ gc_w (ze_ (zj_e Z x (ej_x (ze_ Z x) b 1)) e)
        by_cases c : e = x
        · subst c
          rw [ze_s] at hg
          have hg : eg_ (ze_ Z e) = true := hg
          rw [hlive] at hg
          cases hg
        · rw [ze_n c] at hg ⊢
          exact g3 e he hg
    · rw [if_neg hha]
      have himp : 0 < ei_ (ze_ Z x) a := by
        rcases hx with c | c
        · exact absurd c.1 hha
        · exact c.2
      by_cases hhb : zh_ Z x ≠ b
      · rw [if_pos hhb]
        refine ⟨fun e he => ?_, fun r hr => ?_, g3⟩
        · show gj_ e (ze_ Z e) (zl_ Z ++ [(4, a, zh_ Z x, x, nI b, 0, 0)] ++ [(kind, a, b, t, v, x, q)])
          by_cases c : e = x
          · subst c
            exact gj_gift (r := (kind, a, b, t, v, e, q)) (g1 e he) x0 ⟨rfl, rfl, rfl, rfl, rfl, rfl⟩ hkind ⟨rfl, rfl, rfl⟩ (fun c => hhb (by have c : t = e := c; rw [← c, ht])) hb hab (fun c => hha c.symm) (fun c => hhb c.symm) himp
          · exact tgt e _ (gj_irr (g1 e he) (fun d => c (by have d : x = e := d; exact d.symm)) (fun d => made_n0 he (by have d : 0 = e := d; exact d.symm))) c
        · show mw_ Z r
          rcases List.mem_append.mp (show r ∈ zl_ Z ++ [(4, a, zh_ Z x, x, nI b, 0, 0)] ++ [(kind, a, b, t, v, x, q)] from hr) with hr | hr
          · rcases List.mem_append.mp hr with hr | hr
            · exact g2 r hr
            · rw [List.mem_singleton] at hr
              rw [hr]
              refine ⟨fun c => hha c.symm, rfl, fun c => absurd (show (4:Nat) = 3 from c) (by decide), fun _ c => ?_, fun _ => rfl⟩
              have c : nI b = nI (zh_ Z x) := c
              have h44 := (hz x hx2).1
              exact hhb ((nI_eq (by omega) (by omega)).mp c).symm
          · rw [List.mem_singleton] at hr
            rw [hr]
            exact hm
      · have hhb : zh_ Z x = b := Classical.byContradiction hhb
        rw [if_neg (fun c => c hhb)]
        refine ⟨fun e he => ?_, fun r hr => ?_, g3⟩
        · show gj_ e (ze_ Z e) (zl_ Z ++ [(kind, a, b, t, v, x, q)])
          by_cases c : e = x
          · subst c
            exact gj_home (r := (kind, a, b, t, v, e, q)) (g1 e he) hkind hhb.symm hab himp
          · exact tgt e _ (g1 e he) c
        · rcases List.mem_append.mp (show r ∈ zl_ Z ++ [(kind, a, b, t, v, x, q)] from hr) with hr | hr
          · exact g2 r hr
          · rw [List.mem_singleton] at hr
            rw [hr]
            exact hm
end GGP
