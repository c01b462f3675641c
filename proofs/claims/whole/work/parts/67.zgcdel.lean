/-! Counts of references: what a delivery keeps. -/
section GJD
variable {e : Nat} {E E' : ze_E} {A B K : List zm_L} {m : zm_L}
theorem gw_appK {f : zm_L → Int} {u : zm_L → Prop} {n : Int} : ∀ (K : List zm_L) (L : List zm_L) (c : Int), (∀ r ∈ K, ¬ u r) → gw_ f u n c L → gw_ f u n c (L ++ K)
  | [], L, c, _, h => by rw [List.append_nil]; exact h
  | r :: K, L, c, hK, h => by
    rw [show L ++ r :: K = (L ++ [r]) ++ K by simp]
    exact gw_appK K _ c (fun x hx => hK x (List.mem_cons_of_mem _ hx)) (gw_app L c r h (fun z => absurd z (hK r List.mem_cons_self)))
/-- a message is taken, others may come behind -/
theorem gj_rm (hj : gj_ e E (A ++ m :: B)) (hh : eh_ E' = eh_ E) (P : ∀ b, b < 4 → b ≠ eh_ E → gc_0 E' b = gc_0 E b + gc_p e b m) (Q : ∀ a b, a < 4 → b < 4 → a ≠ eh_ E → b ≠ eh_ E → eo_ E' a b = eo_ E a b + gc_q e a b m)
    (NP : ∀ b, b ≠ eh_ E → gc_p e b m < 0 → ∀ y ∈ A, ¬ gc_u e (eh_ E) b y) (NQ : ∀ a b, b ≠ eh_ E → gc_q e a b m < 0 → ∀ y ∈ A, ¬ gc_g e b y)
    (I : ∀ b, b < 4 → b ≠ eh_ E → ei_ E' b = ei_ E b + gc_c e (eh_ E) b m + gs_ (gc_p e b) K) (C2 : ∀ a b, a < 4 → b < 4 → a ≠ eh_ E → b ≠ eh_ E → gs_ (gc_q e a b) K = -gc_c e a b m) (KC : ∀ a b, gs_ (gc_c e a b) K = 0)
    (KU : ∀ r ∈ K, ∀ b, ¬ gc_u e (eh_ E) b r ∧ ¬ gc_g e b r) (H5 : ex_ E' (eh_ E) = 0 ∧ ei_ E' (eh_ E) = 0 ∧ (∀ b, b < 4 → 0 ≤ ei_ E' b) ∧ ∀ a b, a < 4 → b < 4 → a = eh_ E ∨ b = eh_ E → eo_ E' a b = 0) : gj_ e E' (A ++ B ++ K) := by
  obtain ⟨j1, j2, j3, j4, j5⟩ := hj
  unfold gj_
  rw [hh]
  refine ⟨fun b hb hbh => ?_, fun a b ha hb hah hbh => ?_, fun b hb hbh => ?_, fun a b ha hb hah hbh => ?_, H5⟩
  · have h1 := j1 b hb hbh
    have h2 := P b hb hbh
    have h3 := I b hb hbh
    rw [gs_a, gs_c, gs_a, gs_c] at h1
    rw [gs_a, gs_a, gs_a, gs_a, KC]
    omega
  · have h1 := j2 a b ha hb hah hbh
    have h2 := Q a b ha hb hah hbh
    have h3 := C2 a b ha hb hah hbh
    rw [gs_a, gs_c, gs_a, gs_c] at h1
    rw [gs_a, gs_a, gs_a, gs_a, KC]
    omega
  · rw [P b hb hbh]
    exact gw_appK K _ _ (fun r hr => (KU r hr b).1) (gw_del m B A _ (NP b hbh) (j3 b hb hbh))
  · rw [Q a b ha hb hah hbh]
    exact gw_appK K _ _ (fun r hr => (KU r hr b).2) (gw_del m B A _ (NQ a b hbh) (j4 a b ha hb hah hbh))
/-- a message about other things is taken -/
theorem gj_rmi (hj : gj_ e E (A ++ m :: B)) (h1 : ∀ b, gc_p e b m = 0) (h2 : ∀ a b, gc_q e a b m = 0) (h3 : ∀ a b, gc_c e a b m = 0) : gj_ e E (A ++ B) := by
  have := gj_rm (K := []) hj rfl (fun b _ _ => by rw [h1]; omega) (fun a b _ _ _ _ => by rw [h2]; omega) (fun b _ c => absurd c (by rw [h1]; omega)) (fun a b _ c => absurd c (by rw [h2]; omega)) (fun b _ _ => by rw [h3]; simp [gs_]) (fun a b _ _ _ _ => by rw [h3]; rfl) (fun a b => rfl) (fun r hr => by cases hr) hj.2.2.2.2
  rw [List.append_nil] at this
  exact this
theorem gc_0i {b c : Nat} {d : Int} : gc_0 (ej_i E c d) b = gc_0 E b := rfl
theorem gc_0o {a b c : Nat} {d : Int} (ha : a < 4) : gc_0 (ej_o E a c d) b = gc_0 E b + (if b = c then zm0 (eo_ E a c + d) - zm0 (eo_ E a c) else 0) := by
  have key : ∀ i, eo_ (ej_o E a c d) i b = if i = a ∧ b = c then eo_ E a c + d else eo_ E i b := fun i => by
    show va_up (eo_ E) a (va_up (eo_ E a) c (eo_ E a c + d)) i b = _
    unfold va_up
    by_cases hi : i = a
    · by_cases hb : b = c
      · rw [if_pos hi, if_pos hb, if_pos ⟨hi, hb⟩]
      · rw [if_pos hi, if_neg hb, if_neg (fun z => hb z.2), hi]
    · rw [if_neg hi, if_neg (fun z => hi z.1)]
  have hx : ex_ (ej_o E a c d) b = ex_ E b := rfl
  unfold gc_0
  rw [key, key, key, key, hx]
  by_cases hb : b = c
  · subst hb
    rw [if_pos rfl]
    have h4 : a = 0 ∨ a = 1 ∨ a = 2 ∨ a = 3 := by omega
    rcases h4 with h | h | h | h <;> subst h <;> simp <;> omega
  · rw [if_neg hb, if_neg (fun z => hb z.2), if_neg (fun z => hb z.2), if_neg (fun z => hb z.2), if_neg (fun z => hb z.2)]
    omega
theorem eo_o {a b c i : Nat} {d : Int} : eo_ (ej_o E a c d) i b = if i = a ∧ b = c then eo_ E a c + d else eo_ E i b := by
  show va_up (eo_ E) a (va_up (eo_ E a) c (eo_ E a c + d)) i b = _
  unfold va_up
  by_cases hi : i = a
  · by_cases hb : b = c
    · rw [if_pos hi, if_pos hb, if_pos ⟨hi, hb⟩]
    · rw [if_pos hi, if_neg hb, if_neg (fun z => hb z.2), hi]
  · rw [if_neg hi, if_neg (fun z => hi z.1)]
theorem ei_i {b c : Nat} {d : Int} : ei_ (ej_i E c d) b = if b = c then d else ei_ E b := rfl
theorem ex_x {b c : Nat} {d : Int} : ex_ (ej_x E c d) b = if b = c then ex_ E c + d else ex_ E b := rfl
end GJD
section GGD
variable {Z : zz_S} {A B : List zm_L} {a b t x q kind : Nat} {v : Int32}
/-- messages about e of b to its home are none in A -/
theorem no_u {e h b : Nat} (hA : ∀ y ∈ A, ¬ (y.2.1 = b ∧ y.2.2.1 = h)) : ∀ y ∈ A, ¬ gc_u e h b y := fun y hy c => hA y hy ⟨c.1, c.2.1⟩
/-- a call or an answer is taken, its argument unpacked -/
theorem gG_unpack (h : gG Z) (hL : zl_ Z = A ++ (kind, a, b, t, v, x, q) :: B) (hkind : kind = 1 ∨ kind = 2) (ha : a < 4) (hb : b < 4) (hz : zw_e Z) (hx2 : x ≤ 200) : gG (z_unpack (zj_l Z (A ++ B)) a b x) := by
  obtain ⟨g1, g2, g3⟩ := h
  have hab : a ≠ b := (g2 (kind, a, b, t, v, x, q) (by rw [hL]; exact List.mem_append_right _ List.mem_cons_self)).1
  rw [hL] at g1 g2
  have hkm : ∀ b', gc_p 0 b' (kind, a, b, t, v, x, q) = 0 := fun b' => gp_m (by show kind = 1 ∨ kind = 2 ∨ kind = 4; omega)
  have irr : ∀ e, zk_made Z e = true → e ≠ x → gj_ e (ze_ Z e) (A ++ B) := fun e he hne => gj_rmi (g1 e he) (fun b' => gp_m (by show kind = 1 ∨ kind = 2 ∨ kind = 4; omega)) (fun a' b' => gq_m (by show kind = 1 ∨ kind = 2 ∨ kind = 3; omega)) (fun a' b' => gc_cn (fun c => hne (by have c : x = e := c; exact c.symm)))
  have mem : ∀ r ∈ A ++ B, mw_ Z r := fun r hr => g2 r (by
    rcases List.mem_append.mp hr with hr | hr
    · exact List.mem_append_left _ hr
    · exact List.mem_append_right _ (List.mem_cons_of_mem _ hr))
  have gp : ∀ e b', gc_p e b' (kind, a, b, t, v, x, q) = 0 := fun e b' => gp_m (by show kind = 1 ∨ kind = 2 ∨ kind = 4; omega)
  have gq : ∀ e a' b', gc_q e a' b' (kind, a, b, t, v, x, q) = 0 := fun e a' b' => gq_m (by show kind = 1 ∨ kind = 2 ∨ kind = 3; omega)
  have gcx : ∀ a' b', gc_c x a' b' (kind, a, b, t, v, x, q) = if a' = a ∧ b' = b then 1 else 0 := fun a' b' => by
    unfold gc_c
    by_cases c : a' = a ∧ b' = b
    · rw [if_pos c, if_pos ⟨hkind, c.1.symm, c.2.symm, rfl⟩]
    · rw [if_neg c, if_neg (fun z => c ⟨z.2.1.symm, z.2.2.1.symm⟩)]
  unfold z_unpack
  by_cases hc : x = 0 ∨ zh_ (zj_l Z (A ++ B)) x = b
  · rw [if_pos hc]
    refine ⟨fun e he => ?_, mem, g3⟩
    by_cases c : e = x
    · subst c
      have hh : zh_ Z e = b := hc.resolve_left (made_n0 he)
      have := gj_rm (E' := ze_ Z e) (K := []) (g1 e he) rfl (fun b' _ _ => by rw [gp]; omega) (fun a' b' _ _ _ _ => by rw [gq]; omega) (fun b' _ c => absurd c (by rw [gp]; omega)) (fun a' b' _ c => absurd c (by rw [gq]; omega)) (fun b' _ _ => by
        rw [gcx, if_neg (fun z => hab (by rw [← z.1]; exact hh))]
        simp [gs_]) (fun a' b' _ _ _ hbh => by
        rw [gcx, if_neg (fun z => hbh (by rw [z.2]; exact hh.symm))]
        rfl) (fun a' b' => rfl) (fun r hr => by cases hr) (g1 e he).2.2.2.2
      rw [List.append_nil] at this
      exact this
    · exact irr e he c
  · rw [if_neg hc]
    have x0 : x ≠ 0 := fun c => hc (Or.inl c)
    have hhb : zh_ Z x ≠ b := fun c => hc (Or.inr c)
    dsimp only
    have hh : ∀ e, zh_ (zj_e (zj_l Z (A ++ B)) x (ej_i (ze_ (zj_l Z (A ++ B)) x) b (ei_ (ze_ (zj_l Z (A ++ B)) x) b + 1))) e = zh_ Z e := fun e => by
      unfold zh_
      by_cases c : e = x
      · subst c
        rw [ze_s]
        rfl
      · rw [ze_n c]
        rfl
    have g3' : ∀ e, zk_made Z e = true → eg_ (ze_ (zj_e (zj_l Z (A ++ B)) x (ej_i (ze_ (zj_l Z (A ++ B)) x) b (ei_ (ze_ (zj_l Z (A ++ B)) x) b + 1))) e) = true → ¬ gc_w (ze_ (zj_e (zj_l Z (A ++ B)) x (ej_i (ze_ (zj_l Z (A ++ B)) x) b (ei_ (ze_ (zj_l Z (A ++ B)) x) b + 1))) e) := fun e he hg => by
      by_cases c : e = x
      · subst c
        rw [ze_s] at hg ⊢
        exact g3 e he hg
      · rw [ze_n c] at hg ⊢
        exact g3 e he hg
    have H5 : zk_made Z x = true → ex_ (ej_i (ze_ Z x) b (ei_ (ze_ Z x) b + 1)) (eh_ (ze_ Z x)) = 0 ∧ ei_ (ej_i (ze_ Z x) b (ei_ (ze_ Z x) b + 1)) (eh_ (ze_ Z x)) = 0 ∧ (∀ b', b' < 4 → 0 ≤ ei_ (ej_i (ze_ Z x) b (ei_ (ze_ Z x) b + 1)) b') ∧ ∀ a' b', a' < 4 → b' < 4 → a' = eh_ (ze_ Z x) ∨ b' = eh_ (ze_ Z x) → eo_ (ej_i (ze_ Z x) b (ei_ (ze_ Z x) b + 1)) a' b' = 0 := fun he => by
      obtain ⟨k1, k2, k3, k4⟩ := (g1 x he).2.2.2.2
      refine ⟨k1, ?_, fun b' hb' => ?_, k4⟩
      · rw [ei_i, if_neg (show ¬ eh_ (ze_ Z x) = b from hhb)]
        exact k2
      · rw [ei_i]
        split
        · have := k3 b hb
          omega
        · exact k3 b' hb'
    by_cases hha : zh_ (zj_l Z (A ++ B)) x ≠ a
    · rw [if_pos hha]
      have hha : zh_ Z x ≠ a := hha
      refine ⟨fun e he => ?_, fun r hr => ?_, g3'⟩
      · show gj_ e (ze_ (zj_e (zj_l Z (A ++ B)) x (ej_i (ze_ Z x) b (ei_ (ze_ Z x) b + 1))) e) (A ++ B ++ [(5, b, zh_ Z x, x, nI a, 0, 0)])
        by_cases c : e = x
        · subst c
          rw [ze_s]
          refine gj_rm (E' := ej_i (ze_ Z e) b (ei_ (ze_ Z e) b + 1)) (K := [(5, b, zh_ Z e, e, nI a, 0, 0)]) (g1 e he) rfl (fun b' _ _ => by rw [gp, gc_0i]; omega) (fun a' b' _ _ _ _ => by rw [gq]; show eo_ (ze_ Z e) a' b' = _; omega) (fun b' _ c => absurd c (by rw [gp]; omega)) (fun a' b' _ c => absurd c (by rw [gq]; omega)) (fun b' _ _ => ?_) (fun a' b' ha' hb' _ _ => ?_) (fun a' b' => ?_) (fun r hr b' => ?_) (H5 he)
          · rw [gcx, gs_1, ei_i]
            have h5 : gc_p e b' (5, b, zh_ Z e, e, nI a, 0, 0) = if b' = b then 1 else 0 := by
              unfold gc_p
              by_cases c : b' = b
              · rw [if_pos c, if_pos ⟨rfl, c.symm, rfl⟩]
              · rw [if_neg c, if_neg (fun z => c z.2.1.symm), if_neg (fun z => absurd (show (5:Nat) = 3 from z.1) (by decide))]
            rw [h5]
            by_cases c : b' = b
            · subst c
              rw [if_pos rfl, if_pos rfl, if_neg (fun z => hha (by rw [← z.1]; rfl))]
              omega
            · rw [if_neg c, if_neg c, if_neg (fun z => c z.2)]
              omega
          · rw [gcx, gs_1]
            unfold gc_q
            rw [if_neg (fun z => absurd (show (5:Nat) = 4 from z.1) (by decide))]
            by_cases c : a' = a ∧ b' = b
            · rw [if_pos c, if_pos ⟨rfl, c.2.symm, rfl, by rw [c.1]⟩]
            · rw [if_neg c, if_neg (fun z => c ⟨((nI_eq (by omega) (by omega)).mp z.2.2.2).symm, z.2.1.symm⟩)]
              rfl
          · rw [gs_1]
            exact gc_m (Or.inr (Or.inr rfl))
          · rw [List.mem_singleton] at hr
            subst hr
            refine ⟨fun z => ?_, fun z => absurd (show (5:Nat) = 4 from z.1) (by decide)⟩
            rcases z.2.2 with z | z | z
            · exact absurd (show (5:Nat) = 1 from z.1) (by decide)
            · exact absurd (show (5:Nat) = 1 ∨ (5:Nat) = 2 from z.1) (by decide)
            · exact absurd (show (5:Nat) = 4 from z.1) (by decide)
        · rw [ze_n c]
          exact gj_irr (irr e he c) (fun d => c (by have d : x = e := d; exact d.symm)) (fun d => made_n0 he (by have d : 0 = e := d; exact d.symm))
      · have e1 : mw_ (z_post (zj_e (zj_l Z (A ++ B)) x (ej_i (ze_ (zj_l Z (A ++ B)) x) b (ei_ (ze_ (zj_l Z (A ++ B)) x) b + 1))) 5 b (zh_ (zj_l Z (A ++ B)) x) x (nI a) 0 0) r ↔ mw_ Z r := by
          unfold mw_
          have := hh r.2.2.2.1
          show _ ≠ _ ∧ zh_ (zj_e (zj_l Z (A ++ B)) x (ej_i (ze_ (zj_l Z (A ++ B)) x) b (ei_ (ze_ (zj_l Z (A ++ B)) x) b + 1))) r.2.2.2.1 = _ ∧ _ ↔ _
          rw [this]
        rw [e1]
        rcases List.mem_append.mp (show r ∈ A ++ B ++ [(5, b, zh_ Z x, x, nI a, 0, 0)] from hr) with hr | hr
        · exact mem r hr
        · rw [List.mem_singleton] at hr
          rw [hr]
          refine ⟨fun c => hhb c.symm, rfl, fun c => absurd (show (5:Nat) = 3 from c) (by decide), fun _ c => ?_, fun _ => rfl⟩
          have c : nI a = nI (zh_ Z x) := c
          have h44 := (hz x hx2).1
          exact hha ((nI_eq (by omega) (by omega)).mp c).symm
    · rw [if_neg hha]
      have hha : zh_ Z x = a := Classical.byContradiction hha
      refine ⟨fun e he => ?_, fun r hr => ?_, g3'⟩
      · show gj_ e (ze_ (zj_e (zj_l Z (A ++ B)) x (ej_i (ze_ Z x) b (ei_ (ze_ Z x) b + 1))) e) (A ++ B)
        by_cases c : e = x
        · subst c
          rw [ze_s]
          have := gj_rm (E' := ej_i (ze_ Z e) b (ei_ (ze_ Z e) b + 1)) (K := []) (g1 e he) rfl (fun b' _ _ => by rw [gp, gc_0i]; omega) (fun a' b' _ _ _ _ => by rw [gq]; show eo_ (ze_ Z e) a' b' = _; omega) (fun b' _ c => absurd c (by rw [gp]; omega)) (fun a' b' _ c => absurd c (by rw [gq]; omega)) (fun b' _ _ => by
            rw [gcx, ei_i]
            have hhe : eh_ (ze_ Z e) = a := hha
            by_cases c : b' = b
            · subst c
              rw [if_pos rfl, if_pos ⟨hhe, rfl⟩]
              simp [gs_]
            · rw [if_neg c, if_neg (fun z => c z.2)]
              simp [gs_]) (fun a' b' _ _ hah _ => by
            rw [gcx, if_neg (fun z => hah (by rw [z.1]; exact hha.symm))]
            rfl) (fun a' b' => rfl) (fun r hr => by cases hr) (H5 he)
          rw [List.append_nil] at this
          exact this
        · rw [ze_n c]
          exact irr e he c
      · unfold mw_
        rw [hh]
        exact mem r hr
end GGD
