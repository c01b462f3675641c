/-! Counts of references: releases, gifts, redeems arrive; what a delivery keeps. -/
section GGE
variable {Z : zz_S} {A B : List zm_L} {a b t q c : Nat} {v : Int32}
/-- one entity's counts change, a message about it is taken -/
theorem gG_take {m : zm_L} {E : ze_E} (h : gG Z) (hL : zl_ Z = A ++ m :: B) (hm : 3 ≤ m.1) (hE : eh_ E = eh_ (ze_ Z m.2.2.2.1)) (hj : zk_made Z m.2.2.2.1 = true → gj_ m.2.2.2.1 E (A ++ B)) (hg : zk_made Z m.2.2.2.1 = true → eg_ E = true → ¬ gc_w E) : gG (zj_e (zj_l Z (A ++ B)) m.2.2.2.1 E) := by
  obtain ⟨g1, g2, g3⟩ := h
  have harg : m.2.2.2.2.2.1 = 0 := (g2 m (by rw [hL]; exact List.mem_append_right _ List.mem_cons_self)).2.2.2.2 hm
  rw [hL] at g1 g2
  have mem : ∀ r ∈ A ++ B, mw_ Z r := fun r hr => g2 r (by
    rcases List.mem_append.mp hr with hr | hr
    · exact List.mem_append_left _ hr
    · exact List.mem_append_right _ (List.mem_cons_of_mem _ hr))
  have hh : ∀ e, zh_ (zj_e (zj_l Z (A ++ B)) m.2.2.2.1 E) e = zh_ Z e := fun e => by
    unfold zh_
    by_cases d : e = m.2.2.2.1
    · subst d
      rw [ze_s]
      exact hE
    · rw [ze_n d]
      rfl
  refine ⟨fun e he => ?_, fun r hr => ?_, fun e he hge => ?_⟩
  · show gj_ e (ze_ (zj_e (zj_l Z (A ++ B)) m.2.2.2.1 E) e) (A ++ B)
    by_cases d : e = m.2.2.2.1
    · subst d
      rw [ze_s]
      exact hj he
    · rw [ze_n d]
      exact gj_rmi (g1 e he) (fun b' => gp_n (fun z => d z.symm)) (fun a' b' => gq_n (fun z => d z.symm)) (fun a' b' => gc_cn (fun z => made_n0 he (by rw [← z, harg])))
  · unfold mw_
    rw [hh]
    exact mem r hr
  · by_cases d : e = m.2.2.2.1
    · subst d
      rw [ze_s] at hge ⊢
      exact hg he hge
    · rw [ze_n d] at hge ⊢
      exact g3 e he hge
theorem gG_rel (h : gG Z) (hL : zl_ Z = A ++ (3, a, b, t, v, 0, q) :: B) (hA : ∀ y ∈ A, ¬ (y.2.1 = a ∧ y.2.2.1 = b)) : gG (zj_e (zj_l Z (A ++ B)) t (ej_x (ze_ Z t) a (-v.toInt))) := by
  have hmw := h.2.1 (3, a, b, t, v, 0, q) (by rw [hL]; exact List.mem_append_right _ List.mem_cons_self)
  have hab : a ≠ b := hmw.1
  have hhb : zh_ Z t = b := hmw.2.1
  have hv : 0 < v.toInt := hmw.2.2.1 rfl
  refine gG_take (m := (3, a, b, t, v, 0, q)) (E := ej_x (ze_ Z t) a (-v.toInt)) h hL (by show 3 ≤ 3; omega) rfl (fun he => ?_) (fun he hg c => ?_)
  · have hj := h.1 t he
    rw [hL] at hj
    have gp : ∀ b', gc_p t b' (3, a, b, t, v, 0, q) = if b' = a then -v.toInt else 0 := fun b' => by
      unfold gc_p
      rw [if_neg (fun z => absurd (show (3:Nat) = 5 from z.1) (by decide))]
      by_cases d : b' = a
      · rw [if_pos d, if_pos ⟨rfl, d.symm, rfl⟩]
      · rw [if_neg d, if_neg (fun z => d z.2.1.symm)]
    have gq : ∀ a' b', gc_q t a' b' (3, a, b, t, v, 0, q) = 0 := fun a' b' => gq_m (Or.inr (Or.inr rfl))
    have gcc : ∀ a' b', gc_c t a' b' (3, a, b, t, v, 0, q) = 0 := fun a' b' => gc_m (Or.inl rfl)
    have := gj_rm (E' := ej_x (ze_ Z t) a (-v.toInt)) (K := []) hj rfl (fun b' _ _ => by rw [gc_0x, gp]) (fun a' b' _ _ _ _ => by rw [gq]; show eo_ (ze_ Z t) a' b' = _; omega) (fun b' _ hneg => ?_) (fun a' b' _ hneg => absurd hneg (by rw [gq]; omega)) (fun b' _ _ => by rw [gcc]; show ei_ (ze_ Z t) b' = _; simp [gs_]) (fun a' b' _ _ _ _ => by rw [gcc]; rfl) (fun a' b' => rfl) (fun r hr => by cases hr) ?_
    · rw [List.append_nil] at this
      exact this
    · rw [gp] at hneg
      by_cases d : b' = a
      · subst d
        refine no_u (fun y hy z => hA y hy ⟨z.1, z.2.trans hhb⟩)
      · rw [if_neg d] at hneg
        omega
    · obtain ⟨k1, k2, k3, k4⟩ := hj.2.2.2.2
      refine ⟨?_, k2, k3, k4⟩
      rw [ex_x, if_neg (show ¬ eh_ (ze_ Z t) = a from fun z => hab (by rw [← hhb]; exact z.symm))]
      exact k1
  · refine h.2.2 t he hg ?_
    rcases c with ⟨b', hb', c⟩ | c
    · refine Or.inl ⟨b', hb', ?_⟩
      rw [ex_x] at c
      split at c
      · rename_i d
        subst d
        omega
      · exact c
    · exact Or.inr c
theorem zpair_e {d : Int} (c : Nat) : z_pair (zj_l Z (A ++ B)) a c t d = zj_e (zj_l Z (A ++ B)) t (if (0 < d ∧ eo_ (ze_ Z t) a c < 0) ∨ (d < 0 ∧ 0 < eo_ (ze_ Z t) a c) then ej_x (ej_o (ze_ Z t) a c d) c 1 else ej_o (ze_ Z t) a c d) := rfl
theorem gG_gift (h : gG Z) (hk : zk_w Z) (hL : zl_ Z = A ++ (4, a, b, t, nI c, 0, q) :: B) (ha : a < 4) (hc : c < 4) : gG (z_pair (zj_l Z (A ++ B)) a c t 1) := by
  have hmem : (4, a, b, t, nI c, 0, q) ∈ zl_ Z := by rw [hL]; exact List.mem_append_right _ List.mem_cons_self
  have hmw := h.2.1 _ hmem
  have hab : a ≠ b := hmw.1
  have hhb : zh_ Z t = b := hmw.2.1
  have hcb : c ≠ b := fun z => hmw.2.2.2.1 (Or.inl rfl) (by show nI c = nI b; rw [z])
  rw [zpair_e]
  have hx1 : ∀ b', gc_0 (if (0 < (1:Int) ∧ eo_ (ze_ Z t) a c < 0) ∨ ((1:Int) < 0 ∧ 0 < eo_ (ze_ Z t) a c) then ej_x (ej_o (ze_ Z t) a c 1) c 1 else ej_o (ze_ Z t) a c 1) b' = gc_0 (ze_ Z t) b' := fun b' => by
    split
    · rename_i d
      rw [gc_0x, gc_0o ha]
      by_cases e : b' = c
      · rw [if_pos e, if_pos e]
        unfold zm0
        split <;> split <;> omega
      · rw [if_neg e, if_neg e]
        omega
    · rename_i d
      rw [gc_0o ha]
      by_cases e : b' = c
      · rw [if_pos e]
        unfold zm0
        split <;> split <;> omega
      · rw [if_neg e]
        omega
  have hE : ∃ E', E' = (if (0 < (1:Int) ∧ eo_ (ze_ Z t) a c < 0) ∨ ((1:Int) < 0 ∧ 0 < eo_ (ze_ Z t) a c) then ej_x (ej_o (ze_ Z t) a c 1) c 1 else ej_o (ze_ Z t) a c 1) ∧ eh_ E' = eh_ (ze_ Z t) ∧ eg_ E' = eg_ (ze_ Z t) ∧ ei_ E' = ei_ (ze_ Z t) ∧ (∀ i j, eo_ E' i j = if i = a ∧ j = c then eo_ (ze_ Z t) a c + 1 else eo_ (ze_ Z t) i j) ∧ ∀ j, j ≠ c → ex_ E' j = ex_ (ze_ Z t) j := by
    refine ⟨_, rfl, ?_⟩
    split
    · exact ⟨rfl, rfl, rfl, fun i j => eo_o, fun j hj => by rw [ex_x, if_neg hj]; rfl⟩
    · exact ⟨rfl, rfl, rfl, fun i j => eo_o, fun j hj => rfl⟩
  obtain ⟨E', hE, e1, e2, e3, e4, e5⟩ := hE
  rw [← hE] at hx1 ⊢
  refine gG_take (m := (4, a, b, t, nI c, 0, q)) (E := E') h hL (by show 3 ≤ 4; omega) e1 (fun he => ?_) (fun he hg => ?_)
  · have hj := h.1 t he
    rw [hL] at hj
    have gp : ∀ b', gc_p t b' (4, a, b, t, nI c, 0, q) = 0 := fun b' => gp_m (Or.inr (Or.inr rfl))
    have gcc : ∀ a' b', gc_c t a' b' (4, a, b, t, nI c, 0, q) = 0 := fun a' b' => gc_m (Or.inr (Or.inl rfl))
    have gq : ∀ a' b', b' < 4 → gc_q t a' b' (4, a, b, t, nI c, 0, q) = if a' = a ∧ b' = c then 1 else 0 := fun a' b' hb' => by
      unfold gc_q
      by_cases d : a' = a ∧ b' = c
      · rw [if_pos d, if_pos ⟨rfl, d.1.symm, rfl, by rw [d.2]⟩]
      · rw [if_neg d, if_neg (fun z => d ⟨z.2.1.symm, ((nI_eq (by omega) (by omega)).mp z.2.2.2).symm⟩), if_neg (fun z => absurd (show (4:Nat) = 5 from z.1) (by decide))]
    have := gj_rm (E' := E') (K := []) hj e1 (fun b' _ _ => by rw [gp, hx1]; omega) (fun a' b' _ hb' _ _ => by
      rw [e4, gq a' b' hb']
      split
      · rename_i d
        rw [d.1, d.2]
      · omega) (fun b' _ hneg => absurd hneg (by rw [gp]; omega)) (fun a' b' _ hneg => ?_) (fun b' _ _ => by rw [gcc, e3]; simp [gs_]) (fun a' b' _ _ _ _ => by rw [gcc]; rfl) (fun a' b' => rfl) (fun r hr => by cases hr) ?_
    · rw [List.append_nil] at this
      exact this
    · exfalso
      unfold gc_q at hneg
      split at hneg
      · omega
      · rw [if_neg (fun z => absurd (show (4:Nat) = 5 from z.1) (by decide))] at hneg
        omega
    · obtain ⟨k1, k2, k3, k4⟩ := hj.2.2.2.2
      refine ⟨?_, by rw [e3]; exact k2, fun b' hb' => by rw [e3]; exact k3 b' hb', fun a' b' ha' hb' hor => ?_⟩
      · rw [e5 _ (fun z => hcb (by rw [← hhb]; exact z.symm))]
        exact k1
      · rw [e4, if_neg (fun z => ?_)]
        · exact k4 a' b' ha' hb' hor
        · rcases hor with d | d
          · exact hab (by rw [← z.1, d]; exact hhb)
          · exact hcb (by rw [← z.2, d]; exact hhb)
  · rw [e2] at hg
    exact absurd (gc_gift (h.1 t he) (gm_of h hk t) ⟨_, hmem, rfl, rfl⟩) (h.2.2 t he hg)
theorem gG_red (h : gG Z) (hk : zk_w Z) (hL : zl_ Z = A ++ (5, c, b, t, nI a, 0, q) :: B) (hA : ∀ y ∈ A, ¬ (y.2.1 = c ∧ y.2.2.1 = b)) (ha : a < 4) (hc : c < 4) : gG (z_pair (zj_l Z (A ++ B)) a c t (-1)) := by
  have hmem : (5, c, b, t, nI a, 0, q) ∈ zl_ Z := by rw [hL]; exact List.mem_append_right _ List.mem_cons_self
  have hmw := h.2.1 _ hmem
  have hcb : c ≠ b := hmw.1
  have hhb : zh_ Z t = b := hmw.2.1
  have hab : a ≠ b := fun z => hmw.2.2.2.1 (Or.inr rfl) (by show nI a = nI b; rw [z])
  have hAm : ∀ y ∈ A, mw_ Z y := fun y hy => h.2.1 y (by rw [hL]; exact List.mem_append_left _ hy)
  rw [zpair_e]
  have hx1 : ∀ b', gc_0 (if (0 < (-1:Int) ∧ eo_ (ze_ Z t) a c < 0) ∨ ((-1:Int) < 0 ∧ 0 < eo_ (ze_ Z t) a c) then ej_x (ej_o (ze_ Z t) a c (-1)) c 1 else ej_o (ze_ Z t) a c (-1)) b' = gc_0 (ze_ Z t) b' + (if b' = c then 1 else 0) := fun b' => by
    split
    · rename_i d
      rw [gc_0x, gc_0o ha]
      by_cases e : b' = c
      · rw [if_pos e, if_pos e]
        unfold zm0
        split <;> split <;> omega
      · rw [if_neg e, if_neg e]
        omega
    · rename_i d
      rw [gc_0o ha]
      by_cases e : b' = c
      · rw [if_pos e, if_pos e]
        unfold zm0
        split <;> split <;> omega
      · rw [if_neg e, if_neg e]
  have hE : ∃ E', E' = (if (0 < (-1:Int) ∧ eo_ (ze_ Z t) a c < 0) ∨ ((-1:Int) < 0 ∧ 0 < eo_ (ze_ Z t) a c) then ej_x (ej_o (ze_ Z t) a c (-1)) c 1 else ej_o (ze_ Z t) a c (-1)) ∧ eh_ E' = eh_ (ze_ Z t) ∧ eg_ E' = eg_ (ze_ Z t) ∧ ei_ E' = ei_ (ze_ Z t) ∧ (∀ i j, eo_ E' i j = if i = a ∧ j = c then eo_ (ze_ Z t) a c + (-1) else eo_ (ze_ Z t) i j) ∧ ∀ j, j ≠ c → ex_ E' j = ex_ (ze_ Z t) j := by
    refine ⟨_, rfl, ?_⟩
    split
    · exact ⟨rfl, rfl, rfl, fun i j => eo_o, fun j hj => by rw [ex_x, if_neg hj]; rfl⟩
    · exact ⟨rfl, rfl, rfl, fun i j => eo_o, fun j hj => rfl⟩
  obtain ⟨E', hE, e1, e2, e3, e4, e5⟩ := hE
  rw [← hE] at hx1 ⊢
  refine gG_take (m := (5, c, b, t, nI a, 0, q)) (E := E') h hL (by show 3 ≤ 5; omega) e1 (fun he => ?_) (fun he hg => ?_)
  · have hj := h.1 t he
    rw [hL] at hj
    have gp : ∀ b', gc_p t b' (5, c, b, t, nI a, 0, q) = if b' = c then 1 else 0 := fun b' => by
      unfold gc_p
      by_cases d : b' = c
      · rw [if_pos d, if_pos ⟨rfl, d.symm, rfl⟩]
      · rw [if_neg d, if_neg (fun z => d z.2.1.symm), if_neg (fun z => absurd (show (5:Nat) = 3 from z.1) (by decide))]
    have gcc : ∀ a' b', gc_c t a' b' (5, c, b, t, nI a, 0, q) = 0 := fun a' b' => gc_m (Or.inr (Or.inr rfl))
    have gq : ∀ a' b', a' < 4 → gc_q t a' b' (5, c, b, t, nI a, 0, q) = if a' = a ∧ b' = c then -1 else 0 := fun a' b' ha' => by
      unfold gc_q
      rw [if_neg (fun z => absurd (show (5:Nat) = 4 from z.1) (by decide))]
      by_cases d : a' = a ∧ b' = c
      · rw [if_pos d, if_pos ⟨rfl, d.2.symm, rfl, by rw [d.1]⟩]
      · rw [if_neg d, if_neg (fun z => d ⟨((nI_eq (by omega) (by omega)).mp z.2.2.2).symm, z.2.1.symm⟩)]
    have := gj_rm (E' := E') (K := []) hj e1 (fun b' _ _ => by rw [gp, hx1]) (fun a' b' ha' _ _ _ => by
      rw [e4, gq a' b' ha']
      split
      · rename_i d
        rw [d.1, d.2]
      · omega) (fun b' _ hneg => ?_) (fun a' b' _ hneg y hy hg => ?_) (fun b' _ _ => by rw [gcc, e3]; simp [gs_]) (fun a' b' _ _ _ _ => by rw [gcc]; rfl) (fun a' b' => rfl) (fun r hr => by cases hr) ?_
    · rw [List.append_nil] at this
      exact this
    · exfalso
      rw [gp] at hneg
      split at hneg <;> omega
    · unfold gc_q at hneg
      rw [if_neg (fun z => absurd (show (5:Nat) = 4 from z.1) (by decide))] at hneg
      split at hneg
      · rename_i d
        refine hA y hy ⟨hg.2.1.trans d.2.1.symm, ?_⟩
        rw [← (hAm y hy).2.1, hg.2.2]
        exact hhb
      · omega
    · obtain ⟨k1, k2, k3, k4⟩ := hj.2.2.2.2
      refine ⟨?_, by rw [e3]; exact k2, fun b' hb' => by rw [e3]; exact k3 b' hb', fun a' b' ha' hb' hor => ?_⟩
      · rw [e5 _ (fun z => hcb (by rw [← hhb]; exact z.symm))]
        exact k1
      · rw [e4, if_neg (fun z => ?_)]
        · exact k4 a' b' ha' hb' hor
        · rcases hor with d | d
          · exact hab (by rw [← z.1, d]; exact hhb)
          · exact hcb (by rw [← z.2, d]; exact hhb)
  · rw [e2] at hg
    exact absurd (gc_red (h.1 t he) (gm_of h hk t) hmem rfl rfl) (h.2.2 t he hg)
end GGE
