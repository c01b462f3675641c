/-! The class: does a reference lead to a promise. -/
section CLD
variable {gl : gl_T} {fx : fx_T} {ad : Nat × Nat → Nat} {W W' : cw_W} {st : st_S} {Z X : zz_S} {e a b s v L g u q t h p w ref : Nat} {x : Int32} {lost : List Nat}
theorem leads_none {m fuel : Nat} {p1 : Option Nat} : st_it (fun rec4 => (fun y : Option Nat × Option Nat × Int32 => xP_leadsTo_b4 gl rec4 y.1 y.2.1 y.2.2)) (fuel + 1) (p1, none, nI m) st = some (0, st, 0, 0) := by
  show xP_leadsTo_b4 gl _ p1 none (nI m) st = _
  unfold xP_leadsTo_b4
  by_cases c : (100 : Int32) < nI m
  · exact ru_t c rfl
  · exact ru_f c (ru_t rfl rfl)
theorem ad_16 (hW : CW gl fx ad W st) (h1 : cwd_ W u = true) (h2 : cwd_ W t = true) (h : ad (16, u) = ad (16, t)) : u = t := by
  have := hW.2.1 (16, u) (16, t) _ _ (hk_16 h1) (hk_16 h2) h
  exact congrArg Prod.snd this
theorem xP_leads_it (hW : CW gl fx ad W st) (hR : RW Z W s) (hB : zB Z) (hp : zk_made Z p = true) (hp1 : 100 < p) (hpw : zh_ Z p = w) (href : zk_K Z ref) {k : Nat} (k1 : k ≤ 100) (k2 : ∀ j, j < k → zk_pass Z w (z_it Z j ref) = true) (k3 : zk_pass Z w (z_it Z k ref) = false) : ∀ (d m fuel : Nat), k - m = d → m ≤ k → d + 2 < fuel →
    ∃ c : Bool, st_it (fun rec4 => (fun y : Option Nat × Option Nat × Int32 => xP_leadsTo_b4 gl rec4 y.1 y.2.1 y.2.2)) fuel (some (ad (16, p)), rf_ ad (z_it Z m ref), nI m) st = some (bi_ c, st, 0, 0) ∧ (c = true ↔ ∃ j, m ≤ j ∧ j ≤ k ∧ z_it Z j ref = p) := by
  obtain ⟨b1, b2, b3, b4, b5, b6, b7⟩ := hB
  have hKit : ∀ j, zk_K Z (z_it Z j ref) := by
    intro j
    induction j with
    | zero => exact href
    | succ j ih => rw [zit_s]; exact (b3.1 _).1
  have hdp : cwd_ W p = true := by rw [hR.2.1 p]; exact hp
  have hEp : cwe_ W p = ze_ Z p := by rw [hR.2.2.1]
  intro d
  induction d with
  | zero =>
    intro m fuel hdm hmk hfu
    obtain ⟨n, rfl⟩ : ∃ n, fuel = n + 2 := ⟨fuel - 2, by omega⟩
    have hm : m = k := by omega
    subst hm
    have only : ∀ P : Prop, (z_it Z m ref = p ↔ P) → (P ↔ ∃ j, m ≤ j ∧ j ≤ m ∧ z_it Z j ref = p) := fun P hP => by
      rw [← hP]
      constructor
      · exact fun z => ⟨m, Nat.le_refl _, Nat.le_refl _, z⟩
      · rintro ⟨j, j1, j2, j3⟩
        have : j = m := by omega
        rw [← this]
        exact j3
    have hKt := hKit m
    generalize z_it Z m ref = t at k3 hKt only
    have start : ∀ y, (if rf_ ad t = none then (xP_leadsTo_b63 gl ) else (if rf_ ad t = some (ad (16, p)) then (st_r (1 : Int32)) else (st_g (so_i (rf_ ad t) [4] [3]) fun t1 => if t1 = 0 then (xP_leadsTo_b55 gl (st_it (fun rec4 => (fun y : Option Nat × Option Nat × Int32 => xP_leadsTo_b4 gl rec4 y.1 y.2.1 y.2.2)) (n + 1)) (some (ad (16, p))) (nI m)) else (st_g (so_k (rf_ ad t) [4]) fun _ => st_g (so_gi (rf_ ad t) [4] 4) fun t3 => st_g (so_gi (some (ad (16, p))) [4] 4) fun t4 => if t3 = t4 then (st_g (so_gq (rf_ ad t) [4] 1) fun t5 => xP_leadsTo_b57 gl (st_it (fun rec4 => (fun y : Option Nat × Option Nat × Int32 => xP_leadsTo_b4 gl rec4 y.1 y.2.1 y.2.2)) (n + 1)) (some (ad (16, p))) t5 (nI m)) else (xP_leadsTo_b55 gl (st_it (fun rec4 => (fun y : Option Nat × Option Nat × Int32 => xP_leadsTo_b4 gl rec4 y.1 y.2.1 y.2.2)) (n + 1)) (some (ad (16, p))) (nI m)))))) st = some y →
        st_it (fun rec4 => (fun y : Option Nat × Option Nat × Int32 => xP_leadsTo_b4 gl rec4 y.1 y.2.1 y.2.2)) (n + 2) (some (ad (16, p)), rf_ ad t, nI m) st = some y := by
      intro y hy
      show xP_leadsTo_b4 gl _ (some (ad (16, p))) (rf_ ad t) (nI m) st = _
      unfold xP_leadsTo_b4
      exact ru_f (show ¬ nI 100 < nI m from nI_nlt (by omega) (by omega)) hy
    have stop : xP_leadsTo_b55 gl (st_it (fun rec4 => (fun y : Option Nat × Option Nat × Int32 => xP_leadsTo_b4 gl rec4 y.1 y.2.1 y.2.2)) (n + 1)) (some (ad (16, p))) (nI m) st = some (0, st, 0, 0) := by
      unfold xP_leadsTo_b55 xP_leadsTo_b57
      rw [nI_1]
      exact leads_none
    by_cases ht0 : t = 0
    · subst ht0
      exact ⟨false, start _ (ru_t rfl rfl), only _ ⟨fun z => by omega, fun z => by cases z⟩⟩
    · have hmd : zk_made Z t = true := hKt.resolve_left ht0
      have hd : cwd_ W t = true := by rw [hR.2.1 t]; exact hmd
      have hE : cwe_ W t = ze_ Z t := by rw [hR.2.2.1]
      have htr : rf_ ad t = some (ad (16, t)) := rf_s ht0
      by_cases htp : t = p
      · subst htp
        exact ⟨true, start _ (ru_f (fun z => by rw [htr] at z; cases z) (ru_t htr rfl)), only _ ⟨fun _ => rfl, fun _ => rfl⟩⟩
      · refine ⟨false, start _ (ru_f (fun z => by rw [htr] at z; cases z) (ru_f (fun z => htp (ad_16 hW hd hdp (Option.some.inj (htr.symm.trans z)))) ?_)), only _ ⟨fun z => absurd z htp, fun z => by cases z⟩⟩
        rw [htr]
        by_cases h100 : t ≤ 100
        · refine ru_g _ (og_i0 (ro_at hW hd h100) (by simp) (by simp)) ?_
          exact ru_t rfl stop
        · have h100 : 100 < t := by omega
          have hat := rp_at hW hd h100
          refine ru_g _ (og_i1 hat (by simp)) ?_
          refine ru_f (by decide) ?_
          refine ru_g _ (og_k hat (by simp)) ?_
          refine ru_g _ (og_i hat (by simp) rfl) ?_
          refine ru_g _ (og_i (rp_at hW hdp hp1) (by simp) rfl) ?_
          rw [hE, hEp]
          by_cases hhh : zh_ Z t = w
          · have hes : es_ (ze_ Z t) = false := by
              cases z : es_ (ze_ Z t) with
              | false => rfl
              | true =>
                exfalso
                unfold zk_pass at k3
                rw [z, decide_eq_true h100, decide_eq_true hhh] at k3
                cases k3
            refine ru_t (show nI (zh_ Z t) = nI (zh_ Z p) by rw [hhh, hpw]) ?_
            refine ru_g _ (og_q (q := rf_ ad (if es_ (cwe_ W t) = true then et_ (cwe_ W t) else 0)) hat (by simp) rfl) ?_
            rw [hE, hes, if_neg (by decide), rf_0]
            exact stop
          · have h4t := (b2.1 t (zk_K2 b1 hKt)).1
            have h4p := (b2.1 p (zk_K2 b1 (Or.inr hp))).1
            exact ru_f (show ¬ nI (zh_ Z t) = nI (zh_ Z p) from fun z => hhh (by rw [(nI_eq (by omega) (by omega)).mp z, hpw])) stop
  | succ d ih =>
    intro m fuel hdm hmk hfu
    obtain ⟨n, rfl⟩ : ∃ n, fuel = n + 1 := ⟨fuel - 1, by omega⟩
    obtain ⟨c, c1, c2⟩ := ih (m + 1) n (by omega) (by omega) (by omega)
    have hpass := k2 m (by omega)
    have hKt := hKit m
    have hnext := zit_s (Z := Z) m ref
    generalize z_it Z (m + 1) ref = t' at hnext c1
    have more : ∀ P : Prop, (z_it Z m ref = p ∨ c = true ↔ P) → (P ↔ ∃ j, m ≤ j ∧ j ≤ k ∧ z_it Z j ref = p) := fun P hP => by
      rw [← hP, c2]
      constructor
      · rintro (z | ⟨j, j1, j2, j3⟩)
        · exact ⟨m, Nat.le_refl _, by omega, z⟩
        · exact ⟨j, by omega, j2, j3⟩
      · rintro ⟨j, j1, j2, j3⟩
        by_cases hj : j = m
        · rw [hj] at j3
          exact Or.inl j3
        · exact Or.inr ⟨j, by omega, j2, j3⟩
    generalize z_it Z m ref = t at hpass hKt hnext more
    have hpp := hpass
    unfold zk_pass at hpp
    simp only [Bool.and_eq_true, decide_eq_true_eq] at hpp
    have h100 : 100 < t := hpp.1.1
    have ht0 : t ≠ 0 := by omega
    have hmd : zk_made Z t = true := hKt.resolve_left ht0
    have hd : cwd_ W t = true := by rw [hR.2.1 t]; exact hmd
    have hE : cwe_ W t = ze_ Z t := by rw [hR.2.2.1]
    have hat := rp_at hW hd h100
    have htr : rf_ ad t = some (ad (16, t)) := rf_s ht0
    by_cases htp : t = p
    · subst htp
      refine ⟨true, ?_, more _ ⟨fun _ => rfl, fun _ => Or.inl rfl⟩⟩
      show xP_leadsTo_b4 gl _ (some (ad (16, t))) (rf_ ad t) (nI m) st = _
      unfold xP_leadsTo_b4
      refine ru_f (show ¬ nI 100 < nI m from nI_nlt (by omega) (by omega)) ?_
      exact ru_f (fun z => by rw [htr] at z; cases z) (ru_t htr rfl)
    · refine ⟨c, ?_, more _ ⟨fun z => z.elim (fun y => absurd y htp) id, Or.inr⟩⟩
      show xP_leadsTo_b4 gl _ (some (ad (16, p))) (rf_ ad t) (nI m) st = _
      unfold xP_leadsTo_b4
      refine ru_f (show ¬ nI 100 < nI m from nI_nlt (by omega) (by omega)) ?_
      refine ru_f (fun z => by rw [htr] at z; cases z) (ru_f (fun z => htp (ad_16 hW hd hdp (Option.some.inj (htr.symm.trans z)))) ?_)
      rw [htr]
      refine ru_g _ (og_i1 hat (by simp)) ?_
      refine ru_f (by decide) ?_
      refine ru_g _ (og_k hat (by simp)) ?_
      refine ru_g _ (og_i hat (by simp) rfl) ?_
      refine ru_g _ (og_i (rp_at hW hdp hp1) (by simp) rfl) ?_
      rw [hE, hEp]
      refine ru_t (show nI (zh_ Z t) = nI (zh_ Z p) by rw [hpp.1.2, hpw]) ?_
      refine ru_g _ (og_q (q := rf_ ad (if es_ (cwe_ W t) = true then et_ (cwe_ W t) else 0)) hat (by simp) rfl) ?_
      rw [hE, if_pos hpp.2, ← hnext]
      unfold xP_leadsTo_b57
      rw [nI_1]
      exact c1
theorem xP_leads_ok (hW : CW gl fx ad W st) (hR : RW Z W s) (hB : zB Z) (hp : zk_made Z p = true) (hp1 : 100 < p) (hpw : zh_ Z p = w) (href : zk_K Z ref) : xP_leadsTo gl (rf_ ad ref) (some (ad (16, p))) st = some (bi_ (z_meet Z w p 101 ref), st, 0, 0) := by
  obtain ⟨k, k1, k2, k3⟩ := zn_end hB.2.2.2.2.2.1 hB.2.1.1 w (zk_K2 hB.1 href)
  obtain ⟨c, c1, c2⟩ := xP_leads_it hW hR hB hp hp1 hpw href k1 k2 k3 (k - 0) 0 fu_ rfl (Nat.zero_le _) (by unfold fu_; omega)
  have : z_meet Z w p 101 ref = c := by
    rw [Bool.eq_iff_iff, zmeet_it k 101 ref (by omega) k2 k3, c2]
    constructor
    · rintro ⟨j, j1, j2⟩
      exact ⟨j, Nat.zero_le _, j1, j2⟩
    · rintro ⟨j, -, j1, j2⟩
      exact ⟨j, j1, j2⟩
  rw [this]
  exact c1
end CLD
