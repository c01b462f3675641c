/-! Bounds that a delivery keeps. -/
theorem nf_le {p p' : Nat → Bool} {k0 : Nat} (h : ∀ k, k ≠ k0 → p' k = p k) : ∀ (l : List Nat), l.Nodup → (l.filter p').length ≤ (l.filter p).length + 1
  | [], _ => by simp
  | k :: l, hn => by
    have hn2 := List.nodup_cons.mp hn
    by_cases hk : k = k0
    · have e1 : l.filter p' = l.filter p := List.filter_congr (fun x hx => h x (fun z => hn2.1 (by rw [hk, ← z]; exact hx)))
      rw [List.filter_cons, List.filter_cons, e1]
      split <;> split <;> simp
      omega
    · have ih := nf_le h l hn2.2
      rw [List.filter_cons, List.filter_cons, h k hk]
      split
      · simp only [List.length_cons]
        omega
      · exact ih
theorem zold_perm {a b : Nat} : ∀ {l : List zm_L} {r : zm_L} {m : List zm_L}, z_old a b l = some (r, m) → l.Perm (r :: m) ∧ r.2.1 = a ∧ r.2.2.1 = b
  | [], _, _, h => by cases h
  | x :: l, r, m, h => by
    unfold z_old at h
    split at h
    · rename_i hc
      cases h
      exact ⟨List.Perm.refl _, hc⟩
    · cases hq : z_old a b l with
      | none => rw [hq] at h; cases h
      | some y =>
        rw [hq] at h
        cases h
        obtain ⟨k1, k2⟩ := zold_perm (l := l) (r := y.1) (m := y.2) hq
        exact ⟨(List.Perm.cons x k1).trans (List.Perm.swap _ _ _), k2⟩
section ZDL
variable {Z X Y : zz_S} {lost : List Nat} {w u e q p a b f : Nat} {v : Int32} {l : List Nat} {d : Int}
theorem zwp_l (h : zk_w Z) {m : List zm_L} (hm : ∀ r ∈ m, r ∈ zl_ Z) : zk_w (zj_l Z m) := by
  obtain ⟨a1, a2, a3, a4, a5, a6⟩ := h
  exact ⟨a1, a2, fun r hr => a3 r (hm r hr), a4, fun r hr => a5 r (hm r hr), a6⟩
/-- an entity changed but for its home, whether it is gone, settled and to what -/
theorem zs_j {E : ze_E} (h1 : eh_ E = eh_ (ze_ Z f)) (h2 : eg_ E = eg_ (ze_ Z f)) (h3 : es_ E = es_ (ze_ Z f)) (h4 : et_ E = et_ (ze_ Z f)) : zs_ Z (zj_e Z f E) := fun x => by
  unfold zh_
  by_cases h : x = f
  · subst h
    rw [ze_s]
    exact ⟨h1, h2, h3, h4⟩
  · rw [ze_n h]
    exact ⟨rfl, rfl, rfl, rfl⟩
theorem zwp_j (h : zk_w Z) {E : ze_E} (h1 : eh_ E = eh_ (ze_ Z f)) (h2 : eg_ E = eg_ (ze_ Z f)) (h3 : es_ E = es_ (ze_ Z f)) (h4 : et_ E = et_ (ze_ Z f)) : zk_w (zj_e Z f E) := ⟨zs_e (zs_j h1 h2 h3 h4) h.1, h.2⟩
theorem zwp_i (h : zk_w Z) : zk_w (zj_e Z f (ej_i (ze_ Z f) b d)) := zwp_j h rfl rfl rfl rfl
theorem zwp_unpack (h : zk_w Z) (ha : a < 4) (hb : b < 4) (he : e ≤ 200) : zk_w (z_unpack Z a b e) := by
  unfold z_unpack
  split
  · exact h
  · dsimp only
    split
    · exact zwp_post (zwp_i h) (by decide) (by decide) hb (h.1 e he).1 he (by decide) (by decide) ⟨fun z => absurd (show (5:Nat) = 1 from z) (by decide), fun z => absurd (show (5:Nat) = 2 from z) (by decide), fun _ => ⟨a, ha, rfl⟩⟩
    · exact zwp_i h
theorem zun_a : za_ (z_unpack Z a b e) = za_ Z := by
  unfold z_unpack
  split
  · rfl
  · dsimp only
    split
    · show za_r (zr_ Z) ++ za_l (zl_ Z ++ [_]) = _
      rw [za_la, za_l1, if_neg (show ¬ (5 = 1) by decide), List.append_nil]
      rfl
    · rfl
theorem zc_n_i (hl : l.Nodup) (hb : b < 4) : zc_n l (ze_ (zj_e Z f (ej_i (ze_ Z f) b d))) ≤ zc_n l (ze_ Z) + 1 := by
  unfold zc_n
  refine nf_le (k0 := 4 * f + b) (fun k hk => ?_) l hl
  by_cases h : k / 4 = f
  · rw [h, ze_s]
    have hkb : k % 4 ≠ b := by omega
    show decide (0 < va_up (ei_ (ze_ Z f)) b d (k % 4)) = _
    rw [va_up_ne _ _ hkb]
  · rw [ze_n h]
theorem zphi_i (hl : l.Nodup) (hb : b < 4) : zphi_n l (zj_e Z f (ej_i (ze_ Z f) b d)) ≤ zphi_n l Z + 1 := by
  have := zc_n_i (Z := Z) (f := f) (d := d) hl hb
  have e1 : zphi_n l (zj_e Z f (ej_i (ze_ Z f) b d)) = ((zr_ Z).map zc_r).sum + ((zl_ Z).map zc_l).sum + zc_n l (ze_ (zj_e Z f (ej_i (ze_ Z f) b d))) + 5 * (100 - zp_ Z) := rfl
  rw [e1]
  unfold zphi_n
  omega
theorem zphi_unpack (hl : l.Nodup) (hb : b < 4) : zphi_n l (z_unpack Z a b e) ≤ zphi_n l Z + 2 := by
  unfold z_unpack
  split
  · omega
  · have := zphi_i (Z := Z) (f := e) (d := ei_ (ze_ Z e) b + 1) hl hb
    dsimp only
    split
    · rw [zphi_post, if_neg (by decide)]
      omega
    · omega
theorem zphi_m {r : zm_L} {m : List zm_L} (h : (zl_ Z).Perm (r :: m)) : zphi_n l (zj_l Z m) + zc_l r = zphi_n l Z := by
  have h1 := List.Perm.sum_nat (h.map zc_l)
  rw [List.map_cons, List.sum_cons] at h1
  have e1 : zphi_n l (zj_l Z m) = ((zr_ Z).map zc_r).sum + (m.map zc_l).sum + zc_n l (ze_ Z) + 5 * (100 - zp_ Z) := rfl
  rw [e1]
  unfold zphi_n
  omega
theorem za_lp {m n : List zm_L} (h : m.Perm n) : (za_l m).Perm (za_l n) := ((h.filter _).map _).filter _
theorem za_m {r : zm_L} {m : List zm_L} (h : (zl_ Z).Perm (r :: m)) : ((if r.1 = 1 then za_1 r.2.2.2.2.2.2 else []) ++ za_ (zj_l Z m)).Perm (za_ Z) := by
  show (_ ++ (za_r (zr_ Z) ++ za_l m)).Perm (za_r (zr_ Z) ++ za_l (zl_ Z))
  refine (List.perm_append_comm_assoc _ _ _).trans (List.Perm.append_left _ ?_)
  have h2 := za_lp h
  have e1 : za_l (r :: m) = za_l [r] ++ za_l m := by rw [← za_la]; rfl
  rw [e1, za_l1] at h2
  exact h2.symm
theorem zwp_pair (h : zk_w Z) : zk_w (z_pair Z a b e d) := by
  unfold z_pair
  dsimp only
  split
  · exact zwp_j h rfl rfl rfl rfl
  · exact zwp_j h rfl rfl rfl rfl
theorem zphi_j {E : ze_E} (h : ei_ E = ei_ (ze_ Z f)) : zphi_n l (zj_e Z f E) = zphi_n l Z := by
  have e1 : zphi_n l (zj_e Z f E) = ((zr_ Z).map zc_r).sum + ((zl_ Z).map zc_l).sum + zc_n l (ze_ (zj_e Z f E)) + 5 * (100 - zp_ Z) := rfl
  have e2 : zc_n l (ze_ (zj_e Z f E)) = zc_n l (ze_ Z) := by
    unfold zc_n
    congr 1
    refine List.filter_congr (fun k _ => ?_)
    by_cases hk : k / 4 = f
    · rw [hk, ze_s, h]
    · rw [ze_n hk]
  rw [e1, e2]
  rfl
theorem zphi_pair : zphi_n l (z_pair Z a b e d) = zphi_n l Z := by
  unfold z_pair
  dsimp only
  split
  · exact zphi_j rfl
  · exact zphi_j rfl
theorem zdone_0 : z_done w (Z, []) = Z := rfl
/-- bounds between calls -/
def zk_b (l : List Nat) (n : Nat) (Z : zz_S) : Prop := zk_w Z ∧ za_ok Z [] ∧ zphi_n l Z ≤ n
theorem zdone_w (hw : w < 4) (hk : zk_w Z) (ha : za_ok Z lost) : zk_b l (zphi_n l Z + 2 * lost.length) (z_done w (Z, lost)) := zmourn_w hw 101 Z lost [] hk ha
theorem zdeliver_w (hl : l.Nodup) {n : Nat} (h : zk_b l n Z) (ha : a < 4) (hb : b < 4) : zk_b l (n + 3) (z_deliver Z a b).1 := by
  obtain ⟨hk, hA, hn⟩ := h
  unfold z_deliver
  cases ho : z_old a b (zl_ Z) with
  | none => exact ⟨hk, hA, by dsimp only; omega⟩
  | some y =>
    obtain ⟨r, m⟩ := y
    obtain ⟨h1, h2, h3⟩ := zold_perm ho
    have hr : r ∈ zl_ Z := h1.mem_iff.mpr List.mem_cons_self
    obtain ⟨b1, b2, b3, b4, b5, b6, b7⟩ := hk.2.2.1 r hr
    obtain ⟨c1, c2, c3⟩ := hk.2.2.2.2.1 r hr
    have hkY : zk_w (z_unpack (zj_l Z m) a b r.2.2.2.2.2.1) := zwp_unpack (zwp_l hk (fun x hx => h1.mem_iff.mpr (List.mem_cons_of_mem _ hx))) ha hb b6
    have haY : za_ (z_unpack (zj_l Z m) a b r.2.2.2.2.2.1) = za_ (zj_l Z m) := zun_a
    have hpY := zphi_unpack (Z := zj_l Z m) (a := a) (e := r.2.2.2.2.2.1) hl hb
    have hpm := zphi_m (l := l) h1
    have ham := za_m h1
    dsimp only
    generalize z_unpack (zj_l Z m) a b r.2.2.2.2.2.1 = Z1 at hkY haY hpY
    rw [← haY] at ham
    generalize zphi_n l (zj_l Z m) = n0 at hpY hpm
    unfold zc_l at hpm
    by_cases k1 : r.1 = 1
    · rw [if_pos k1] at ham hpm
      rw [if_pos k1]
      have hq := c1 k1
      have hz1 : za_ok (z_go Z1 [] b r.2.2.2.1 r.2.2.2.2.1 r.2.2.2.2.2.1 r.2.2.2.2.2.2).1 (z_go Z1 [] b r.2.2.2.1 r.2.2.2.2.1 r.2.2.2.2.2.1 r.2.2.2.2.2.2).2 := za_okp hA (zgo_a.trans ham)
      have hz2 := zgo_phi (l := l) (Z := Z1) (lost := []) (w := b) (u := r.2.2.2.1) (v := r.2.2.2.2.1) (e := r.2.2.2.2.2.1) hq
      obtain ⟨g1, g2, g3⟩ := zdone_w (l := l) hb (zgo_w hkY hb b5 b6 b7 hq) hz1
      refine ⟨g1, g2, Nat.le_trans g3 ?_⟩
      simp only [List.length_nil] at hz2
      omega
    · rw [if_neg k1] at ham hpm
      rw [if_neg k1]
      have hA1 : za_ok Z1 [] := za_okp hA ham
      by_cases k2 : r.1 = 2
      · rw [if_pos k2]
        obtain ⟨w1, w2, w3⟩ := zsettle_w (l := l) (lost := []) hkY hb (p := r.2.2.2.1) (ref := r.2.2.2.2.2.1) (Or.inr (c2 k2)) b5 b6
        obtain ⟨g1, g2, g3⟩ := zdone_w (l := l) hb w1 (za_okp hA1 w2)
        refine ⟨g1, g2, Nat.le_trans g3 ?_⟩
        simp only [List.length_nil] at w3
        split at w3 <;> omega
      · rw [if_neg k2]
        by_cases k3 : r.1 = 3
        · rw [if_pos k3]
          exact ⟨zwp_x hkY, hA1, by rw [zphi_x]; omega⟩
        · rw [if_neg k3]
          split
          · refine ⟨zwp_pair hkY, ?_, by rw [zphi_pair]; omega⟩
            unfold z_pair
            exact hA1
          · refine ⟨zwp_pair hkY, ?_, by rw [zphi_pair]; omega⟩
            unfold z_pair
            exact hA1
end ZDL
