/-! The class: a promise is resolved. -/
section CRS
variable {gl : gl_T} {fx : fx_T} {ad : Nat × Nat → Nat} {W W' : cw_W} {st : st_S} {Z X : zz_S} {e a b s v L g u q t h p w ref : Nat} {x : Int32} {lost : List Nat}
theorem zgo_p (hn : zn_r Z) (hz : zw_e Z) (hp : p ≤ 200) (hpass : zk_pass Z w p = true) : z_go Z lost w p x e q = z_go Z lost w (et_ (ze_ Z p)) x e q := by
  obtain ⟨k, k1, k2, k3⟩ := zn_end hn hz w hp
  have hk : k ≠ 0 := fun c => by
    subst c
    rw [show z_it Z 0 p = p from rfl, hpass] at k3
    cases k3
  obtain ⟨m, rfl⟩ : ∃ m, k = m + 1 := ⟨k - 1, by omega⟩
  have e1 := zfollow_it (Z := Z) (w := w) (m + 1) 101 p (by omega) k2 k3
  have e2 := zfollow_it (Z := Z) (w := w) m 101 (et_ (ze_ Z p)) (by omega) (fun j hj => k2 (j + 1) (by omega)) k3
  have e3 : z_follow Z w 101 p = z_follow Z w 101 (et_ (ze_ Z p)) := e1.trans e2.symm
  unfold z_go
  rw [e3]
theorem zgo_np (hn : zn_r Z) (hz : zw_e Z) (hu : u ≤ 200) (hw : w < 4) (hp : 100 < p) (hpass : zk_pass Z w p = true) (h : ∀ r ∈ zr_ Z, r.1 ≠ p) : ∀ r ∈ zr_ (z_go Z lost w u x e q).1, r.1 ≠ p := by
  obtain ⟨k, k1, k2, k3⟩ := zn_end hn hz w hu
  have e1 := zfollow_it (Z := Z) (w := w) k 101 u (by omega) k2 k3
  rw [← e1] at k3
  intro r hr
  rcases zgo_r (Z := Z) (lost := lost) (w := w) (u := u) (v := x) (e := e) (q := q) with c | c
  · rw [c] at hr
    exact h r hr
  · rw [c] at hr
    rcases List.mem_append.mp hr with hr | hr
    · exact h r hr
    · rw [List.mem_singleton] at hr
      rw [hr]
      dsimp only
      split
      · intro z
        rw [z, hpass] at k3
        cases k3
      · omega
theorem za_pend {qs : List Nat} (h0 : 0 < q) (ha : za_ok Z (lost ++ q :: qs)) : za_ok (z_go Z lost w u x e q).1 ((z_go Z lost w u x e q).2 ++ qs) := by
  refine za_okp ha ?_
  have h1 := zgo_a (Z := Z) (lost := lost) (w := w) (u := u) (v := x) (e := e) (q := q)
  have e1 : za_1 q = [q] := by unfold za_1; rw [if_pos h0]
  rw [e1] at h1
  rw [List.append_assoc, List.append_assoc]
  refine (List.perm_append_comm_assoc _ _ _).trans ?_
  refine (List.Perm.append_left qs h1).trans ?_
  refine (List.perm_append_comm_assoc qs [q] _).trans ?_
  refine (List.Perm.append_left [q] (List.perm_append_comm_assoc qs lost _)).trans ?_
  exact List.perm_append_comm_assoc [q] lost (qs ++ za_ Z)
theorem fa_of (hR : RW Z W s) (hc : cwC_ W a = some (t, x, e, q)) (h0 : 0 < q) (hq : q ∉ za_ Z) : fa_ W s (zn_ Z) a := by
  refine ⟨fun L hv hL hLs ha => hq ?_, fun c d hc' hd y hy m hm hma => hq ?_⟩
  · have h1 := hR.2.2.2.2.2.1 L hv hL hLs
    have h2 : cwC_ W a ∈ (cwl_ W L).map (cwC_ W) := List.mem_map.mpr ⟨a, ha, rfl⟩
    rw [h1, hc] at h2
    obtain ⟨r, hr, h3⟩ := List.mem_map.mp h2
    refine List.mem_append_left _ (List.mem_filter.mpr ⟨List.mem_map.mpr ⟨r, (List.mem_filter.mp hr).1, ?_⟩, by simp; exact h0⟩)
    have := congrArg (fun z => z.2.2.2) (Option.some.inj h3)
    exact this
  · have h1 := hR.2.2.2.2.2.2.1 c d hc' hd
    have h2 : mwv_ W y ∈ (cwl_ W (4 + (4 * c + d))).map (mwv_ W) := List.mem_map.mpr ⟨y, hy, rfl⟩
    have h4 : mwv_ W y = some (m.1, m.2.1, m.2.2.1, m.2.2.2.1, some (some (t, x, e, q))) := by
      unfold mwv_
      rw [hm]
      show some (_, _, _, _, m.2.2.2.2.map (cwC_ W)) = _
      rw [hma]
      show some (_, _, _, _, some (cwC_ W a)) = _
      rw [hc]
    rw [h1, h4] at h2
    obtain ⟨r, hr, h3⟩ := List.mem_map.mp h2
    have h5 := congrArg (fun z => z.2.2.2.2) (Option.some.inj h3)
    have h5 : (if r.1 = 1 then some (some (r.2.2.2.1, r.2.2.2.2.1, r.2.2.2.2.2.1, r.2.2.2.2.2.2)) else none) = some (some (t, x, e, q)) := h5
    split at h5
    · rename_i hr1
      have h6 := congrArg (fun z => z.2.2.2) (Option.some.inj (Option.some.inj h5))
      have h6 : r.2.2.2.2.2.2 = q := h6
      refine List.mem_append_right _ (List.mem_filter.mpr ⟨List.mem_map.mpr ⟨r, List.mem_filter.mpr ⟨(List.mem_filter.mp hr).1, by rw [hr1]; rfl⟩, h6⟩, by simp; exact h0⟩)
    · cases h5
/-- the calls at p are taken out; their list is being emptied -/
theorem RW_sus (hR : RW Z W 50) : RW (zj_r Z ((zr_ Z).filter (fun r => !(r.1 == p)))) W p := by
  obtain ⟨h1, h2, h3, h4, h5, h6, h7, h8⟩ := hR
  refine ⟨h1, h2, h3, h4, h5, fun L hL hL2 hLp => ?_, h7, h8⟩
  have := h6 L hL hL2 (by omega)
  unfold rwl_ at this ⊢
  rw [this]
  show _ = (((zr_ Z).filter (fun r => !(r.1 == p))).filter (fun r => r.1 == L)).map _
  rw [List.filter_filter]
  congr 1
  refine List.filter_congr (fun r _ => ?_)
  by_cases c : r.1 = L
  · rw [c]
    have : (L == p) = false := beq_false_of_ne hLp
    simp [this]
  · simp [c]
theorem RW_clear (hR : RW Z W p) (hz : zw_n Z) (hp : 100 < p) (hn : ∀ r ∈ zr_ Z, r.1 ≠ p) {mc : Int32} {ea : Nat} : RW Z (cj_k (cj_l W p []) p ((cwk_ W p).1, mc, ea)) 50 := by
  obtain ⟨h1, h2, h3, h4, h5, h6, h7, h8⟩ := hR
  have hl : ∀ K, K ≠ p → cwl_ (cj_k (cj_l W p []) p ((cwk_ W p).1, mc, ea)) K = cwl_ W K := fun K hK => va_up_ne _ _ hK
  have hl2 : cwl_ (cj_k (cj_l W p []) p ((cwk_ W p).1, mc, ea)) p = [] := va_up_self _ _ _
  have hk : ∀ K, (cwk_ (cj_k (cj_l W p []) p ((cwk_ W p).1, mc, ea)) K).1 = (cwk_ W K).1 := fun K => by
    show (va_up (cwk_ W) p ((cwk_ W p).1, mc, ea) K).1 = _
    unfold va_up
    split
    · rename_i c
      rw [c]
    · rfl
  refine ⟨h1, h2, h3, h4, h5, fun L hL hL2 _ => ?_, fun c d hc hd => ?_, fun L hL => ?_⟩
  · unfold rwl_
    by_cases c : L = p
    · subst c
      rw [hl2, List.filter_eq_nil_iff.mpr (fun r hr => by simp; exact hn r hr)]
      rfl
    · rw [hl L c]
      exact h6 L hL hL2 c
  · have := h7 c d hc hd
    unfold rwc_ at this ⊢
    have hn4 := hz.2.1
    rw [hl _ (by omega)]
    exact this
  · obtain ⟨w1, w2, w3⟩ := h8 L hL
    rw [hk L]
    by_cases c : L = p
    · subst c
      rw [hl2]
      exact ⟨Nat.zero_le _, w2, fun y hy => by cases hy⟩
    · rw [hl L c]
      exact ⟨w1, w2, w3⟩
end CRS
