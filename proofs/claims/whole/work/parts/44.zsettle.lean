/-! Bounds that settle keeps. -/
section ZSE
variable {Z X Y : zz_S} {pre lost : List Nat} {w u e q p : Nat} {v : Int32} {L : List zr_R} {l : List Nat}
theorem za_rp {m n : List zr_R} (h : m.Perm n) : (za_r m).Perm (za_r n) := (h.map _).filter _
theorem zc_fold (hp : 100 < p) : ∀ (m : List zr_R), (∀ r ∈ m, 100 < r.1 → 0 < r.2.2.2.2) → ((m.filter (fun r => !(r.1 == p))).map zc_r).sum + 4 * (m.filter (fun r => r.1 == p)).length = (m.map zc_r).sum
  | [], _ => rfl
  | r :: m, h => by
    have ih := zc_fold hp m (fun x hx => h x (List.mem_cons_of_mem _ hx))
    have hr := h r List.mem_cons_self
    by_cases hc : r.1 = p
    · rw [List.filter_cons_of_neg (by simp [hc]), List.filter_cons_of_pos (by simp [hc]), List.length_cons, List.map_cons, List.sum_cons]
      have : zc_r r = 4 := by
        unfold zc_r
        rw [if_pos (hr (by omega)), if_pos (by omega)]
      omega
    · rw [List.filter_cons_of_pos (by simp [hc]), List.filter_cons_of_neg (by simp [hc]), List.map_cons, List.sum_cons, List.map_cons, List.sum_cons]
      omega
theorem zc_n_s {f : Nat} : zc_n l (ze_ (zj_e Z f (ej_s (ze_ Z f) u))) = zc_n l (ze_ Z) := by
  unfold zc_n
  congr 1
  refine List.filter_congr (fun k _ => ?_)
  by_cases h : k / 4 = f
  · rw [h, ze_s]
    rfl
  · rw [ze_n h]
theorem zsettle_w (h : zk_w Z) (hw : w < 4) {ref : Nat} (hp : p = 0 ∨ 100 < p) (hp2 : p ≤ 200) (href : ref ≤ 200) :
    zk_w (z_settle Z lost w p ref).1 ∧ ((z_settle Z lost w p ref).2 ++ za_ (z_settle Z lost w p ref).1).Perm (lost ++ za_ Z) ∧
    zphi_n l (z_settle Z lost w p ref).1 + 2 * (z_settle Z lost w p ref).2.length ≤ zphi_n l Z + 2 * lost.length + (if ref = 0 then 1 else 2) := by
  unfold z_settle
  by_cases h0 : p = 0
  · rw [if_pos h0]
    exact ⟨h, List.Perm.refl _, by dsimp only; omega⟩
  · rw [if_neg h0]
    have h100 : 100 < p := by omega
    by_cases h1 : zh_ Z p ≠ w
    · rw [if_pos h1]
      have hh := (h.1 p hp2).1
      refine ⟨zwp_post (zwp_pack h hw hh href) (by decide) (by decide) hw hh hp2 href (by decide) ⟨fun z => absurd (show (2:Nat) = 1 from z) (by decide), fun _ => h100, fun z => absurd (show (2:Nat) = 4 ∨ (2:Nat) = 5 from z) (by decide)⟩, ?_, ?_⟩
      · show (lost ++ (za_r (zr_ (z_pack Z w (zh_ Z p) ref)) ++ za_l (zl_ (z_pack Z w (zh_ Z p) ref) ++ [_]))).Perm _
        rw [zpk_r, za_la, zpk_l, za_l1, if_neg (show ¬ (2 = 1) by decide), List.append_nil]
        exact List.Perm.refl _
      · dsimp only
        rw [zphi_post, if_neg (by decide)]
        by_cases hr0 : ref = 0
        · rw [if_pos hr0]
          have : z_pack Z w (zh_ Z p) ref = Z := by unfold z_pack; rw [if_pos hr0]
          rw [this]
          omega
        · rw [if_neg hr0]
          have := zphi_pack (Z := Z) (l := l) (a := w) (b := zh_ Z p) (e := ref)
          omega
    · rw [if_neg h1]
      by_cases h2 : eg_ (ze_ Z p) = true ∨ es_ (ze_ Z p) = true
      · rw [if_pos h2]
        exact ⟨h, List.Perm.refl _, by dsimp only; omega⟩
      · rw [if_neg h2]
        obtain ⟨u, hu⟩ : ∃ u, u = if z_meet Z w p 101 ref = true then 0 else ref := ⟨_, rfl⟩
        have hu2 : u ≤ 200 := by rw [hu]; split <;> omega
        dsimp only
        rw [← hu]
        obtain ⟨a1, a2, a3, a4, a5, a6⟩ := h
        have hk : zk_w (zj_r (zj_e Z p (ej_s (ze_ Z p) u)) ((zr_ Z).filter (fun r => !(r.1 == p)))) := by
          refine ⟨fun f hf => ?_, fun r hr => a2 r (List.mem_filter.mp hr).1, a3, fun r hr => a4 r (List.mem_filter.mp hr).1, a5, ?_⟩
          · show eh_ (ze_ (zj_e Z p (ej_s (ze_ Z p) u)) f) < 4 ∧ et_ (ze_ (zj_e Z p (ej_s (ze_ Z p) u)) f) ≤ 200
            by_cases hfp : f = p
            · subst hfp
              rw [ze_s]
              exact ⟨(a1 f hf).1, hu2⟩
            · rw [ze_n hfp]
              exact a1 f hf
          · show (((zr_ Z).filter _).filter _).length ≤ 80
            refine Nat.le_trans (List.Sublist.length_le (List.Sublist.filter _ List.filter_sublist)) a6
        have hm : ∀ r ∈ (zr_ Z).filter (fun r => r.1 == p), r.2.2.2.1 ≤ 200 ∧ r.2.2.2.2 ≤ 200 ∧ 0 < r.2.2.2.2 := by
          intro r hr
          obtain ⟨b1, b2⟩ := List.mem_filter.mp hr
          have b3 : r.1 = p := by simpa using b2
          exact ⟨(a2 r b1).2.2.1, (a2 r b1).2.2.2, a4 r b1 (by omega)⟩
        obtain ⟨k1, -, k3, k4⟩ := zfold_w (l := l) hw hu2 ((zr_ Z).filter (fun r => r.1 == p)) _ lost hk hm
        refine ⟨k1, k3.trans ?_, Nat.le_trans k4 ?_⟩
        · show (za_r ((zr_ Z).filter _) ++ (lost ++ (za_r ((zr_ Z).filter _) ++ za_l (zl_ Z)))).Perm (lost ++ (za_r (zr_ Z) ++ za_l (zl_ Z)))
          refine (List.perm_append_comm_assoc _ _ _).trans ?_
          refine List.Perm.append_left _ ?_
          rw [← List.append_assoc]
          refine List.Perm.append_right _ ?_
          rw [← za_ra]
          exact za_rp (List.filter_append_perm _ _)
        · have e1 := zc_fold h100 (zr_ Z) a4
          have e2 : zphi_n l (zj_r (zj_e Z p (ej_s (ze_ Z p) u)) ((zr_ Z).filter (fun r => !(r.1 == p)))) = (((zr_ Z).filter (fun r => !(r.1 == p))).map zc_r).sum + ((zl_ Z).map zc_l).sum + zc_n l (ze_ (zj_e Z p (ej_s (ze_ Z p) u))) + 5 * (100 - zp_ Z) := rfl
          rw [e2, zc_n_s]
          unfold zphi_n
          omega
end ZSE
