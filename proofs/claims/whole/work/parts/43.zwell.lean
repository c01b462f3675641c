/-! Bounds that calls keep: go, settle. -/
/-- a message's numbers fit its kind -/
def zc_ok (r : zm_L) : Prop := (r.1 = 1 → 0 < r.2.2.2.2.2.2) ∧ (r.1 = 2 → 100 < r.2.2.2.1) ∧ (r.1 = 4 ∨ r.1 = 5 → ∃ b, b < 4 ∧ r.2.2.2.2.1 = nI b)
/-- numbers within their bounds; calls at promises and calls that fly have answers; few pokes rest -/
def zk_w (Z : zz_S) : Prop := zw_e Z ∧ zw_r Z ∧ zw_l Z ∧ (∀ r ∈ zr_ Z, 100 < r.1 → 0 < r.2.2.2.2) ∧ (∀ r ∈ zl_ Z, zc_ok r) ∧ ((zr_ Z).filter (fun r => r.2.2.2.2 == 0)).length ≤ 80
section ZWE
variable {Z X Y : zz_S} {pre lost : List Nat} {w u e q p : Nat} {v : Int32} {L : List zr_R} {l : List Nat}
theorem zwp_post (h : zk_w Z) {kind a b what : Nat} (h1 : 1 ≤ kind) (h5 : kind ≤ 5) (ha : a < 4) (hb : b < 4) (hw : what ≤ 200) (he : e ≤ 200) (hq : q ≤ 200) (hk : zc_ok (kind, a, b, what, v, e, q)) : zk_w (z_post Z kind a b what v e q) := by
  obtain ⟨a1, a2, a3, a4, a5, a6⟩ := h
  refine ⟨a1, a2, fun r hr => ?_, a4, fun r hr => ?_, a6⟩
  · rcases List.mem_append.mp (show r ∈ zl_ Z ++ [(kind, a, b, what, v, e, q)] from hr) with hr | hr
    · exact a3 r hr
    · rw [List.mem_singleton] at hr
      subst hr
      exact ⟨h1, h5, ha, hb, hw, he, hq⟩
  · rcases List.mem_append.mp (show r ∈ zl_ Z ++ [(kind, a, b, what, v, e, q)] from hr) with hr | hr
    · exact a5 r hr
    · rw [List.mem_singleton] at hr
      subst hr
      exact hk
theorem zwp_x (h : zk_w Z) {f b : Nat} {d : Int} : zk_w (zj_e Z f (ej_x (ze_ Z f) b d)) := ⟨zs_e zs_x h.1, h.2⟩
theorem zwp_pack (h : zk_w Z) {a b : Nat} (ha : a < 4) (hb : b < 4) (he : e ≤ 200) : zk_w (z_pack Z a b e) := by
  unfold z_pack
  split
  · exact h
  · split
    · exact zwp_x h
    · split
      · exact zwp_post h (by decide) (by decide) ha (h.1 e he).1 he (by decide) (by decide) ⟨fun z => absurd (show (4:Nat) = 1 from z) (by decide), fun z => absurd (show (4:Nat) = 2 from z) (by decide), fun _ => ⟨b, hb, rfl⟩⟩
      · exact h
theorem zwp_r (h : zk_w Z) {r : zr_R} (h1 : r.1 ≤ 200) (h2 : r.2.1 ≤ 200) (h3 : r.2.2.2.1 ≤ 200) (h4 : r.2.2.2.2 ≤ 200) (h5 : 0 < r.2.2.2.2) : zk_w (zj_r Z (zr_ Z ++ [r])) := by
  obtain ⟨a1, a2, a3, a4, a5, a6⟩ := h
  refine ⟨a1, fun x hx => ?_, a3, fun x hx => ?_, a5, ?_⟩
  · rcases List.mem_append.mp (show x ∈ zr_ Z ++ [r] from hx) with hx | hx
    · exact a2 x hx
    · rw [List.mem_singleton] at hx
      subst hx
      exact ⟨h1, h2, h3, h4⟩
  · rcases List.mem_append.mp (show x ∈ zr_ Z ++ [r] from hx) with hx | hx
    · exact a4 x hx
    · rw [List.mem_singleton] at hx
      subst hx
      exact fun _ => h5
  · show ((zr_ Z ++ [r]).filter _).length ≤ 80
    rw [List.filter_append, List.filter_cons_of_neg (by simp; omega), List.filter_nil, List.append_nil]
    exact a6
theorem zgo_w (h : zk_w Z) (hw : w < 4) (hu : u ≤ 200) (he : e ≤ 200) (hq : q ≤ 200) (h0 : 0 < q) : zk_w (z_go Z lost w u v e q).1 := by
  have ht := z_follow_le h.1 (h := w) 101 u hu
  unfold z_go
  generalize z_follow Z w 101 u = t at ht
  dsimp only
  split
  · exact h
  · split
    · exact zwp_post (zwp_pack h hw (h.1 t ht).1 he) (by decide) (by decide) hw (h.1 t ht).1 ht he hq ⟨fun _ => h0, fun z => absurd (show (1:Nat) = 2 from z) (by decide), fun z => absurd (show (1:Nat) = 4 ∨ (1:Nat) = 5 from z) (by decide)⟩
    · refine zwp_r h ?_ ht he hq h0
      dsimp only
      split
      · exact ht
      · omega
/-- calls go on, one after another -/
theorem zfold_w (hw : w < 4) (hu : u ≤ 200) : ∀ (m : List zr_R) (Z : zz_S) (lost : List Nat), zk_w Z → (∀ r ∈ m, r.2.2.2.1 ≤ 200 ∧ r.2.2.2.2 ≤ 200 ∧ 0 < r.2.2.2.2) →
    zk_w (m.foldl (fun s r => z_go s.1 s.2 w u r.2.2.1 r.2.2.2.1 r.2.2.2.2) (Z, lost)).1 ∧
    zs_ Z (m.foldl (fun s r => z_go s.1 s.2 w u r.2.2.1 r.2.2.2.1 r.2.2.2.2) (Z, lost)).1 ∧
    ((m.foldl (fun s r => z_go s.1 s.2 w u r.2.2.1 r.2.2.2.1 r.2.2.2.2) (Z, lost)).2 ++ za_ (m.foldl (fun s r => z_go s.1 s.2 w u r.2.2.1 r.2.2.2.1 r.2.2.2.2) (Z, lost)).1).Perm (za_r m ++ (lost ++ za_ Z)) ∧
    zphi_n l (m.foldl (fun s r => z_go s.1 s.2 w u r.2.2.1 r.2.2.2.1 r.2.2.2.2) (Z, lost)).1 + 2 * (m.foldl (fun s r => z_go s.1 s.2 w u r.2.2.1 r.2.2.2.1 r.2.2.2.2) (Z, lost)).2.length ≤ zphi_n l Z + 2 * lost.length + 4 * m.length
  | [], Z, lost, h, _ => ⟨h, zs_i, List.Perm.refl _, Nat.le_refl _⟩
  | r :: m, Z, lost, h, hm => by
    rw [List.foldl_cons]
    obtain ⟨r1, r2, r3⟩ := hm r (List.mem_cons_self)
    have g1 := zgo_w (lost := lost) (v := r.2.2.1) h hw hu r1 r2 r3
    have g2 : zs_ Z (z_go Z lost w u r.2.2.1 r.2.2.2.1 r.2.2.2.2).1 := zgo_s
    have g3 : ((z_go Z lost w u r.2.2.1 r.2.2.2.1 r.2.2.2.2).2 ++ za_ (z_go Z lost w u r.2.2.1 r.2.2.2.1 r.2.2.2.2).1).Perm (za_1 r.2.2.2.2 ++ (lost ++ za_ Z)) := zgo_a
    have g4 := zgo_phi (l := l) (Z := Z) (lost := lost) (w := w) (u := u) (v := r.2.2.1) (e := r.2.2.2.1) r3
    obtain ⟨k1, k2, k3, k4⟩ := zfold_w hw hu m (z_go Z lost w u r.2.2.1 r.2.2.2.1 r.2.2.2.2).1 (z_go Z lost w u r.2.2.1 r.2.2.2.1 r.2.2.2.2).2 g1 (fun x hx => hm x (List.mem_cons_of_mem _ hx))
    refine ⟨k1, zs_t g2 k2, ?_, ?_⟩
    · refine k3.trans ?_
      have e1 : za_r (r :: m) = za_1 r.2.2.2.2 ++ za_r m := by rw [← za_r1, ← za_ra]; rfl
      rw [e1]
      refine (List.Perm.append_left _ g3).trans ?_
      rw [List.append_assoc]
      exact List.perm_append_comm_assoc _ _ _
    · rw [List.length_cons]
      refine Nat.le_trans k4 ?_
      omega
end ZWE
