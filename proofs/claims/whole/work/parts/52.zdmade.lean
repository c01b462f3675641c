/-! References lead to what is made; what is not made is blank. -/
/-- a resting call: what it speaks of is there; at a vat for an object, or at the promise that it waits for -/
def zr_ok (K : Nat → Prop) (r : zr_R) : Prop := K r.2.1 ∧ K r.2.2.2.1 ∧ K r.2.2.2.2 ∧ ((r.1 < 4 ∧ 0 < r.2.1 ∧ r.2.1 ≤ 100) ∨ (100 < r.1 ∧ r.2.1 = r.1))
def zl_ok (K : Nat → Prop) (r : zm_L) : Prop := 0 < r.2.2.2.1 ∧ K r.2.2.2.1 ∧ K r.2.2.2.2.2.1 ∧ K r.2.2.2.2.2.2
def ze_ok (K : Nat → Prop) (E : ze_E) : Prop := K (et_ E) ∧ (∀ s, K (el_ E s)) ∧ ep_ E < 8
def zd_ (K : Nat → Prop) (Z : zz_S) : Prop := (∀ e, ze_ok K (ze_ Z e)) ∧ (∀ e, e = 0 ∨ ¬ K e → ze_ Z e = e0_) ∧ (∀ r ∈ zr_ Z, zr_ok K r) ∧ (∀ r ∈ zl_ Z, zl_ok K r)
/-- 0, or made -/
def zk_K (Z : zz_S) (e : Nat) : Prop := e = 0 ∨ zk_made Z e = true
section ZDM
variable {K : Nat → Prop} {Z X : zz_S} {lost pre : List Nat} {w u e q p a b f : Nat} {v : Int32} {d : Int}
theorem zd_mono {K' : Nat → Prop} (h : zd_ K Z) (hK : ∀ e, K e → K' e) : zd_ K' Z := by
  obtain ⟨h1, h2, h3, h4⟩ := h
  refine ⟨fun e => ⟨hK _ (h1 e).1, fun s => hK _ ((h1 e).2.1 s), (h1 e).2.2⟩, fun e he => h2 e (he.imp id (fun z c => z (hK e c))), fun r hr => ?_, fun r hr => ?_⟩
  · obtain ⟨k1, k2, k3, k4⟩ := h3 r hr
    exact ⟨hK _ k1, hK _ k2, hK _ k3, k4⟩
  · obtain ⟨k1, k2, k3, k4⟩ := h4 r hr
    exact ⟨k1, hK _ k2, hK _ k3, hK _ k4⟩
theorem zd_j (h : zd_ K Z) {E : ze_E} (hf : K f) (h0 : 0 < f) (hE : ze_ok K E) : zd_ K (zj_e Z f E) := by
  obtain ⟨h1, h2, h3, h4⟩ := h
  refine ⟨fun e => ?_, fun e he => ?_, h3, h4⟩
  · by_cases hef : e = f
    · subst hef
      rw [ze_s]
      exact hE
    · rw [ze_n hef]
      exact h1 e
  · have : e ≠ f := fun z => he.elim (fun c => by omega) (fun c => c (z ▸ hf))
    rw [ze_n this]
    exact h2 e he
theorem zd_r (h : zd_ K Z) {L : List zr_R} (hL : ∀ r ∈ L, zr_ok K r) : zd_ K (zj_r Z L) := ⟨h.1, h.2.1, hL, h.2.2.2⟩
theorem zd_l (h : zd_ K Z) {L : List zm_L} (hL : ∀ r ∈ L, zl_ok K r) : zd_ K (zj_l Z L) := ⟨h.1, h.2.1, h.2.2.1, hL⟩
theorem zd_post (h : zd_ K Z) {kind what : Nat} (h0 : 0 < what) (h1 : K what) (h2 : K e) (h3 : K q) : zd_ K (z_post Z kind a b what v e q) := by
  refine zd_l h (fun r hr => ?_)
  rcases List.mem_append.mp hr with hr | hr
  · exact h.2.2.2 r hr
  · rw [List.mem_singleton] at hr
    subst hr
    exact ⟨h0, h1, h2, h3⟩
theorem zd_x (h : zd_ K Z) (he : K f) (h0 : 0 < f) : zd_ K (zj_e Z f (ej_x (ze_ Z f) b d)) := zd_j h he h0 (h.1 f)
theorem zd_pack (h : zd_ K Z) (hK : K 0) (he : K e) : zd_ K (z_pack Z a b e) := by
  unfold z_pack
  split
  · exact h
  · split
    · exact zd_x h he (by omega)
    · split
      · exact zd_post h (by omega) he hK hK
      · exact h
theorem zd_unpack (h : zd_ K Z) (hK : K 0) (he : K e) : zd_ K (z_unpack Z a b e) := by
  unfold z_unpack
  split
  · exact h
  · have h1 : zd_ K (zj_e Z e (ej_i (ze_ Z e) b (ei_ (ze_ Z e) b + 1))) := zd_j h he (by omega) (h.1 e)
    dsimp only
    split
    · exact zd_post h1 (by omega) he hK hK
    · exact h1
theorem zd_pair (h : zd_ K Z) (he : K e) (h0 : 0 < e) : zd_ K (z_pair Z a b e d) := by
  unfold z_pair
  dsimp only
  split
  · exact zd_j h he h0 (h.1 e)
  · exact zd_j h he h0 (h.1 e)
theorem zd_follow (h : zd_ K Z) : ∀ (n t : Nat), K t → K (z_follow Z w n t)
  | 0, t, ht => ht
  | n + 1, t, ht => by
    unfold z_follow
    split
    · exact zd_follow h n _ (h.1 t).1
    · exact ht
theorem zd_go (h : zd_ K Z) (hK : K 0) (hw : w < 4) (hu : K u) (he : K e) (hq : K q) (hl : ∀ x ∈ lost, K x) : zd_ K (z_go Z lost w u v e q).1 ∧ ∀ x ∈ (z_go Z lost w u v e q).2, K x := by
  have ht := zd_follow (w := w) h 101 u hu
  unfold z_go
  generalize z_follow Z w 101 u = t at ht
  dsimp only
  split
  · refine ⟨h, fun x hx => ?_⟩
    split at hx
    · rcases List.mem_append.mp hx with hx | hx
      · exact hl x hx
      · rw [List.mem_singleton] at hx
        rw [hx]
        exact hq
    · exact hl x hx
  · rename_i hc
    have ht0 : 0 < t := by omega
    split
    · exact ⟨zd_post (zd_pack h hK he) ht0 ht he hq, hl⟩
    · refine ⟨zd_r h (fun r hr => ?_), hl⟩
      rcases List.mem_append.mp hr with hr | hr
      · exact h.2.2.1 r hr
      · rw [List.mem_singleton] at hr
        subst hr
        refine ⟨ht, he, hq, ?_⟩
        dsimp only
        split
        · exact Or.inr ⟨by assumption, rfl⟩
        · exact Or.inl ⟨hw, ht0, by omega⟩
theorem zd_fold (hK : K 0) (hw : w < 4) (hu : K u) : ∀ (m : List zr_R) (s : zz_S × List Nat), zd_ K s.1 → (∀ x ∈ s.2, K x) → (∀ r ∈ m, zr_ok K r) →
    zd_ K (m.foldl (fun s r => z_go s.1 s.2 w u r.2.2.1 r.2.2.2.1 r.2.2.2.2) s).1 ∧ ∀ x ∈ (m.foldl (fun s r => z_go s.1 s.2 w u r.2.2.1 r.2.2.2.1 r.2.2.2.2) s).2, K x
  | [], s, h1, h2, _ => ⟨h1, h2⟩
  | r :: m, s, h1, h2, h3 => by
    have hr := h3 r List.mem_cons_self
    obtain ⟨k1, k2⟩ := zd_go (v := r.2.2.1) h1 hK hw hu hr.2.1 hr.2.2.1 h2
    exact zd_fold hK hw hu m _ k1 k2 (fun x hx => h3 x (List.mem_cons_of_mem _ hx))
theorem zd_settle (h : zd_ K Z) (hK : K 0) (hw : w < 4) (hp : K p) {ref : Nat} (hr : K ref) (hl : ∀ x ∈ lost, K x) : zd_ K (z_settle Z lost w p ref).1 ∧ ∀ x ∈ (z_settle Z lost w p ref).2, K x := by
  unfold z_settle
  split
  · exact ⟨h, hl⟩
  · rename_i h0
    have hp0 : 0 < p := by omega
    split
    · exact ⟨zd_post (zd_pack h hK hr) hp0 hp hr hK, hl⟩
    · split
      · exact ⟨h, hl⟩
      · have hu : K (if z_meet Z w p 101 ref = true then 0 else ref) := by split <;> assumption
        generalize (if z_meet Z w p 101 ref = true then 0 else ref) = u at hu
        dsimp only
        refine zd_fold hK hw hu _ _ ?_ hl (fun r hr => h.2.2.1 r (List.mem_filter.mp hr).1)
        exact zd_r (zd_j (E := ej_s (ze_ Z p) u) h hp hp0 ⟨hu, (h.1 p).2⟩) (fun r hr => h.2.2.1 r (List.mem_filter.mp hr).1)
theorem zd_mourn (hK : K 0) (hw : w < 4) : ∀ (k : Nat) (Z : zz_S) (l : List Nat), zd_ K Z → (∀ x ∈ l, K x) → zd_ K (z_mourn w k Z l)
  | 0, _, _, h, _ => h
  | _ + 1, _, [], h, _ => h
  | k + 1, Z, q :: l, h, hl => by
    unfold z_mourn
    obtain ⟨k1, k2⟩ := zd_settle (p := q) (ref := 0) h hK hw (hl q List.mem_cons_self) hK (fun x hx => hl x (List.mem_cons_of_mem _ hx))
    exact zd_mourn hK hw k _ _ k1 k2
theorem zd_done (h : zd_ K Z) (hK : K 0) (hw : w < 4) (hl : ∀ x ∈ lost, K x) : zd_ K (z_done w (Z, lost)) := zd_mourn hK hw 101 Z lost h hl
/-! what go, settle and mourning leave alone -/
def zf_ (Z X : zz_S) : Prop := X.1 = Z.1 ∧ zg_ X = zg_ Z ∧ zt_ X = zt_ Z ∧ ∀ e, zh_ X e = zh_ Z e ∧ eg_ (ze_ X e) = eg_ (ze_ Z e) ∧ ep_ (ze_ X e) = ep_ (ze_ Z e) ∧ en_ (ze_ X e) = en_ (ze_ Z e) ∧ el_ (ze_ X e) = el_ (ze_ Z e) ∧ ei_ (ze_ X e) = ei_ (ze_ Z e) ∧ eo_ (ze_ X e) = eo_ (ze_ Z e)
theorem zf_i : zf_ Z Z := ⟨rfl, rfl, rfl, fun _ => ⟨rfl, rfl, rfl, rfl, rfl, rfl, rfl⟩⟩
theorem zf_t {Y : zz_S} (h1 : zf_ Z X) (h2 : zf_ X Y) : zf_ Z Y := by
  obtain ⟨a1, a2, a3, a4⟩ := h1
  obtain ⟨b1, b2, b3, b4⟩ := h2
  refine ⟨b1.trans a1, b2.trans a2, b3.trans a3, fun e => ?_⟩
  obtain ⟨c1, c2, c3, c4, c5, c6, c7⟩ := a4 e
  obtain ⟨d1, d2, d3, d4, d5, d6, d7⟩ := b4 e
  exact ⟨d1.trans c1, d2.trans c2, d3.trans c3, d4.trans c4, d5.trans c5, d6.trans c6, d7.trans c7⟩
theorem zf_j {E : ze_E} (h1 : eh_ E = eh_ (ze_ Z f)) (h2 : eg_ E = eg_ (ze_ Z f)) (h3 : ep_ E = ep_ (ze_ Z f)) (h4 : en_ E = en_ (ze_ Z f)) (h5 : el_ E = el_ (ze_ Z f)) (h6 : ei_ E = ei_ (ze_ Z f)) (h7 : eo_ E = eo_ (ze_ Z f)) : zf_ Z (zj_e Z f E) := by
  refine ⟨rfl, rfl, rfl, fun e => ?_⟩
  unfold zh_
  by_cases hef : e = f
  · subst hef
    rw [ze_s]
    exact ⟨h1, h2, h3, h4, h5, h6, h7⟩
  · rw [ze_n hef]
    exact ⟨rfl, rfl, rfl, rfl, rfl, rfl, rfl⟩
theorem zf_r {L : List zr_R} : zf_ Z (zj_r Z L) := ⟨rfl, rfl, rfl, fun _ => ⟨rfl, rfl, rfl, rfl, rfl, rfl, rfl⟩⟩
theorem zf_l {L : List zm_L} : zf_ Z (zj_l Z L) := ⟨rfl, rfl, rfl, fun _ => ⟨rfl, rfl, rfl, rfl, rfl, rfl, rfl⟩⟩
theorem zf_pack : zf_ Z (z_pack Z a b e) := by
  unfold z_pack
  split
  · exact zf_i
  · split
    · exact zf_j rfl rfl rfl rfl rfl rfl rfl
    · split
      · exact zf_l
      · exact zf_i
theorem zf_go : zf_ Z (z_go Z lost w u v e q).1 := by
  unfold z_go
  generalize z_follow Z w 101 u = t
  dsimp only
  split
  · exact zf_i
  · split
    · exact zf_t zf_pack zf_l
    · exact zf_r
theorem zf_fold : ∀ (m : List zr_R) (s : zz_S × List Nat), zf_ s.1 (m.foldl (fun s r => z_go s.1 s.2 w u r.2.2.1 r.2.2.2.1 r.2.2.2.2) s).1
  | [], _ => zf_i
  | r :: m, s => zf_t (zf_go (Z := s.1) (lost := s.2)) (zf_fold m _)
theorem zf_settle {ref : Nat} : zf_ Z (z_settle Z lost w p ref).1 := by
  unfold z_settle
  split
  · exact zf_i
  · split
    · exact zf_t zf_pack zf_l
    · split
      · exact zf_i
      · dsimp only
        refine zf_t (X := zj_r (zj_e Z p _) _) ?_ (zf_fold _ _)
        exact zf_t (zf_j (f := p) (E := ej_s (ze_ Z p) (if z_meet Z w p 101 ref = true then 0 else ref)) rfl rfl rfl rfl rfl rfl rfl) zf_r
theorem zf_mourn : ∀ (k : Nat) (Z : zz_S) (l : List Nat), zf_ Z (z_mourn w k Z l)
  | 0, _, _ => zf_i
  | _ + 1, _, [] => zf_i
  | k + 1, Z, q :: l => by
    unfold z_mourn
    exact zf_t zf_settle (zf_mourn k _ _)
theorem zf_done {s : zz_S × List Nat} : zf_ s.1 (z_done w s) := zf_mourn 101 s.1 s.2
theorem zk_KZ (h : X.1 = Z.1) : zk_K X = zk_K Z := by
  funext e
  unfold zk_K zk_made zo_ zp_
  rw [h]
end ZDM
