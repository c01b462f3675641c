/-! Counts of references: what is used elsewhere is wanted at home. -/
/-- carries of e from a to b -/
def gc_c (e a b : Nat) (r : zm_L) : Int := if (r.1 = 1 ∨ r.1 = 2) ∧ r.2.1 = a ∧ r.2.2.1 = b ∧ r.2.2.2.2.2.1 = e then 1 else 0
/-- gifts of e by a for b, less redeems -/
def gc_q (e a b : Nat) (r : zm_L) : Int := if r.1 = 4 ∧ r.2.1 = a ∧ r.2.2.2.1 = e ∧ r.2.2.2.2.1 = nI b then 1 else if r.1 = 5 ∧ r.2.1 = b ∧ r.2.2.2.1 = e ∧ r.2.2.2.2.1 = nI a then -1 else 0
/-- redeems of e by b, less what b lets go -/
def gc_p (e b : Nat) (r : zm_L) : Int := if r.1 = 5 ∧ r.2.1 = b ∧ r.2.2.2.1 = e then 1 else if r.1 = 3 ∧ r.2.1 = b ∧ r.2.2.2.1 = e then -r.2.2.2.2.1.toInt else 0
/-- a message of b to h, the home of e, that uses e -/
def gc_u (e h b : Nat) (r : zm_L) : Prop := r.2.1 = b ∧ r.2.2.1 = h ∧ ((r.1 = 1 ∧ r.2.2.2.1 = e) ∨ ((r.1 = 1 ∨ r.1 = 2) ∧ r.2.2.2.2.2.1 = e) ∨ (r.1 = 4 ∧ r.2.2.2.1 = e))
def gc_g (e a : Nat) (r : zm_L) : Prop := r.1 = 4 ∧ r.2.1 = a ∧ r.2.2.2.1 = e
def gs_ (f : zm_L → Int) (L : List zm_L) : Int := (L.map f).sum
/-- along the messages, the sum of f so far is m at least wherever u holds -/
def gw_ (f : zm_L → Int) (u : zm_L → Prop) (m : Int) : Int → List zm_L → Prop
  | _, [] => True
  | c, r :: L => (u r → m ≤ c) ∧ gw_ f u m (c + f r) L
section GWL
variable {f : zm_L → Int} {u : zm_L → Prop} {m c c' : Int}
theorem gs_a (L K : List zm_L) : gs_ f (L ++ K) = gs_ f L + gs_ f K := by
  unfold gs_
  rw [List.map_append, List.sum_append]
theorem gs_1 (r : zm_L) : gs_ f [r] = f r := by simp [gs_]
theorem gs_c (r : zm_L) (L : List zm_L) : gs_ f (r :: L) = f r + gs_ f L := by simp [gs_]
theorem gs_0 {L : List zm_L} (h : ∀ r ∈ L, f r = 0) : gs_ f L = 0 := by
  induction L with
  | nil => rfl
  | cons r L ih => rw [gs_c, h r List.mem_cons_self, ih (fun x hx => h x (List.mem_cons_of_mem _ hx))]; rfl
theorem gs_pos {L : List zm_L} (h : ∀ r ∈ L, 0 ≤ f r) : 0 ≤ gs_ f L := by
  induction L with
  | nil => exact Int.le_refl _
  | cons r L ih =>
    rw [gs_c]
    have := h r List.mem_cons_self
    have := ih (fun x hx => h x (List.mem_cons_of_mem _ hx))
    omega
theorem gs_neg {L : List zm_L} (h : ∀ r ∈ L, f r ≤ 0) : gs_ f L ≤ 0 := by
  induction L with
  | nil => exact Int.le_refl _
  | cons r L ih =>
    rw [gs_c]
    have := h r List.mem_cons_self
    have := ih (fun x hx => h x (List.mem_cons_of_mem _ hx))
    omega
theorem gs_neg1 {L : List zm_L} (h : ∀ r ∈ L, f r ≤ 0) {x : zm_L} (hx : x ∈ L) : gs_ f L ≤ f x := by
  induction L with
  | nil => cases hx
  | cons r L ih =>
    rw [gs_c]
    rcases List.mem_cons.mp hx with rfl | hx
    · have := gs_neg (f := f) (L := L) (fun y hy => h y (List.mem_cons_of_mem _ hy))
      omega
    · have := h r List.mem_cons_self
      have := ih (fun y hy => h y (List.mem_cons_of_mem _ hy)) hx
      omega
theorem gw_mono : ∀ (L : List zm_L) {c c' : Int}, c ≤ c' → gw_ f u m c L → gw_ f u m c' L
  | [], _, _, _, _ => trivial
  | r :: L, c, c', hc, h => ⟨fun hu => Int.le_trans (h.1 hu) hc, gw_mono L (by omega) h.2⟩
theorem gw_app : ∀ (L : List zm_L) (c : Int) (r : zm_L), gw_ f u m c L → (u r → m ≤ c + gs_ f L) → gw_ f u m c (L ++ [r])
  | [], c, r, _, h => ⟨fun hu => by have := h hu; simp [gs_] at this; exact this, trivial⟩
  | x :: L, c, r, h1, h2 => ⟨h1.1, gw_app L (c + f x) r h1.2 (fun hu => by have := h2 hu; rw [gs_c] at this; omega)⟩
theorem gw_del (x : zm_L) (B : List zm_L) : ∀ (A : List zm_L) (c : Int), (f x < 0 → ∀ y ∈ A, ¬ u y) → gw_ f u m c (A ++ x :: B) → gw_ f u m (c + f x) (A ++ B)
  | [], c, _, h => h.2
  | y :: A, c, hA, h => by
    refine ⟨fun hu => ?_, ?_⟩
    · have h1 := h.1 hu
      by_cases hx : f x < 0
      · exact absurd hu (hA hx y List.mem_cons_self)
      · omega
    · have := gw_del x B A (c + f y) (fun hx z hz => hA hx z (List.mem_cons_of_mem _ hz)) h.2
      rw [show c + f x + f y = c + f y + f x by omega]
      exact this
theorem gw_pre : ∀ (L1 : List zm_L) (c : Int) (r : zm_L) (L2 : List zm_L), gw_ f u m c (L1 ++ r :: L2) → u r → m ≤ c + gs_ f L1
  | [], c, r, L2, h, hu => by have := h.1 hu; simp [gs_]; exact this
  | x :: L1, c, r, L2, h, hu => by
    have := gw_pre L1 (c + f x) r L2 h.2 hu
    rw [gs_c]
    omega
theorem gw_0 : ∀ (L : List zm_L) (c : Int), (∀ r ∈ L, ¬ u r) → gw_ f u m c L
  | [], _, _ => trivial
  | r :: L, c, h => ⟨fun hu => absurd hu (h r List.mem_cons_self), gw_0 L _ (fun x hx => h x (List.mem_cons_of_mem _ hx))⟩
end GWL
def zm0 (x : Int) : Int := if x < 0 then -x else 0
/-- exports of e to b, and its redeems that wait for their gifts -/
def gc_0 (E : ze_E) (b : Nat) : Int := ex_ E b + (zm0 (eo_ E 0 b) + zm0 (eo_ E 1 b) + zm0 (eo_ E 2 b) + zm0 (eo_ E 3 b))
/-- the counts of an entity E of number e, with the messages L -/
def gj_ (e : Nat) (E : ze_E) (L : List zm_L) : Prop :=
  (∀ b, b < 4 → b ≠ eh_ E → gc_0 E b + gs_ (gc_p e b) L = ei_ E b + gs_ (gc_c e (eh_ E) b) L) ∧
  (∀ a b, a < 4 → b < 4 → a ≠ eh_ E → b ≠ eh_ E → eo_ E a b + gs_ (gc_q e a b) L = gs_ (gc_c e a b) L) ∧
  (∀ b, b < 4 → b ≠ eh_ E → gw_ (gc_p e b) (gc_u e (eh_ E) b) 1 (gc_0 E b) L) ∧
  (∀ a b, a < 4 → b < 4 → a ≠ eh_ E → b ≠ eh_ E → gw_ (gc_q e a b) (gc_g e b) 0 (eo_ E a b) L) ∧
  (ex_ E (eh_ E) = 0 ∧ ei_ E (eh_ E) = 0 ∧ (∀ b, b < 4 → 0 ≤ ei_ E b) ∧ ∀ a b, a < 4 → b < 4 → a = eh_ E ∨ b = eh_ E → eo_ E a b = 0)
/-- other vats may know of E -/
def gc_w (E : ze_E) : Prop := (∃ b, b < 4 ∧ 0 < ex_ E b) ∨ ∃ a b, a < 4 ∧ b < 4 ∧ 0 < eo_ E a b
/-- a message goes to the home of what it is about -/
def mw_ (Z : zz_S) (r : zm_L) : Prop := r.2.1 ≠ r.2.2.1 ∧ zh_ Z r.2.2.2.1 = r.2.2.1 ∧ (r.1 = 3 → 0 < r.2.2.2.2.1.toInt) ∧ (r.1 = 4 ∨ r.1 = 5 → r.2.2.2.2.1 ≠ nI r.2.2.1) ∧ (3 ≤ r.1 → r.2.2.2.2.2.1 = 0)
section GCW
variable {e : Nat} {E : ze_E} {L : List zm_L} {Z : zz_S}
theorem gc_c_pos {a b : Nat} : 0 ≤ gs_ (gc_c e a b) L := gs_pos (fun r _ => by unfold gc_c; split <;> omega)
/-- a prefix L1 of the messages of which b's part shows one more of e than is let go, all its redeems having met gifts that wait: e is wanted -/
theorem gc_pre {L1 : List zm_L} {b : Nat} (hb : b < 4) (hm : ∀ r ∈ L1, zc_ok r ∧ (r.1 = 3 → 0 < r.2.2.2.2.1.toInt) ∧ (r.1 = 5 → r.2.2.2.1 = e → r.2.2.2.2.1 ≠ nI (eh_ E)))
    (h0 : ∀ a, a < 4 → a = eh_ E → eo_ E a b = 0) (h1 : 1 ≤ gc_0 E b + gs_ (gc_p e b) L1) (h2 : ∀ a, a < 4 → a ≠ eh_ E → 0 ≤ eo_ E a b ∧ ((∃ r ∈ L1, r.1 = 5 ∧ r.2.1 = b ∧ r.2.2.2.1 = e ∧ r.2.2.2.2.1 = nI a) → 1 ≤ eo_ E a b)) : gc_w E := by
  by_cases hr : ∃ r ∈ L1, r.1 = 5 ∧ r.2.1 = b ∧ r.2.2.2.1 = e
  · obtain ⟨r, hr, k1, k2, k3⟩ := hr
    obtain ⟨m1, m2, m3⟩ := hm r hr
    obtain ⟨a, ha, hv⟩ := m1.2.2 (Or.inr k1)
    have hah : a ≠ eh_ E := fun c => m3 k1 k3 (by rw [hv, c])
    have := (h2 a ha hah).2 ⟨r, hr, k1, k2, k3, hv⟩
    exact Or.inr ⟨a, b, ha, hb, by omega⟩
  · have hp : gs_ (gc_p e b) L1 ≤ 0 := gs_neg (fun r hr2 => by
      unfold gc_p
      rw [if_neg (fun c => hr ⟨r, hr2, c⟩)]
      split
      · rename_i c
        have := (hm r hr2).2.1 c.1
        omega
      · omega)
    have hw : ∀ a, a < 4 → zm0 (eo_ E a b) = 0 := fun a ha => by
      unfold zm0
      by_cases hah : a = eh_ E
      · rw [h0 a ha hah]
        rfl
      · have := (h2 a ha hah).1
        rw [if_neg (by omega)]
    unfold gc_0 at h1
    rw [hw 0 (by decide), hw 1 (by decide), hw 2 (by decide), hw 3 (by decide)] at h1
    exact Or.inl ⟨b, hb, by omega⟩
theorem gq_neg {L1 : List zm_L} {a b : Nat} (hg : ∀ r ∈ L1, ¬ (r.1 = 4 ∧ r.2.2.2.1 = e)) : ∀ r ∈ L1, gc_q e a b r ≤ 0 := fun r hr => by
  unfold gc_q
  rw [if_neg (fun c => hg r hr ⟨c.1, c.2.2.1⟩)]
  split <;> omega
theorem gq_one {L1 : List zm_L} {a b : Nat} (hg : ∀ r ∈ L1, ¬ (r.1 = 4 ∧ r.2.2.2.1 = e)) (hx : ∃ r ∈ L1, r.1 = 5 ∧ r.2.1 = b ∧ r.2.2.2.1 = e ∧ r.2.2.2.2.1 = nI a) : gs_ (gc_q e a b) L1 ≤ -1 := by
  obtain ⟨r, hr, c⟩ := hx
  have h1 := gs_neg1 (gq_neg (a := a) (b := b) hg) hr
  have h2 : gc_q e a b r = -1 := by
    unfold gc_q
    rw [if_neg (fun d => by omega), if_pos c]
  omega
/-- the first of several -/
theorem first_g (P : zm_L → Prop) : ∀ (L : List zm_L), (∃ r ∈ L, P r) → ∃ L1 r L2, L = L1 ++ r :: L2 ∧ P r ∧ ∀ x ∈ L1, ¬ P x
  | [], h => by
    obtain ⟨r, hr, -⟩ := h
    cases hr
  | x :: L, h => by
    by_cases hx : P x
    · exact ⟨[], x, L, rfl, hx, fun y hy => by cases hy⟩
    · obtain ⟨L1, r, L2, h1, h2, h3⟩ := first_g P L (by
        obtain ⟨r, hr, hp⟩ := h
        rcases List.mem_cons.mp hr with rfl | hr
        · exact absurd hp hx
        · exact ⟨r, hr, hp⟩)
      refine ⟨x :: L1, r, L2, by rw [h1]; rfl, h2, fun y hy => ?_⟩
      rcases List.mem_cons.mp hy with rfl | hy
      · exact hx
      · exact h3 y hy
/-- what the messages say of themselves -/
def gm_ (e h : Nat) (L : List zm_L) : Prop := ∀ r ∈ L, zc_ok r ∧ r.2.1 < 4 ∧ r.2.1 ≠ r.2.2.1 ∧ (r.2.2.2.1 = e → r.2.2.1 = h) ∧ (r.1 = 3 → 0 < r.2.2.2.2.1.toInt) ∧ (r.1 = 4 ∨ r.1 = 5 → r.2.2.2.1 = e → r.2.2.2.2.1 ≠ nI h)
theorem gc_gift (hj : gj_ e E L) (hm : gm_ e (eh_ E) L) (hg : ∃ r ∈ L, r.1 = 4 ∧ r.2.2.2.1 = e) : gc_w E := by
  obtain ⟨L1, r, L2, h1, ⟨r1, r2⟩, h3⟩ := first_g _ L hg
  obtain ⟨j1, j2, j3, j4, j5⟩ := hj
  have hr : r ∈ L := by rw [h1]; exact List.mem_append_right _ List.mem_cons_self
  obtain ⟨m1, m2, m3, m4, m5, m6⟩ := hm r hr
  have hto := m4 r2
  have hb : r.2.1 ≠ eh_ E := by rw [← hto]; exact m3
  have hL1 : ∀ x ∈ L1, x ∈ L := fun x hx => by rw [h1]; exact List.mem_append_left _ hx
  refine gc_pre (e := e) (L1 := L1) m2 (fun x hx => ⟨(hm x (hL1 x hx)).1, (hm x (hL1 x hx)).2.2.2.2.1, fun k1 k2 => (hm x (hL1 x hx)).2.2.2.2.2 (Or.inr k1) k2⟩) (fun a ha hah => j5.2.2.2 a _ ha m2 (Or.inl hah)) ?_ (fun a ha hah => ?_)
  · have := j3 r.2.1 m2 hb
    rw [h1] at this
    exact gw_pre L1 _ r L2 this ⟨rfl, hto, Or.inr (Or.inr ⟨r1, r2⟩)⟩
  · have h4 := j4 a r.2.1 ha m2 hah hb
    rw [h1] at h4
    have h5 := gw_pre L1 _ r L2 h4 ⟨r1, rfl, r2⟩
    have h6 := gs_neg (gq_neg (e := e) (a := a) (b := r.2.1) h3)
    refine ⟨by omega, fun hx => ?_⟩
    have := gq_one h3 hx
    omega
/-- no gifts of e fly: a prefix that shows one of e is enough -/
theorem gc_any (hj : gj_ e E L) (hm : gm_ e (eh_ E) L) {L1 L2 : List zm_L} (h1 : L = L1 ++ L2) {b : Nat} (hb : b < 4) (hbh : b ≠ eh_ E) (h : 1 ≤ gc_0 E b + gs_ (gc_p e b) L1) : gc_w E := by
  by_cases hg : ∃ r ∈ L, r.1 = 4 ∧ r.2.2.2.1 = e
  · exact gc_gift hj hm hg
  · obtain ⟨j1, j2, j3, j4, j5⟩ := hj
    have hg2 : ∀ r ∈ L, ¬ (r.1 = 4 ∧ r.2.2.2.1 = e) := fun r hr c => hg ⟨r, hr, c⟩
    have hL1 : ∀ x ∈ L1, x ∈ L := fun x hx => by rw [h1]; exact List.mem_append_left _ hx
    refine gc_pre (e := e) (L1 := L1) hb (fun x hx => ⟨(hm x (hL1 x hx)).1, (hm x (hL1 x hx)).2.2.2.2.1, fun k1 k2 => (hm x (hL1 x hx)).2.2.2.2.2 (Or.inr k1) k2⟩) (fun a ha hah => j5.2.2.2 a _ ha hb (Or.inl hah)) h (fun a ha hah => ?_)
    have h4 := j2 a b ha hb hah hbh
    have h5 := gc_c_pos (e := e) (a := a) (b := b) (L := L)
    have h6 := gs_neg (gq_neg (e := e) (a := a) (b := b) hg2)
    refine ⟨by omega, fun hx => ?_⟩
    obtain ⟨r, hr, c⟩ := hx
    have := gq_one hg2 ⟨r, hL1 r hr, c⟩
    omega
/-- b has imports of e: wanted -/
theorem gc_imp (hj : gj_ e E L) (hm : gm_ e (eh_ E) L) {b : Nat} (hb : b < 4) (h : 0 < ei_ E b) : gc_w E := by
  have hbh : b ≠ eh_ E := fun c => by
    have := hj.2.2.2.2.2.1
    rw [c] at h
    omega
  refine gc_any hj hm (L1 := L) (L2 := []) (List.append_nil _).symm hb hbh ?_
  have h1 := hj.1 b hb hbh
  have h2 := gc_c_pos (e := e) (a := eh_ E) (b := b) (L := L)
  omega
/-- a message from b to the home uses e: wanted -/
theorem gc_use (hj : gj_ e E L) (hm : gm_ e (eh_ E) L) {r : zm_L} (hr : r ∈ L) (hu : gc_u e (eh_ E) r.2.1 r) : gc_w E := by
  obtain ⟨L1, L2, h1⟩ := List.append_of_mem hr
  obtain ⟨m1, m2, m3, -⟩ := hm r hr
  have hbh : r.2.1 ≠ eh_ E := by rw [← hu.2.1]; exact m3
  refine gc_any hj hm (L1 := L1) (L2 := r :: L2) h1 m2 hbh ?_
  have := hj.2.2.1 r.2.1 m2 hbh
  rw [h1] at this
  exact gw_pre L1 _ r L2 this hu
/-- a redeem of e flies: wanted -/
theorem gc_red (hj : gj_ e E L) (hm : gm_ e (eh_ E) L) {r : zm_L} (hr : r ∈ L) (h5 : r.1 = 5) (he : r.2.2.2.1 = e) : gc_w E := by
  by_cases hg : ∃ r ∈ L, r.1 = 4 ∧ r.2.2.2.1 = e
  · exact gc_gift hj hm hg
  · obtain ⟨m1, m2, m3, m4, m5, m6⟩ := hm r hr
    obtain ⟨a, ha, hv⟩ := m1.2.2 (Or.inr h5)
    have hah : a ≠ eh_ E := fun c => m6 (Or.inr h5) he (by rw [hv, c])
    have hto := m4 he
    have hb : r.2.1 ≠ eh_ E := by rw [← hto]; exact m3
    have hg2 : ∀ r ∈ L, ¬ (r.1 = 4 ∧ r.2.2.2.1 = e) := fun r hr c => hg ⟨r, hr, c⟩
    have h4 := hj.2.1 a r.2.1 ha m2 hah hb
    have h6 := gc_c_pos (e := e) (a := a) (b := r.2.1) (L := L)
    have h7 := gq_one (a := a) (b := r.2.1) hg2 ⟨r, hr, h5, rfl, he, hv⟩
    exact Or.inr ⟨a, r.2.1, ha, m2, by omega⟩
end GCW
