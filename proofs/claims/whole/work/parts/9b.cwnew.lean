/-! The class's heap: a new entity. -/
/-- the new entity's cells lie behind all others -/
def an_ (ad : Nat × Nat → Nat) (e n : Nat) (k : Nat × Nat) : Nat := if k.2 = e ∧ 16 ≤ k.1 ∧ k.1 ≤ 20 then n + (k.1 - 16) else ad k
/-- calls and messages that don't speak of e -/
def cnf_ (e : Nat) (c : Nat × Int32 × Nat × Nat) : Bool := decide (c.1 ≠ e ∧ c.2.2.1 ≠ e ∧ c.2.2.2 ≠ e)
def mnf_ (e : Nat) (m : Nat × Nat × Nat × Int32 × Option Nat) : Bool := decide (m.2.1 ≠ e ∧ m.2.2.1 ≠ e)
/-- the picture with e; a promise's list is empty -/
def cw_new (W : cw_W) (e : Nat) (E : ze_E) : cw_W := (cwN_ W, va_up (cwd_ W) e true, cwg_ W, va_up (cwe_ W) e E, va_up (cwc_ W) e 0, (fun L => if 100 < e ∧ L = e then [] else cwl_ W L), (fun L => if 100 < e ∧ L = e then (0, 0, 0) else cwk_ W L), (fun a => (cwC_ W a).filter (cnf_ e)), (fun a => (cwM_ W a).filter (mnf_ e)), cwt_ W, cwT_ W, cwL_ W, cwF_ W)
/-- nothing speaks of e -/
def nw_ (W : cw_W) (e : Nat) : Prop := cwd_ W e = false ∧ cwn_ W < e ∧ cwn_ W ≤ 4 ∧ (∀ f, et_ (cwe_ W f) ≠ e ∧ ∀ s, el_ (cwe_ W f) s ≠ e) ∧ (cwT_ W).1 ≠ e ∧ (cwT_ W).2.2.1 ≠ e
section CNW
variable {gl : gl_T} {fx : fx_T} {ad : Nat × Nat → Nat} {W W' : cw_W} {st st' : st_S} {Z X : zz_S} {e a b s v L g u q t h p w ref c n f : Nat} {x op : Int32} {lost l : List Nat} {E : ze_E}
theorem an_o {k : Nat × Nat} (h : k.2 ≠ e ∨ k.1 < 16 ∨ 20 < k.1) : an_ ad e n k = ad k := if_neg (fun z => by rcases h with h | h | h <;> omega)
theorem an_m {m i : Nat} (h : m < 16) : an_ ad e n (m, i) = ad (m, i) := an_o (Or.inr (Or.inl h))
theorem an_n {m : Nat} (h1 : 16 ≤ m) (h2 : m ≤ 20) : an_ ad e n (m, e) = n + (m - 16) := if_pos ⟨rfl, h1, h2⟩
theorem an_f {m : Nat} (h : f ≠ e) : an_ ad e n (m, f) = ad (m, f) := an_o (Or.inl h)
theorem rf_an (h : u ≠ e) : rf_ (an_ ad e n) u = rf_ ad u := by
  unfold rf_
  rw [an_f h]
theorem nw_d (h : f ≠ e) : cwd_ (cw_new W e E) f = cwd_ W f := va_up_ne _ _ h
theorem nw_ds : cwd_ (cw_new W e E) e = true := va_up_self _ _ _
theorem nw_e (h : f ≠ e) : cwe_ (cw_new W e E) f = cwe_ W f := va_up_ne _ _ h
theorem nw_es : cwe_ (cw_new W e E) e = E := va_up_self _ _ _
theorem nw_c (h : f ≠ e) : cwc_ (cw_new W e E) f = cwc_ W f := va_up_ne _ _ h
theorem nw_cs : cwc_ (cw_new W e E) e = 0 := va_up_self _ _ _
theorem nw_l (h : L ≠ e ∨ L ≤ 100) : cwl_ (cw_new W e E) L = cwl_ W L := if_neg (fun z => by rcases h with h | h <;> omega)
theorem nw_k (h : L ≠ e ∨ L ≤ 100) : cwk_ (cw_new W e E) L = cwk_ W L := if_neg (fun z => by rcases h with h | h <;> omega)
theorem nw_ls (h : 100 < e) : cwl_ (cw_new W e E) e = [] := if_pos ⟨h, rfl⟩
theorem nw_ks (h : 100 < e) : cwk_ (cw_new W e E) e = (0, 0, 0) := if_pos ⟨h, rfl⟩
theorem nw_ho (h : L ≠ e ∨ L ≤ 100) : ho_ gl (cw_new W e E) L = ho_ gl W L := by
  unfold ho_
  rw [nw_l h, nw_k h]
theorem nw_v (h : L ≠ e ∨ L ≤ 100) : cwv_ (cw_new W e E) L = cwv_ W L := by
  have e1 : cwn_ (cw_new W e E) = cwn_ W := rfl
  unfold cwv_
  rw [e1]
  by_cases c : 100 < L
  · rw [nw_d (by omega)]
  · rw [decide_eq_false c]
    rfl
theorem hw_eq (hw : nw_ W e) : ∀ (k : Nat × Nat), ¬ (k.2 = e ∧ 16 ≤ k.1 ∧ k.1 ≤ 20) → k ≠ (3, 0) → k.1 < 21 → hc_ gl (an_ ad e n) (cw_new W e E) k = hc_ gl ad W k
  | (0, i), _, _, _ => by
    have a : ∀ m i, m < 16 → an_ ad e n (m, i) = ad (m, i) := fun m i h => an_m h
    simp only [hc_, fun j => a 1 j (by decide), fun j => a 2 j (by decide), fun j => a 3 j (by decide), fun j => a 4 j (by decide), fun j => a 5 j (by decide), fun j => a 6 j (by decide)]
    try rfl
  | (1, i), _, _, _ => by
    have a : ∀ m i, m < 16 → an_ ad e n (m, i) = ad (m, i) := fun m i h => an_m h
    simp only [hc_, fun j => a 7 j (by decide)]
    try rfl
  | (2, i), _, _, _ => by
    have a : ∀ m i, m < 16 → an_ ad e n (m, i) = ad (m, i) := fun m i h => an_m h
    simp only [hc_, fun j => a 13 j (by decide)]
    try rfl
  | (3, i), _, h, _ => by
    have hi : i ≠ 0 := fun z => h (by rw [z])
    show (if i = 0 then _ else none) = (if i = 0 then _ else none)
    rw [if_neg hi, if_neg hi]
  | (4, i), _, _, _ => by
    show (if i = 0 then some (.inr (.inr (1, [va_rf (rf_ (an_ ad e n) (cwT_ W).1), .int (cwT_ W).2.1, va_rf (rf_ (an_ ad e n) (cwT_ W).2.2.1), .int (cwT_ W).2.2.2])) : ce_E) else none) = _
    rw [rf_an hw.2.2.2.2.1, rf_an hw.2.2.2.2.2]
    rfl
  | (5, i), _, _, _ => rfl
  | (6, i), _, _, _ => rfl
  | (7, i), _, _, _ => by
    show (if i < cwn_ W ∧ i < 4 then some (.inr (.inr (5, [.ref (an_ ad e n (16, i + 1)), .ref (an_ ad e n (8, i)), .ref (an_ ad e n (9, i)), .ref (an_ ad e n (10, i)), .int (nI (cwt_ W i).length)])) : ce_E) else none) = (if i < cwn_ W ∧ i < 4 then _ else none)
    by_cases c : i < cwn_ W ∧ i < 4
    · rw [if_pos c, if_pos c, an_f (by have := hw.2.1; omega), an_m (by decide), an_m (by decide), an_m (by decide)]
    · rw [if_neg c, if_neg c]
  | (8, i), _, _, _ => by
    show (if i < cwn_ W ∧ i < 4 then some (ho_ gl (cw_new W e E) i) else none) = (if i < cwn_ W ∧ i < 4 then _ else none)
    by_cases c : i < cwn_ W ∧ i < 4
    · rw [if_pos c, if_pos c, nw_ho (by omega)]
    · rw [if_neg c, if_neg c]
  | (9, i), _, _, _ => by
    have a : ∀ m i, m < 16 → an_ ad e n (m, i) = ad (m, i) := fun m i h => an_m h
    simp only [hc_, fun j => a 11 j (by decide)]
    try rfl
  | (10, i), _, _, _ => rfl
  | (11, i), _, _, _ => by
    have a : ∀ m i, m < 16 → an_ ad e n (m, i) = ad (m, i) := fun m i h => an_m h
    simp only [hc_, fun j => a 12 j (by decide)]
    try rfl
  | (12, i), _, _, _ => by
    show (if i / 4 < cwn_ W ∧ i % 4 < cwn_ W ∧ i < 16 then some (ho_ gl (cw_new W e E) (4 + i)) else none) = (if i / 4 < cwn_ W ∧ i % 4 < cwn_ W ∧ i < 16 then _ else none)
    by_cases c : i / 4 < cwn_ W ∧ i % 4 < cwn_ W ∧ i < 16
    · rw [if_pos c, if_pos c, nw_ho (by omega)]
    · rw [if_neg c, if_neg c]
  | (13, i), _, _, _ => by
    have a : ∀ m i, m < 16 → an_ ad e n (m, i) = ad (m, i) := fun m i h => an_m h
    simp only [hc_, fun j => a 14 j (by decide), fun j => a 15 j (by decide)]
    try rfl
  | (14, i), _, _, _ => rfl
  | (15, i), _, _, _ => rfl
  | (16, i), h, _, _ => by
    have hi : i ≠ e := fun z => h ⟨z, (by decide : (16 : Nat) ≤ 16), (by decide : 16 ≤ 20)⟩
    show (if cwd_ (cw_new W e E) i = true then some (he_ (an_ ad e n) (cw_new W e E) i) else none) = (if cwd_ W i = true then some (he_ ad W i) else none)
    unfold he_
    rw [nw_d hi, nw_e hi, nw_c hi, an_f hi, an_f hi, an_f hi, an_f hi]
    have hr : rf_ (an_ ad e n) (if es_ (cwe_ W i) = true then et_ (cwe_ W i) else 0) = rf_ ad (if es_ (cwe_ W i) = true then et_ (cwe_ W i) else 0) := by
      split
      · exact rf_an (hw.2.2.2.1 i).1
      · rfl
    rw [hr]
  | (17, i), h, _, _ => by
    have hi : i ≠ e := fun z => h ⟨z, (by decide : (16 : Nat) ≤ 17), (by decide : 17 ≤ 20)⟩
    simp only [hc_, nw_d hi, nw_e hi]
  | (18, i), h, _, _ => by
    have hi : i ≠ e := fun z => h ⟨z, (by decide : (16 : Nat) ≤ 18), (by decide : 18 ≤ 20)⟩
    simp only [hc_, nw_d hi, nw_e hi]
  | (19, i), h, _, _ => by
    have hi : i ≠ e := fun z => h ⟨z, (by decide : (16 : Nat) ≤ 19), (by decide : 19 ≤ 20)⟩
    simp only [hc_, nw_d hi, nw_e hi]
  | (20, i), h, _, _ => by
    have hi : i ≠ e := fun z => h ⟨z, (by decide : (16 : Nat) ≤ 20), (by decide : 20 ≤ 20)⟩
    show (if cwd_ (cw_new W e E) i = true then some (if i ≤ 100 then .inr (.inl (6, 4, fun s => rf_ (an_ ad e n) (el_ (cwe_ (cw_new W e E) i) s))) else ho_ gl (cw_new W e E) i) else none) = _
    rw [nw_d hi, nw_e hi, nw_ho (Or.inl hi)]
    have hr : (fun s => rf_ (an_ ad e n) (el_ (cwe_ W i) s)) = fun s => rf_ ad (el_ (cwe_ W i) s) := funext (fun s => rf_an ((hw.2.2.2.1 i).2 s))
    rw [hr]
    rfl
  | (m + 21, i), _, _, h => absurd h (by show ¬ m + 21 < 21; omega)
theorem fi_some {α : Type} {p : α → Bool} {o : Option α} {c : α} (h : o.filter p = some c) : o = some c ∧ p c = true := by
  cases o with
  | none => cases h
  | some d =>
    by_cases hp : p d = true
    · rw [Option.filter_some, if_pos hp] at h
      cases h
      exact ⟨rfl, hp⟩
    · rw [Option.filter_some, if_neg hp] at h
      cases h
theorem fi_of {α : Type} {p : α → Bool} {o : Option α} {c : α} (h : o = some c) (hp : p c = true) : o.filter p = some c := by
  rw [h, Option.filter_some, if_pos hp]
/-- what the new picture says of old cells, the old one said -/
theorem hw_old (hw : nw_ W e) {c : ce_E} : ∀ (k : Nat × Nat), ¬ (k.2 = e ∧ 16 ≤ k.1 ∧ k.1 ≤ 20) → k ≠ (3, 0) → hc_ gl (an_ ad e n) (cw_new W e E) k = some c → hc_ gl ad W k = some c ∧ aw_ (an_ ad e n) (cw_new W e E) k = aw_ ad W k := by
  intro k h1 h3 hc
  have ha : k.1 < 21 ∨ 23 < k.1 → aw_ (an_ ad e n) (cw_new W e E) k = aw_ ad W k := fun z => by
    unfold aw_
    rw [if_neg (by omega), if_neg (by omega), if_neg (by omega), if_neg (by omega)]
    exact if_neg h1
  by_cases c21 : k.1 < 21
  · exact ⟨(hw_eq hw k h1 h3 c21).symm.trans hc, ha (Or.inl c21)⟩
  · obtain ⟨m, i⟩ := k
    have c21 : ¬ m < 21 := c21
    obtain ⟨j, rfl⟩ : ∃ j, m = j + 21 := ⟨m - 21, by omega⟩
    match j with
    | 0 =>
      have hc : (if cwv_ (cw_new W e E) i = true ∧ 0 < (cwk_ (cw_new W e E) i).1 then some (.inr (.inl (9, (cwk_ (cw_new W e E) i).1, fun j => (cwl_ (cw_new W e E) i)[j]?)) : ce_E) else none) = some c := hc
      by_cases d : 100 < e ∧ i = e
      · obtain ⟨d1, d2⟩ := d
        subst d2
        rw [nw_ks d1, if_neg (fun z => Nat.lt_irrefl 0 z.2)] at hc
        cases hc
      · have d : i ≠ e ∨ i ≤ 100 := by omega
        rw [nw_v d, nw_k d, nw_l d] at hc
        refine ⟨hc, ?_⟩
        show (cwk_ (cw_new W e E) i).2.2 = (cwk_ W i).2.2
        rw [nw_k d]
    | 1 =>
      have hc : ((cwC_ W i).filter (cnf_ e)).map (fun c => (.inr (.inr (8, [va_rf (rf_ (an_ ad e n) c.1), .int c.2.1, va_rf (rf_ (an_ ad e n) c.2.2.1), va_rf (rf_ (an_ ad e n) c.2.2.2)])) : ce_E)) = some c := hc
      obtain ⟨y, hy, hy2⟩ := Option.map_eq_some_iff.mp hc
      obtain ⟨hy3, hy4⟩ := fi_some hy
      obtain ⟨n1, n2, n3⟩ := of_decide_eq_true hy4
      rw [rf_an n1, rf_an n2, rf_an n3] at hy2
      refine ⟨?_, rfl⟩
      show (cwC_ W i).map _ = _
      rw [hy3, ← hy2]
      rfl
    | 2 =>
      have hc : ((cwM_ W i).filter (mnf_ e)).map (fun m => (.inr (.inr (9, [.int (nI m.1), va_rf (rf_ (an_ ad e n) m.2.1), va_rf (rf_ (an_ ad e n) m.2.2.1), .int m.2.2.2.1, va_rf m.2.2.2.2])) : ce_E)) = some c := hc
      obtain ⟨y, hy, hy2⟩ := Option.map_eq_some_iff.mp hc
      obtain ⟨hy3, hy4⟩ := fi_some hy
      obtain ⟨n1, n2⟩ := of_decide_eq_true hy4
      rw [rf_an n1, rf_an n2] at hy2
      refine ⟨?_, rfl⟩
      show (cwM_ W i).map _ = _
      rw [hy3, ← hy2]
      rfl
    | j + 3 => cases hc
theorem cv_grow {ad' : Nat × Nat → Nat} {H H' : Nat × Nat → Option ce_E} (h : cv_ gl fx ad H st) (hs : ∀ a, a < st.2 → st'.1 a = st.1 a) (hw : sw_ st') (hle : st.2 ≤ st'.2) (hH : ∀ k c, H' k = some c → (H k = some c ∧ ad' k = ad k) ∨ (st.2 ≤ ad' k ∧ st'.1 (ad' k) = some c)) (hinj : ∀ k j c d, H' k = some c → H' j = some d → st.2 ≤ ad' k → ad' k = ad' j → k = j) : cv_ gl fx ad' H' st' := by
  obtain ⟨h1, h2, h3, h7, h8, h9⟩ := h
  refine ⟨fun k c hk => ?_, fun k j c d hk hj hkj => ?_, hw, fun k c hk => ?_, fun a ha => ⟨Nat.lt_of_lt_of_le (h8 a ha).1 hle, fun hg => (hs a (h8 a ha).1).trans ((h8 a ha).2 hg)⟩, h9⟩
  · rcases hH k c hk with ⟨z1, z2⟩ | z
    · rw [z2, hs _ (sw_lt h3 (h1 k c z1))]
      exact h1 k c z1
    · exact z.2
  · by_cases z : st.2 ≤ ad' k
    · exact hinj k j c d hk hj z hkj
    · rcases hH k c hk with ⟨z1, z2⟩ | z1
      · rcases hH j d hj with ⟨y1, y2⟩ | y1
        · rw [z2, y2] at hkj
          exact h2 k j c d z1 y1 hkj
        · omega
      · exact absurd z1.1 z
  · rcases hH k c hk with ⟨z1, z2⟩ | z
    · rw [z2]
      exact h7 k c z1
    · intro y
      have := (h8 _ y).1
      omega
theorem m16 {m : Nat} (h1 : 16 ≤ m) (h2 : m ≤ 20) : m = 16 ∨ m = 17 ∨ m = 18 ∨ m = 19 ∨ m = 20 := by omega
/-- the five cells are there: the entity is entered into the row -/
theorem cu_new (hW : CW gl fx ad W st) (hw : nw_ W e) (he : e < 201) {c16 c17 c18 c19 c20 : ce_E}
    (h16 : hc_ gl (an_ ad e st.2) (cw_new W e E) (16, e) = some c16) (h17 : hc_ gl (an_ ad e st.2) (cw_new W e E) (17, e) = some c17) (h18 : hc_ gl (an_ ad e st.2) (cw_new W e E) (18, e) = some c18) (h19 : hc_ gl (an_ ad e st.2) (cw_new W e E) (19, e) = some c19) (h20 : hc_ gl (an_ ad e st.2) (cw_new W e E) (20, e) = some c20) :
    ∃ st', so_sq (some (ad (3, 0))) [6] [3, 4] (nI e) (some st.2) (st_ad (st_ad (st_ad (st_ad (st_ad st c16) c17) c18) c19) c20) = some st' ∧ CW gl fx (an_ ad e st.2) (cw_new W e E) st' := by
  have hsw := hW.2.2.1
  generalize hst : st_ad (st_ad (st_ad (st_ad (st_ad st c16) c17) c18) c19) c20 = st5
  have k0 : ∀ a, a < st.2 → st5.1 a = st.1 a := fun a ha => by
    rw [← hst, ad_n (by show a ≠ st.2 + 1 + 1 + 1 + 1; omega), ad_n (by show a ≠ st.2 + 1 + 1 + 1; omega), ad_n (by show a ≠ st.2 + 1 + 1; omega), ad_n (by show a ≠ st.2 + 1; omega), ad_n (by omega)]
  have k16 : st5.1 st.2 = some c16 := by
    rw [← hst, ad_n (by show st.2 ≠ st.2 + 1 + 1 + 1 + 1; omega), ad_n (by show st.2 ≠ st.2 + 1 + 1 + 1; omega), ad_n (by show st.2 ≠ st.2 + 1 + 1; omega), ad_n (by show st.2 ≠ st.2 + 1; omega)]
    exact ad_s
  have k17 : st5.1 (st.2 + 1) = some c17 := by
    rw [← hst, ad_n (by show st.2 + 1 ≠ st.2 + 1 + 1 + 1 + 1; omega), ad_n (by show st.2 + 1 ≠ st.2 + 1 + 1 + 1; omega), ad_n (by show st.2 + 1 ≠ st.2 + 1 + 1; omega)]
    exact ad_s
  have k18 : st5.1 (st.2 + 2) = some c18 := by
    rw [← hst, ad_n (by show st.2 + 2 ≠ st.2 + 1 + 1 + 1 + 1; omega), ad_n (by show st.2 + 2 ≠ st.2 + 1 + 1 + 1; omega)]
    exact ad_s
  have k19 : st5.1 (st.2 + 3) = some c19 := by
    rw [← hst, ad_n (by show st.2 + 3 ≠ st.2 + 1 + 1 + 1 + 1; omega)]
    exact ad_s
  have k20 : st5.1 (st.2 + 4) = some c20 := by
    rw [← hst]
    exact ad_s
  have hw5 : sw_ st5 := by
    rw [← hst]
    exact sw_ad (sw_ad (sw_ad (sw_ad (sw_ad hsw))))
  have hle : st.2 ≤ st5.2 := by
    rw [← hst]
    show st.2 ≤ st.2 + 1 + 1 + 1 + 1 + 1
    omega
  have hlt3 := sw_lt hsw (at_3 hW)
  have at3 : st5.1 (ad (3, 0)) = some (.inr (.inl (6, 201, fun f => if cwd_ W f = true then some (ad (16, f)) else none))) := (k0 _ hlt3).trans (at_3 hW)
  have his : so_is st5 (some st.2) [3, 4] = true := by
    obtain ⟨ci, fs, h1, h2, -⟩ := he_any (ad := an_ ad e st.2) (W := cw_new W e E) (e := e)
    rw [hk_16 nw_ds, h1] at h16
    cases h16
    exact og_is k16 h2
  refine ⟨_, og_sq at3 (by simp) he (by decide) his, ?_⟩
  -- all but the row of entities
  have hg : cv_ gl fx (aw_ (an_ ad e st.2) (cw_new W e E)) (fun k => if k = (3, 0) then hc_ gl ad W (3, 0) else hc_ gl (an_ ad e st.2) (cw_new W e E) k) st5 := by
    have hnew : ∀ m, 16 ≤ m → m ≤ 20 → aw_ (an_ ad e st.2) (cw_new W e E) (m, e) = st.2 + (m - 16) := fun m z1 z2 => by
      unfold aw_
      rw [if_neg (by show ¬ m = 21; omega), if_neg (by show ¬ (m = 22 ∨ m = 23); omega)]
      exact an_n z1 z2
    have hcase : ∀ k c, (if k = (3, 0) then hc_ gl ad W (3, 0) else hc_ gl (an_ ad e st.2) (cw_new W e E) k) = some c → (∃ m, k = (m, e) ∧ 16 ≤ m ∧ m ≤ 20) ∨ (hc_ gl ad W k = some c ∧ aw_ (an_ ad e st.2) (cw_new W e E) k = aw_ ad W k) := fun k c hk => by
      by_cases z3 : k = (3, 0)
      · rw [if_pos z3] at hk
        refine Or.inr ⟨by rw [z3]; exact hk, ?_⟩
        rw [z3]
        exact an_m (by decide)
      · rw [if_neg z3] at hk
        by_cases z : k.2 = e ∧ 16 ≤ k.1 ∧ k.1 ≤ 20
        · exact Or.inl ⟨k.1, by rw [← z.1], z.2.1, z.2.2⟩
        · exact Or.inr (hw_old hw k z z3 hk)
    have hlt : ∀ k c, hc_ gl ad W k = some c → aw_ ad W k < st.2 := fun k c hk => cv_lt (ad := aw_ ad W) hW hk
    refine cv_grow (ad := aw_ ad W) hW k0 hw5 hle (fun k c hk => ?_) (fun k j c d hk hj hl hkj => ?_)
    · rcases hcase k c hk with ⟨m, rfl, z1, z2⟩ | z
      · refine Or.inr ?_
        rw [hnew m z1 z2]
        refine ⟨by omega, ?_⟩
        have hk : (if (m, e) = (3, 0) then hc_ gl ad W (3, 0) else hc_ gl (an_ ad e st.2) (cw_new W e E) (m, e)) = some c := hk
        rw [if_neg (fun z => by have := congrArg Prod.fst z; have : m = 3 := this; omega)] at hk
        rcases m16 z1 z2 with z | z | z | z | z <;> subst z
        · rw [h16] at hk
          cases hk
          exact k16
        · rw [h17] at hk
          cases hk
          exact k17
        · rw [h18] at hk
          cases hk
          exact k18
        · rw [h19] at hk
          cases hk
          exact k19
        · rw [h20] at hk
          cases hk
          exact k20
      · exact Or.inl z
    · rcases hcase k c hk with ⟨m, rfl, z1, z2⟩ | z
      · rcases hcase j d hj with ⟨m2, rfl, y1, y2⟩ | y
        · rw [hnew m z1 z2, hnew m2 y1 y2] at hkj
          have : m = m2 := by omega
          rw [this]
        · have := hlt j d y.1
          rw [hnew m z1 z2, y.2] at hkj
          omega
      · have := hlt k c z.1
        rw [z.2] at hl
        omega
  have e3 : aw_ (an_ ad e st.2) (cw_new W e E) (3, 0) = ad (3, 0) := an_m (by decide)
  have hup := cv_up (ad := aw_ (an_ ad e st.2) (cw_new W e E)) (c := .inr (.inl (6, 201, va_up (fun f => if cwd_ W f = true then some (ad (16, f)) else none) e (some st.2)))) hg (k := (3, 0)) ((if_pos rfl).trans hk_3)
  rw [e3] at hup
  refine cv_sub (ad := aw_ (an_ ad e st.2) (cw_new W e E)) hup (fun k c hk => ?_)
  by_cases z3 : k = (3, 0)
  · rw [z3, ku_s]
    rw [z3, hk_3] at hk
    rw [← hk]
    congr 5
    funext f
    unfold va_up
    by_cases z : f = e
    · rw [if_pos z, z, nw_ds, if_pos rfl, an_n (by decide) (by decide)]
      rfl
    · rw [if_neg z, nw_d z, an_f z]
  · rw [ku_n z3]
    show (if k = (3, 0) then _ else _) = _
    rw [if_neg z3]
    exact hk
end CNW
