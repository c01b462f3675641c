/-! The class's heap as a picture: kinds of cells, where they lie, what lies there. -/
/-- vats, objects, promises; which entities are there; programs; entities; reached; lists: what they hold, their capacity, count of changes and where their row lies; calls and messages by address; outputs, newest first; the turn; the lost answers; what a sweep found -/
abbrev cw_W : Type := (Nat × Nat × Nat) × (Nat → Bool) × (Nat → Nat × (Nat → Int32) × (Nat → Int32)) × (Nat → ze_E) × (Nat → Int32) × (Nat → List Nat) × (Nat → Nat × Int32 × Nat) × (Nat → Option (Nat × Int32 × Nat × Nat)) × (Nat → Option (Nat × Nat × Nat × Int32 × Option Nat)) × (Nat → List Int32) × (Nat × Int32 × Nat × Int32) × (Int32 × (Nat → Option Nat)) × (Int32 × (Nat → Option Nat))
def cwN_ (W : cw_W) : Nat × Nat × Nat := W.1
def cwd_ (W : cw_W) : Nat → Bool := W.2.1
def cwg_ (W : cw_W) : Nat → Nat × (Nat → Int32) × (Nat → Int32) := W.2.2.1
def cwe_ (W : cw_W) : Nat → ze_E := W.2.2.2.1
def cwc_ (W : cw_W) : Nat → Int32 := W.2.2.2.2.1
def cwl_ (W : cw_W) : Nat → List Nat := W.2.2.2.2.2.1
def cwk_ (W : cw_W) : Nat → Nat × Int32 × Nat := W.2.2.2.2.2.2.1
def cwC_ (W : cw_W) : Nat → Option (Nat × Int32 × Nat × Nat) := W.2.2.2.2.2.2.2.1
def cwM_ (W : cw_W) : Nat → Option (Nat × Nat × Nat × Int32 × Option Nat) := W.2.2.2.2.2.2.2.2.1
def cwt_ (W : cw_W) : Nat → List Int32 := W.2.2.2.2.2.2.2.2.2.1
def cwT_ (W : cw_W) : Nat × Int32 × Nat × Int32 := W.2.2.2.2.2.2.2.2.2.2.1
def cwL_ (W : cw_W) : Int32 × (Nat → Option Nat) := W.2.2.2.2.2.2.2.2.2.2.2.1
def cwF_ (W : cw_W) : Int32 × (Nat → Option Nat) := W.2.2.2.2.2.2.2.2.2.2.2.2
def cj_N (W : cw_W) (x : Nat × Nat × Nat) : cw_W := (x, cwd_ W, cwg_ W, cwe_ W, cwc_ W, cwl_ W, cwk_ W, cwC_ W, cwM_ W, cwt_ W, cwT_ W, cwL_ W, cwF_ W)
def cj_d (W : cw_W) (i : Nat) (x : Bool) : cw_W := (cwN_ W, va_up (cwd_ W) i x, cwg_ W, cwe_ W, cwc_ W, cwl_ W, cwk_ W, cwC_ W, cwM_ W, cwt_ W, cwT_ W, cwL_ W, cwF_ W)
def cj_g (W : cw_W) (i : Nat) (x : Nat × (Nat → Int32) × (Nat → Int32)) : cw_W := (cwN_ W, cwd_ W, va_up (cwg_ W) i x, cwe_ W, cwc_ W, cwl_ W, cwk_ W, cwC_ W, cwM_ W, cwt_ W, cwT_ W, cwL_ W, cwF_ W)
def cj_e (W : cw_W) (i : Nat) (x : ze_E) : cw_W := (cwN_ W, cwd_ W, cwg_ W, va_up (cwe_ W) i x, cwc_ W, cwl_ W, cwk_ W, cwC_ W, cwM_ W, cwt_ W, cwT_ W, cwL_ W, cwF_ W)
def cj_c (W : cw_W) (i : Nat) (x : Int32) : cw_W := (cwN_ W, cwd_ W, cwg_ W, cwe_ W, va_up (cwc_ W) i x, cwl_ W, cwk_ W, cwC_ W, cwM_ W, cwt_ W, cwT_ W, cwL_ W, cwF_ W)
def cj_l (W : cw_W) (i : Nat) (x : List Nat) : cw_W := (cwN_ W, cwd_ W, cwg_ W, cwe_ W, cwc_ W, va_up (cwl_ W) i x, cwk_ W, cwC_ W, cwM_ W, cwt_ W, cwT_ W, cwL_ W, cwF_ W)
def cj_k (W : cw_W) (i : Nat) (x : Nat × Int32 × Nat) : cw_W := (cwN_ W, cwd_ W, cwg_ W, cwe_ W, cwc_ W, cwl_ W, va_up (cwk_ W) i x, cwC_ W, cwM_ W, cwt_ W, cwT_ W, cwL_ W, cwF_ W)
def cj_C (W : cw_W) (i : Nat) (x : Option (Nat × Int32 × Nat × Nat)) : cw_W := (cwN_ W, cwd_ W, cwg_ W, cwe_ W, cwc_ W, cwl_ W, cwk_ W, va_up (cwC_ W) i x, cwM_ W, cwt_ W, cwT_ W, cwL_ W, cwF_ W)
def cj_M (W : cw_W) (i : Nat) (x : Option (Nat × Nat × Nat × Int32 × Option Nat)) : cw_W := (cwN_ W, cwd_ W, cwg_ W, cwe_ W, cwc_ W, cwl_ W, cwk_ W, cwC_ W, va_up (cwM_ W) i x, cwt_ W, cwT_ W, cwL_ W, cwF_ W)
def cj_t (W : cw_W) (i : Nat) (x : List Int32) : cw_W := (cwN_ W, cwd_ W, cwg_ W, cwe_ W, cwc_ W, cwl_ W, cwk_ W, cwC_ W, cwM_ W, va_up (cwt_ W) i x, cwT_ W, cwL_ W, cwF_ W)
def cj_T (W : cw_W) (x : Nat × Int32 × Nat × Int32) : cw_W := (cwN_ W, cwd_ W, cwg_ W, cwe_ W, cwc_ W, cwl_ W, cwk_ W, cwC_ W, cwM_ W, cwt_ W, x, cwL_ W, cwF_ W)
def cj_L (W : cw_W) (x : Int32 × (Nat → Option Nat)) : cw_W := (cwN_ W, cwd_ W, cwg_ W, cwe_ W, cwc_ W, cwl_ W, cwk_ W, cwC_ W, cwM_ W, cwt_ W, cwT_ W, x, cwF_ W)
def cj_F (W : cw_W) (x : Int32 × (Nat → Option Nat)) : cw_W := (cwN_ W, cwd_ W, cwg_ W, cwe_ W, cwc_ W, cwl_ W, cwk_ W, cwC_ W, cwM_ W, cwt_ W, cwT_ W, cwL_ W, x)
def cwn_ (W : cw_W) : Nat := (cwN_ W).1
def cwo_ (W : cw_W) : Nat := (cwN_ W).2.1
def cwp_ (W : cw_W) : Nat := (cwN_ W).2.2
/-- a reference to the entity u, none for 0 -/
def rf_ (ad : Nat × Nat → Nat) (u : Nat) : Option Nat := if u = 0 then none else some (ad (16, u))
/-- a list that is there -/
def cwv_ (W : cw_W) (L : Nat) : Bool := decide (L < cwn_ W ∧ L < 4) || (decide (4 ≤ L ∧ L < 20 ∧ (L - 4) / 4 < cwn_ W ∧ (L - 4) % 4 < cwn_ W)) || (decide (100 < L) && cwd_ W L)
/-- a list's object -/
def ho_ (gl : gl_T) (W : cw_W) (L : Nat) : ce_E := .inr (.inr (6, [.ref (if (cwk_ W L).1 = 0 then gl.1 else (cwk_ W L).2.2), .int (nI (cwl_ W L).length), .int (cwk_ W L).2.1]))
/-- where a kind's cell lies: rows of lists, calls and messages where the picture says, the others where ad says -/
def aw_ (ad : Nat × Nat → Nat) (W : cw_W) (k : Nat × Nat) : Nat := if k.1 = 21 then (cwk_ W k.2).2.2 else if k.1 = 22 ∨ k.1 = 23 then k.2 else ad k
/-- an entity's object -/
def he_ (ad : Nat × Nat → Nat) (W : cw_W) (e : Nat) : ce_E :=
  if e ≤ 100 then .inr (.inr (3, [.int (nI (ep_ (cwe_ W e))), .int (en_ (cwe_ W e)), .ref (ad (20, e)), .int (nI e), .int (nI (eh_ (cwe_ W e))), .int (bi_ (eg_ (cwe_ W e))), .int (cwc_ W e), .ref (ad (17, e)), .ref (ad (18, e)), .ref (ad (19, e))]))
  else .inr (.inr (4, [.int (bi_ (!es_ (cwe_ W e))), va_rf (rf_ ad (if es_ (cwe_ W e) = true then et_ (cwe_ W e) else 0)), .ref (ad (20, e)), .int (nI e), .int (nI (eh_ (cwe_ W e))), .int (bi_ (eg_ (cwe_ W e))), .int (cwc_ W e), .ref (ad (17, e)), .ref (ad (18, e)), .ref (ad (19, e))]))
/-- what lies at a kind of cell, where one is -/
def hc_ (gl : gl_T) (ad : Nat × Nat → Nat) (W : cw_W) (k : Nat × Nat) : Option ce_E := match k.1 with
  | 0 => if k.2 = 0 then some (.inr (.inr (0, [.ref (ad (1, 0)), .ref (ad (2, 0)), .ref (ad (3, 0)), .int (nI (cwo_ W)), .int (nI (cwp_ W)), .ref (ad (4, 0)), .ref (ad (5, 0)), .int (cwL_ W).1, .ref (ad (6, 0)), .int (cwF_ W).1]))) else none
  | 1 => if k.2 = 0 then some (.inr (.inl (4, cwn_ W, fun v => if v < cwn_ W then some (ad (7, v)) else none))) else none
  | 2 => if k.2 = 0 then some (.inr (.inl (5, 8, fun g => if g < 8 then some (ad (13, g)) else none))) else none
  | 3 => if k.2 = 0 then some (.inr (.inl (6, 201, fun e => if cwd_ W e = true then some (ad (16, e)) else none))) else none
  | 4 => if k.2 = 0 then some (.inr (.inr (1, [va_rf (rf_ ad (cwT_ W).1), .int (cwT_ W).2.1, va_rf (rf_ ad (cwT_ W).2.2.1), .int (cwT_ W).2.2.2]))) else none
  | 5 => if k.2 = 0 then some (.inr (.inl (7, 100, (cwL_ W).2))) else none
  | 6 => if k.2 = 0 then some (.inr (.inl (6, 160, (cwF_ W).2))) else none
  | 7 => if k.2 < cwn_ W ∧ k.2 < 4 then some (.inr (.inr (5, [.ref (ad (16, k.2 + 1)), .ref (ad (8, k.2)), .ref (ad (9, k.2)), .ref (ad (10, k.2)), .int (nI (cwt_ W k.2).length)]))) else none
  | 8 => if k.2 < cwn_ W ∧ k.2 < 4 then some (ho_ gl W k.2) else none
  | 9 => if k.2 < cwn_ W ∧ k.2 < 4 then some (.inr (.inl (8, cwn_ W, fun b => if b < cwn_ W then some (ad (11, 4 * k.2 + b)) else none))) else none
  | 10 => if k.2 < cwn_ W ∧ k.2 < 4 then some (.inl (0, 10, fun i => if i < 10 then ((cwt_ W k.2)[i]?).getD 0 else 0)) else none
  | 11 => if k.2 / 4 < cwn_ W ∧ k.2 % 4 < cwn_ W ∧ k.2 < 16 then some (.inr (.inr (7, [.ref (ad (12, k.2))]))) else none
  | 12 => if k.2 / 4 < cwn_ W ∧ k.2 % 4 < cwn_ W ∧ k.2 < 16 then some (ho_ gl W (4 + k.2)) else none
  | 13 => if k.2 < 8 then some (.inr (.inr (2, [.ref (ad (14, k.2)), .ref (ad (15, k.2)), .int (nI (cwg_ W k.2).1)]))) else none
  | 14 => if k.2 < 8 then some (.inl (0, 8, (cwg_ W k.2).2.1)) else none
  | 15 => if k.2 < 8 then some (.inl (0, 8, (cwg_ W k.2).2.2)) else none
  | 16 => if cwd_ W k.2 = true then some (he_ ad W k.2) else none
  | 17 => if cwd_ W k.2 = true then some (.inl (0, 4, fun b => Int32.ofInt (ex_ (cwe_ W k.2) b))) else none
  | 18 => if cwd_ W k.2 = true then some (.inl (0, 4, fun b => Int32.ofInt (ei_ (cwe_ W k.2) b))) else none
  | 19 => if cwd_ W k.2 = true then some (.inl (0, 16, fun q => Int32.ofInt (eo_ (cwe_ W k.2) (q / 4) (q % 4)))) else none
  | 20 => if cwd_ W k.2 = true then some (if k.2 ≤ 100 then .inr (.inl (6, 4, fun s => rf_ ad (el_ (cwe_ W k.2) s))) else ho_ gl W k.2) else none
  | 21 => if cwv_ W k.2 = true ∧ 0 < (cwk_ W k.2).1 then some (.inr (.inl (9, (cwk_ W k.2).1, fun i => (cwl_ W k.2)[i]?))) else none
  | 22 => (cwC_ W k.2).map (fun c => .inr (.inr (8, [va_rf (rf_ ad c.1), .int c.2.1, va_rf (rf_ ad c.2.2.1), va_rf (rf_ ad c.2.2.2)])))
  | 23 => (cwM_ W k.2).map (fun m => .inr (.inr (9, [.int (nI m.1), va_rf (rf_ ad m.2.1), va_rf (rf_ ad m.2.2.1), .int m.2.2.2.1, va_rf m.2.2.2.2])))
  | _ => none
/-- a kind's cell changed -/
def ku_ (H : Nat × Nat → Option ce_E) (k : Nat × Nat) (c : ce_E) : Nat × Nat → Option ce_E := fun q => if q = k then some c else H q
/-- foreign cells, and what lies there -/
abbrev fx_T : Type := (Nat → Prop) × (Nat → Option ce_E)
/-- the store holds H by ad: every kind's cell lies at its address, no two at one; foreign cells are as they were, the empty row of all lists among them -/
def cv_ (gl : gl_T) (fx : fx_T) (ad : Nat × Nat → Nat) (H : Nat × Nat → Option ce_E) (st : st_S) : Prop :=
  (∀ k c, H k = some c → st.1 (ad k) = some c) ∧ (∀ k j c d, H k = some c → H j = some d → ad k = ad j → k = j) ∧ sw_ st ∧
  (∀ k c, H k = some c → ¬ fx.1 (ad k)) ∧ (∀ a, fx.1 a → a < st.2 ∧ (a ≠ gl.1 → st.1 a = fx.2 a)) ∧ fx.1 gl.1
section CVA
variable {gl : gl_T} {fx : fx_T} {ad : Nat × Nat → Nat} {H H' : Nat × Nat → Option ce_E} {st : st_S} {k j : Nat × Nat} {c d : ce_E}
theorem cv_at (h : cv_ gl fx ad H st) (hk : H k = some c) : st.1 (ad k) = some c := h.1 k c hk
theorem cv_lt (h : cv_ gl fx ad H st) (hk : H k = some c) : ad k < st.2 := sw_lt h.2.2.1 (h.1 k c hk)
theorem cv_gl (h : cv_ gl fx ad H st) (hk : H k = some c) : ad k ≠ gl.1 := fun z => h.2.2.2.1 k c hk (by rw [z]; exact h.2.2.2.2.2)
theorem cv_gl2 (h : cv_ gl fx ad H st) : gl.1 < st.2 := (h.2.2.2.2.1 gl.1 h.2.2.2.2.2).1
theorem cv_ne (h : cv_ gl fx ad H st) (hk : H k = some c) (hj : H j = some d) (hkj : k ≠ j) : ad k ≠ ad j := fun z => hkj (h.2.1 k j c d hk hj z)
/-- a write -/
theorem cv_up (h : cv_ gl fx ad H st) (hk : H k = some d) : cv_ gl fx ad (ku_ H k c) (st_up st (ad k) c) := by
  obtain ⟨h1, h2, h3, h7, h8, h9⟩ := h
  have hlt := sw_lt h3 (h1 k d hk)
  have some_ : ∀ q x, ku_ H k c q = some x → ∃ y, H q = some y := fun q x hq => by
    unfold ku_ at hq
    by_cases z : q = k
    · exact ⟨d, by rw [z]; exact hk⟩
    · rw [if_neg z] at hq
      exact ⟨x, hq⟩
  refine ⟨fun q x hq => ?_, fun q r x y hq hr => ?_, sw_up h3 hlt, fun q x hq => ?_, fun a ha => ⟨(h8 a ha).1, fun hg => (up_n (fun z => ?_)).trans ((h8 a ha).2 hg)⟩, h9⟩
  · by_cases z : q = k
    · subst z
      unfold ku_ at hq
      rw [if_pos rfl] at hq
      cases hq
      exact up_s
    · have hq2 : H q = some x := by
        unfold ku_ at hq
        rw [if_neg z] at hq
        exact hq
      rw [up_n (fun w => z (h2 q k x d hq2 hk w))]
      exact h1 q x hq2
  · obtain ⟨x', hx⟩ := some_ q x hq
    obtain ⟨y', hy⟩ := some_ r y hr
    exact h2 q r x' y' hx hy
  · obtain ⟨x', hx⟩ := some_ q x hq
    exact h7 q x' hx
  · exact h7 k d hk (by rw [← z]; exact ha)
/-- what is claimed of fewer cells, or the same in other words -/
theorem cv_sub (h : cv_ gl fx ad H st) (hs : ∀ q x, H' q = some x → H q = some x) : cv_ gl fx ad H' st :=
  ⟨fun q x hq => h.1 q x (hs q x hq), fun q r x y hq hr => h.2.1 q r x y (hs q x hq) (hs r y hr), h.2.2.1, fun q x hq => h.2.2.2.1 q x (hs q x hq), h.2.2.2.2⟩
/-- a new cell -/
theorem cv_ad {ad' : Nat × Nat → Nat} (h : cv_ gl fx ad H st) (hk : H k = none) (ha : ∀ q x, H q = some x → ad' q = ad q) (hk2 : ad' k = st.2) : cv_ gl fx ad' (ku_ H k c) (st_ad st c) := by
  obtain ⟨h1, h2, h3, h7, h8, h9⟩ := h
  have cs : ∀ q x, ku_ H k c q = some x → (q = k ∧ x = c) ∨ (q ≠ k ∧ H q = some x) := fun q x hq => by
    unfold ku_ at hq
    by_cases z : q = k
    · rw [if_pos z] at hq
      exact Or.inl ⟨z, (Option.some.inj hq).symm⟩
    · rw [if_neg z] at hq
      exact Or.inr ⟨z, hq⟩
  refine ⟨fun q x hq => ?_, fun q r x y hq hr hqr => ?_, sw_ad h3, fun q x hq => ?_, fun a ha => ⟨Nat.lt_succ_of_lt (h8 a ha).1, fun hg => (ad_n (Nat.ne_of_lt (h8 a ha).1)).trans ((h8 a ha).2 hg)⟩, h9⟩
  · rcases cs q x hq with ⟨z, rfl⟩ | ⟨z, w⟩
    · rw [z, hk2]
      exact ad_s
    · rw [ha q x w, ad_n (Nat.ne_of_lt (sw_lt h3 (h1 q x w)))]
      exact h1 q x w
  · rcases cs q x hq with ⟨z, -⟩ | ⟨z, w⟩
    · rcases cs r y hr with ⟨z2, -⟩ | ⟨z2, w2⟩
      · rw [z, z2]
      · rw [z, hk2, ha r y w2] at hqr
        have := sw_lt h3 (h1 r y w2)
        omega
    · rcases cs r y hr with ⟨z2, -⟩ | ⟨z2, w2⟩
      · rw [z2, hk2, ha q x w] at hqr
        have := sw_lt h3 (h1 q x w)
        omega
      · rw [ha q x w, ha r y w2] at hqr
        exact h2 q r x y w w2 hqr
  · rcases cs q x hq with ⟨z, -⟩ | ⟨z, w⟩
    · rw [z, hk2]
      intro d
      have := (h8 _ d).1
      omega
    · rw [ha q x w]
      exact h7 q x w
end CVA
