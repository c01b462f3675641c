/-! The class's picture against the mathematical state; messages are made and posted. -/
/-- a message as it lies, its call with it -/
def mwv_ (W : cw_W) (a : Nat) : Option (Nat × Nat × Nat × Int32 × Option (Option (Nat × Int32 × Nat × Nat))) := (cwM_ W a).map (fun m => (m.1, m.2.1, m.2.2.1, m.2.2.2.1, m.2.2.2.2.map (cwC_ W)))
/-- a message of the mathematical state, the same way -/
def mzv_ (r : zm_L) : Nat × Nat × Nat × Int32 × Option (Option (Nat × Int32 × Nat × Nat)) := (r.1, r.2.2.2.1, r.2.2.2.2.2.1, if r.1 = 1 then 0 else r.2.2.2.2.1, if r.1 = 1 then some (some (r.2.2.2.1, r.2.2.2.2.1, r.2.2.2.2.2.1, r.2.2.2.2.2.2)) else none)
def rwl_ (Z : zz_S) (W : cw_W) (L : Nat) : Prop := (cwl_ W L).map (cwC_ W) = ((zr_ Z).filter (fun r => r.1 == L)).map (fun r => some r.2)
def rwc_ (Z : zz_S) (W : cw_W) (a b : Nat) : Prop := (cwl_ W (4 + (4 * a + b))).map (mwv_ W) = ((zl_ Z).filter (fun r => r.2.1 == a && r.2.2.1 == b)).map (fun r => some (mzv_ r))
/-- the class's picture shows Z; the list s, if any, is being emptied -/
def RW (Z : zz_S) (W : cw_W) (s : Nat) : Prop := cwN_ W = Z.1 ∧ (∀ e, cwd_ W e = zk_made Z e) ∧ cwe_ W = ze_ Z ∧ cwt_ W = zt_ Z ∧
  (∀ g, g < 8 → (cwg_ W g).1 = (zg_ Z g).length ∧ ∀ i q, (zg_ Z g)[i]? = some q → (cwg_ W g).2.1 i = q.1 ∧ (cwg_ W g).2.2 i = q.2) ∧
  (∀ L, cwv_ W L = true → L < 4 ∨ 100 < L → L ≠ s → rwl_ Z W L) ∧ (∀ a b, a < zn_ Z → b < zn_ Z → rwc_ Z W a b) ∧ wf_ W
/-- the lost answers -/
def lr_ (ad : Nat × Nat → Nat) (W : cw_W) (lost : List Nat) : Prop := (cwL_ W).1 = nI lost.length ∧ lost.length ≤ 100 ∧ ∀ i q, lost[i]? = some q → (cwL_ W).2 i = some (ad (16, q))
/-- messages stay as they are, calls but for their targets -/
def mf_ (W W' : cw_W) : Prop := (∀ y m, cwM_ W y = some m → cwM_ W' y = some m) ∧ cwd_ W' = cwd_ W ∧ ∀ y c, cwC_ W y = some c → ∃ t, cwC_ W' y = some (t, c.2) ∧ (t = c.1 ∨ cwd_ W' t = true)
/-- the turn and the messages as they were -/
def tm_ (W W' : cw_W) : Prop := cwT_ W' = cwT_ W ∧ mf_ W W'
theorem mf_t {W W' W2 : cw_W} (h1 : mf_ W W') (h2 : mf_ W' W2) : mf_ W W2 := ⟨fun y m h => h2.1 y m (h1.1 y m h), h2.2.1.trans h1.2.1, fun y c hc => by
  obtain ⟨t, k1, k2⟩ := h1.2.2 y c hc
  obtain ⟨t2, k3, k4⟩ := h2.2.2 y _ k1
  refine ⟨t2, k3, ?_⟩
  rcases k4 with k4 | k4
  · rcases k2 with k2 | k2
    · exact Or.inl (k4.trans k2)
    · exact Or.inr (by rw [k4, h2.2.1]; exact k2)
  · exact Or.inr k4⟩
theorem mf_s {W W' : cw_W} (h1 : cwM_ W' = cwM_ W) (h2 : cwd_ W' = cwd_ W) (h3 : cwC_ W' = cwC_ W) : mf_ W W' := ⟨fun y m h => by rw [h1]; exact h, h2, fun y c hc => ⟨c.1, by rw [h3]; exact hc, Or.inl rfl⟩⟩
theorem mf_C {W : cw_W} {a t t2 e q : Nat} {x : Int32} (hc : cwC_ W a = some (t, x, e, q)) (ht : cwd_ W t2 = true) : mf_ W (cj_C W a (some (t2, x, e, q))) := ⟨fun y m h => h, rfl, fun y c hy => by
  by_cases hya : y = a
  · subst hya
    rw [hc] at hy
    cases hy
    exact ⟨t2, va_up_self _ _ _, Or.inr ht⟩
  · exact ⟨c.1, (va_up_ne _ _ hya).trans hy, Or.inl rfl⟩⟩
theorem tm_t {W W' W2 : cw_W} (h1 : tm_ W W') (h2 : tm_ W' W2) : tm_ W W2 := ⟨h2.1.trans h1.1, mf_t h1.2 h2.2⟩
theorem mf_new {W W' : cw_W} {q : Nat} {m : Nat × Nat × Nat × Int32 × Option Nat} (hn : cwM_ W q = none) (h : cwM_ W' = cwM_ (cj_M W q (some m))) (h2 : cwd_ W' = cwd_ W) (h3 : cwC_ W' = cwC_ W) : mf_ W W' := ⟨fun y n hy => by
  rw [h]
  have : y ≠ q := fun z => by rw [z, hn] at hy; cases hy
  rw [show cwM_ (cj_M W q (some m)) y = cwM_ W y from va_up_ne _ _ this]
  exact hy, h2, fun y c hc => ⟨c.1, by rw [h3]; exact hc, Or.inl rfl⟩⟩
section CRW
variable {gl : gl_T} {fx : fx_T} {ad : Nat × Nat → Nat} {W W' : cw_W} {st : st_S} {Z X : zz_S} {e a b s v L g u q kind what arg : Nat} {x : Int32}
theorem RW_n (h : RW Z W s) : cwn_ W = zn_ Z ∧ cwo_ W = zo_ Z ∧ cwp_ W = zp_ Z := by
  unfold cwn_ cwo_ cwp_ zn_ zo_ zp_
  rw [h.1]
  exact ⟨rfl, rfl, rfl⟩
theorem RW_d (h : RW Z W s) (hz : zw_n Z) : ∀ e, cwd_ W e = true → e ≤ 200 := fun e he => by
  rw [h.2.1 e] at he
  exact zk_K2 hz (Or.inr he)
theorem ad_up {c c1 : ce_E} : st_up (st_ad st c) st.2 c1 = st_ad st c1 := by
  unfold st_up st_ad
  refine Prod.ext (funext (fun q => ?_)) rfl
  show (if q = st.2 then some c1 else if q = st.2 then some c else st.1 q) = if q = st.2 then some c1 else st.1 q
  split <;> rfl
theorem xM_ok {k : Int32} {r1 r2 : Option Nat} : xM_init gl (some st.2) k r1 r2 x (st_ad st (.inr (.inr (9, cd_9)))) = some ((), st_ad st (.inr (.inr (9, [.int k, va_rf r1, va_rf r2, .int x, .null]))), 0, 0) := by
  unfold xM_init
  refine ru_g _ (og_c ad_s) ?_
  refine ru_w _ (og_p ad_s (by simp) (by simp [cd_9])) ?_
  rw [ad_up]
  refine ru_w _ (og_p ad_s (by simp) (by simp [cd_9])) ?_
  rw [ad_up]
  refine ru_w _ (og_p ad_s (by simp) (by simp [cd_9])) ?_
  rw [ad_up]
  refine ru_w _ (og_p ad_s (by simp) (by simp [cd_9])) ?_
  rw [ad_up]
  rfl
theorem cu_newM (h : CW gl fx ad W st) {m : Nat × Nat × Nat × Int32 × Option Nat} : CW gl fx ad (cj_M W st.2 (some m)) (st_ad st (.inr (.inr (9, [.int (nI m.1), va_rf (rf_ ad m.2.1), va_rf (rf_ ad m.2.2.1), .int m.2.2.2.1, va_rf m.2.2.2.2])))) := by
  unfold CW
  rw [hu_M]
  refine cv_ad (ad := aw_ ad W) h ?_ (fun q x hq => rfl) rfl
  show (cwM_ W st.2).map _ = none
  rw [new_M h]
  rfl
theorem mwv_n {m : Option (Nat × Nat × Nat × Int32 × Option Nat)} {c : Nat} (hc : cwM_ W a = none) (h : mwv_ W c ≠ none) : mwv_ (cj_M W a m) c = mwv_ W c := by
  have hca : c ≠ a := fun z => h (by unfold mwv_; rw [z, hc]; rfl)
  unfold mwv_
  rw [show cwM_ (cj_M W a m) c = cwM_ W c from va_up_ne _ _ hca]
  rfl
theorem map_some_ne {α β : Type} {f : α → Option β} {l : List α} {m : List β} (h : l.map f = m.map some) : ∀ c ∈ l, f c ≠ none := fun c hc z => by
  have : f c ∈ l.map f := List.mem_map.mpr ⟨c, hc, rfl⟩
  rw [h, z] at this
  obtain ⟨y, -, hy⟩ := List.mem_map.mp this
  cases hy
theorem rwc_some (h : rwc_ Z W a b) : ∀ c ∈ cwl_ W (4 + (4 * a + b)), mwv_ W c ≠ none := map_some_ne (m := ((zl_ Z).filter (fun r => r.2.1 == a && r.2.2.1 == b)).map mzv_) (by
  rw [List.map_map]
  exact h)
theorem rwl_some (h : rwl_ Z W L) : ∀ c ∈ cwl_ W L, cwC_ W c ≠ none := map_some_ne (m := ((zr_ Z).filter (fun r => r.1 == L)).map (fun r => r.2)) (by
  rw [List.map_map]
  exact h)
/-- a new message object that nobody holds yet -/
theorem RW_newM (h : RW Z W s) (hn : cwM_ W q = none) {m : Nat × Nat × Nat × Int32 × Option Nat} : RW Z (cj_M W q (some m)) s := by
  obtain ⟨h1, h2, h3, h4, h5, h6, h7, h8⟩ := h
  refine ⟨h1, h2, h3, h4, h5, h6, fun a b ha hb => ?_, fun L hL => ?_⟩
  · have := h7 a b ha hb
    have hs := rwc_some this
    unfold rwc_ at this ⊢
    rw [← this]
    exact List.map_congr_left (fun c hc => mwv_n hn (hs c hc))
  · obtain ⟨w1, w2, w3⟩ := h8 L hL
    refine ⟨w1, w2, fun c hc => (w3 c hc).imp id (fun z w => ?_)⟩
    by_cases hcq : c = q
    · subst hcq
      exact z hn
    · rw [show cwM_ (cj_M W q (some m)) c = cwM_ W c from va_up_ne _ _ hcq] at w
      exact z w
theorem wf_add (hw : wf_ W) (ha : wad_ W W' L q) (hq : cwC_ W q ≠ none ∨ cwM_ W q ≠ none) (hlen : (cwl_ W L).length ≤ 2401) : wf_ W' := by
  obtain ⟨cap', ea', rfl, k1, k2⟩ := ha
  intro K hK
  have hK2 : cwv_ W K = true := hK
  obtain ⟨w1, w2, w3⟩ := hw K hK2
  by_cases c : K = L
  · subst c
    have e1 : cwk_ (cj_k (cj_l W K (cwl_ W K ++ [q])) K (cap', (cwk_ W K).2.1 + 1, ea')) K = (cap', (cwk_ W K).2.1 + 1, ea') := va_up_self _ _ _
    have e2 : cwl_ (cj_k (cj_l W K (cwl_ W K ++ [q])) K (cap', (cwk_ W K).2.1 + 1, ea')) K = cwl_ W K ++ [q] := va_up_self _ _ _
    rw [e1, e2]
    refine ⟨by rw [List.length_append, List.length_singleton]; exact k1, ?_, fun y hy => ?_⟩
    · show cap' < 3700
      rcases k2 with k2 | k2
      · omega
      · have k3 := k2.2
        split at k3 <;> omega
    · rcases List.mem_append.mp hy with hy | hy
      · exact w3 y hy
      · rw [List.mem_singleton] at hy
        rw [hy]
        exact hq
  · have e1 : cwk_ (cj_k (cj_l W L (cwl_ W L ++ [q])) L (cap', (cwk_ W L).2.1 + 1, ea')) K = cwk_ W K := va_up_ne _ _ c
    have e2 : cwl_ (cj_k (cj_l W L (cwl_ W L ++ [q])) L (cap', (cwk_ W L).2.1 + 1, ea')) K = cwl_ W K := va_up_ne _ _ c
    rw [e1, e2]
    exact ⟨w1, w2, w3⟩
theorem wad_l (ha : wad_ W W' L q) : cwl_ W' L = cwl_ W L ++ [q] := by
  obtain ⟨cap', ea', rfl, -⟩ := ha
  exact va_up_self _ _ _
theorem wad_n (ha : wad_ W W' L q) {K : Nat} (hK : K ≠ L) : cwl_ W' K = cwl_ W K := by
  obtain ⟨cap', ea', rfl, -⟩ := ha
  exact va_up_ne _ _ hK
theorem wad_e (ha : wad_ W W' L q) : cwN_ W' = cwN_ W ∧ cwd_ W' = cwd_ W ∧ cwg_ W' = cwg_ W ∧ cwe_ W' = cwe_ W ∧ cwc_ W' = cwc_ W ∧ cwC_ W' = cwC_ W ∧ cwM_ W' = cwM_ W ∧ cwt_ W' = cwt_ W ∧ cwT_ W' = cwT_ W ∧ cwL_ W' = cwL_ W ∧ cwF_ W' = cwF_ W := by
  obtain ⟨cap', ea', rfl, -⟩ := ha
  exact ⟨rfl, rfl, rfl, rfl, rfl, rfl, rfl, rfl, rfl, rfl, rfl⟩
theorem wad_v (ha : wad_ W W' L q) : cwv_ W' = cwv_ W := by
  obtain ⟨cap', ea', rfl, -⟩ := ha
  rfl
/-- a message is posted -/
theorem RW_post (h : RW Z W s) (ha4 : a < 4) (hb4 : b < 4) (ha : wad_ W W' (4 + (4 * a + b)) q) {r : zm_L} (hr : r.2.1 = a ∧ r.2.2.1 = b) (hq : mwv_ W q = some (mzv_ r)) (hlen : (zl_ Z).length ≤ 2400) (han : a < zn_ Z) (hbn : b < zn_ Z) (hn4 : zn_ Z ≤ 4) : RW (zj_l Z (zl_ Z ++ [r])) W' s := by
  obtain ⟨h1, h2, h3, h4, h5, h6, h7, h8⟩ := h
  obtain ⟨e1, e2, e3, e4, e5, e6, e7, e8, e9, e10, e11⟩ := wad_e ha
  have hmw : mwv_ W' = mwv_ W := by
    funext c
    unfold mwv_
    rw [e7, e6]
  have hM : cwM_ W q ≠ none := fun z => by
    unfold mwv_ at hq
    rw [z] at hq
    cases hq
  refine ⟨by rw [e1]; exact h1, fun e => by rw [e2]; exact h2 e, by rw [e4]; exact h3, by rw [e8]; exact h4, fun g hg => by rw [e3]; exact h5 g hg, fun K hK hK2 hKs => ?_, fun c d hc hd => ?_, ?_⟩
  · rw [wad_v ha] at hK
    have := h6 K hK hK2 hKs
    unfold rwl_ at this ⊢
    rw [wad_n ha (by omega), e6]
    exact this
  · have := h7 c d hc hd
    unfold rwc_ at this ⊢
    rw [hmw]
    show _ = ((zl_ Z ++ [r]).filter _).map _
    rw [List.filter_append, List.map_append]
    by_cases cd : c = a ∧ d = b
    · obtain ⟨rfl, rfl⟩ := cd
      rw [wad_l ha, List.map_append, this, List.filter_cons_of_pos (by rw [hr.1, hr.2]; simp)]
      rw [List.map_cons, hq]
      rfl
    · rw [wad_n ha (fun z => cd (by
        have hc4 : c < 4 := Nat.lt_of_lt_of_le hc hn4
        have hd4 : d < 4 := Nat.lt_of_lt_of_le hd hn4
        omega)), this, List.filter_cons_of_neg (by rw [hr.1, hr.2]; simp; intro z w; exact cd ⟨z.symm, w.symm⟩)]
      simp
  · refine wf_add h8 ha (Or.inr hM) ?_
    have := congrArg List.length (h7 a b han hbn)
    rw [List.length_map, List.length_map] at this
    rw [this]
    exact Nat.le_trans (List.length_filter_le _ _) (by omega)
end CRW
