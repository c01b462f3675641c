/-! The JDK's list: add, clear, a new one. -/
/-- nothing lies beyond the heap's end -/
def sw_ (st : st_S) : Prop := ∀ a, st.2 ≤ a → st.1 a = none
theorem sw_lt {st : st_S} (h : sw_ st) {a : Nat} {e : ce_E} (ha : st.1 a = some e) : a < st.2 := by
  refine Nat.not_le.mp fun z => ?_
  rw [h a z] at ha
  cases ha
theorem sw_up {st : st_S} (h : sw_ st) {a : Nat} {e : ce_E} (ha : a < st.2) : sw_ (st_up st a e) := by
  intro b hb
  have hb : st.2 ≤ b := hb
  rw [up_n (by omega)]
  exact h b hb
theorem sw_ad {st : st_S} (h : sw_ st) {e : ce_E} : sw_ (st_ad st e) := by
  intro b hb
  have hb : st.2 + 1 ≤ b := hb
  rw [ad_n (by omega)]
  exact h b (by omega)
section LSA
variable {gl : gl_T} {st : st_S} {la ea cap : Nat} {xs : List Nat} {mc : Int32}
theorem li_b11 {q n : Nat} {f : Nat → Option Nat} {m3 : Int32} {z : Int32} (h1 : st.1 la = some (.inr (.inr (6, [.ref ea, .int z, .int m3])))) (h2 : st.1 ea = some (.inr (.inl (9, cap, f)))) (hne : la ≠ ea) (hn : n < cap) (hc : cap < 2 ^ 31) (hq : so_is st (some q) [8, 9] = true) :
    al_add3_b11 gl (some la) (some q) (some ea) (nI n) st = some ((), st_up (st_up st ea (.inr (.inl (9, cap, va_up f n (some q))))) la (.inr (.inr (6, [.ref ea, .int (nI (n + 1)), .int m3]))), 0, 0) := by
  unfold al_add3_b11
  refine ru_w _ (og_sq h2 (by simp) hn hc hq) ?_
  rw [nI_1]
  exact ru_w _ (og_p ((up_n hne).trans h1) (by simp) (by simp)) ru_r
/-- a row that is full, made longer -/
theorem li_newlen {n : Nat} (h0 : 0 < n) (hn : n < 100000000) : as_newLength gl (nI n) (nI 1) (nI (n / 2)) st = some (nI (n + max 1 (n / 2)), st, 0, 0) := by
  unfold as_newLength
  have e : ma_max gl (nI 1) (nI (n / 2)) st = some (nI (max 1 (n / 2)), st, 0, 0) := by
    unfold ma_max
    by_cases hc : 1 < n / 2
    · refine ru_t (nI_lt hc (by omega)) ?_
      rw [show max 1 (n / 2) = n / 2 by omega]
      rfl
    · refine ru_f (nI_nlt (by omega) (by omega)) ?_
      rw [show max 1 (n / 2) = 1 by omega]
      rfl
  refine ru_b (i2 := 0) (j2 := 0) e ?_ rfl rfl
  rw [nI_add]
  refine ru_f (nI_nle (by omega) (by omega)) ?_
  refine ru_f ?_ ru_r
  show ¬ nI 2147483639 < nI (n + max 1 (n / 2))
  exact nI_nlt (by omega) (by decide)
theorem li_copy {f : Nat → Option Nat} {n : Nat} (hw : sw_ st) (h : st.1 ea = some (.inr (.inl (9, cap, f)))) (h0 : 0 < cap) (hea : ea ≠ gl.1) (hcn : cap ≤ n) (hn : n < 134217728) (hel : ∀ i, i < cap → so_is st (f i) [8, 9] = true) :
    ar_copyOf2 gl (some ea) (nI n) st = some (some st.2, st_up (st_ad st (.inr (.inl (9, n, fun _ => none)))) st.2 (.inr (.inl (9, n, va_cpy f (fun _ => none) 0 0 cap))), 1, n) := by
  have hlt := sw_lt hw h
  have ec : (nI n).toNatClampNeg = n := nI_clamp (by omega)
  unfold ar_copyOf2
  refine ru_g _ (og_ro h h0) ?_
  refine ru_b (i2 := 0) (j2 := 0) (i1 := 1) (j1 := n) (a := some st.2) ?_ rfl rfl rfl
  unfold ar_copyOf3
  refine ru_t rfl ?_
  refine ru_g _ (og_l (by omega)) ?_
  rw [ec]
  refine ru_n (i2 := 0) (j2 := 0) ?_ rfl rfl
  unfold ar_copyOf3_b24
  have h1 : (st_ad st (.inr (.inl (9, n, fun _ => none)))).1 ea = some (.inr (.inl (9, cap, f))) := (ad_n (by omega)).trans h
  refine ru_g _ (og_ne h1 (by simp) hea) ?_
  have e : ma_min gl (nI cap) (nI n) (st_ad st (.inr (.inl (9, n, fun _ => none)))) = some (nI cap, st_ad st (.inr (.inl (9, n, fun _ => none))), 0, 0) := by
    unfold ma_min
    exact ru_f (nI_nlt hcn (by omega)) ru_r
  refine ru_b (i2 := 0) (j2 := 0) e ?_ rfl rfl
  refine ru_w _ (og_cq (sp := 0) (dp := 0) h1 ad_s h0 (by omega) (by omega) (by omega) (by omega) (by omega) (fun i hi => ?_)) ru_r
  rw [Nat.zero_add]
  have h5 := hel i hi
  cases hf : f i with
  | none => rfl
  | some b =>
    rw [hf] at h5
    obtain ⟨ci, fs, h6, h7⟩ := so_is_some h5
    exact og_is ((ad_n (by have := sw_lt hw h6; omega)).trans h6) h7
theorem li_add {q : Nat} (hw : sw_ st) (hg : gl.1 < st.2) (h : lp_ gl st la ea cap xs mc) (hq : so_is st (some q) [8, 9] = true) (hel : ∀ x ∈ xs, so_is st (some x) [8, 9] = true) (hcap : cap < 60000000) :
    ∃ (st' : st_S) (ea' cap' i j : Nat), al_add1 gl (some la) (some q) st = some (1, st', i, j) ∧ lp_ gl st' la ea' cap' (xs ++ [q]) (mc + 1) ∧ sw_ st' ∧ (∀ a, a ≠ la → a ≠ ea → a < st.2 → st'.1 a = st.1 a) ∧
      ((i = 0 ∧ j = 0 ∧ st'.2 = st.2 ∧ ea' = ea ∧ cap' = cap ∧ xs.length < cap) ∨ (i = 1 ∧ j = cap' ∧ st'.2 = st.2 + 1 ∧ ea' = st.2 ∧ xs.length = cap ∧ cap' = (if cap = 0 then 10 else cap + max 1 (cap / 2)) ∧ (cap ≠ 0 → st'.1 ea = st.1 ea))) := by
  obtain ⟨a1, a2, a3, a4, a5⟩ := h
  have hla := sw_lt hw a1
  let s1 : st_S := st_up st la (.inr (.inr (6, [.ref ea, .int (nI xs.length), .int (mc + 1)])))
  have h1 : s1.1 la = some (.inr (.inr (6, [.ref ea, .int (nI xs.length), .int (mc + 1)]))) := up_s
  have hs1 : sw_ s1 := sw_up hw hla
  have his : ∀ x, so_is st (some x) [8, 9] = true → so_is s1 (some x) [8, 9] = true := by
    intro x hx
    obtain ⟨ci, fs, h6, h7⟩ := so_is_some hx
    refine og_is ((up_n (fun z => ?_)).trans h6) h7
    subst z
    rw [a1] at h6
    cases h6
    simp at h7
  have hset : ∀ (n : Nat) (f : Nat → Option Nat) (ys : List Nat), (∀ i, i < n → f i = ys[i]?) → ys.length = n → (∀ i, n < i → f i = none) → va_up f n (some q) = fun i => (ys ++ [q])[i]? := by
    intro n f ys hf hy hz
    funext i
    subst hy
    by_cases hi : i < ys.length
    · rw [show va_up f ys.length (some q) i = f i by simp [va_up]; omega, hf i hi, List.getElem?_append_left hi]
    · by_cases he : i = ys.length
      · subst he
        simp [va_up]
      · rw [show va_up f ys.length (some q) i = f i by simp [va_up, he], hz i (by omega), List.getElem?_eq_none (by simp; omega)]
  have start : ∀ (x : Int32 × st_S × Nat × Nat), (st_b (al_add3 gl (some la) (some q) (some ea) (nI xs.length)) fun _ => st_r (1 : Int32)) s1 = some x → al_add1 gl (some la) (some q) st = some x := by
    intro x hx
    unfold al_add1
    refine ru_g _ (og_i a1 (by simp) rfl) ?_
    refine ru_w s1 (og_p a1 (by simp) (by simp)) ?_
    refine ru_g _ (og_q (q := some ea) h1 (by simp) rfl) ?_
    refine ru_g _ (og_i h1 (by simp) rfl) ?_
    exact ru_g _ (og_m h1 (by simp)) hx
  rcases a5 with ⟨c0, ce⟩ | ⟨b1, b2, b3⟩
  · -- the first of all
    subst c0
    have hx0 : xs = [] := List.length_eq_zero_iff.mp (by omega)
    subst hx0
    subst ce
    let s2 : st_S := st_ad s1 (.inr (.inl (9, 10, fun _ => none)))
    have e2 : s1.2 = st.2 := rfl
    have h2 : s2.1 la = some (.inr (.inr (6, [.ref gl.1, .int (nI 0), .int (mc + 1)]))) := (ad_n (by rw [e2]; omega)).trans h1
    let s3 : st_S := st_up s2 la (.inr (.inr (6, [.ref st.2, .int (nI 0), .int (mc + 1)])))
    have h3 : s3.1 la = some (.inr (.inr (6, [.ref st.2, .int (nI 0), .int (mc + 1)]))) := up_s
    have h3e : s3.1 st.2 = some (.inr (.inl (9, 10, fun _ => none))) := (up_n (by omega)).trans ad_s
    have hgrow : al_grow1 gl (some la) (nI 0 + 1) s1 = some (some st.2, s3, 1, 10) := by
      unfold al_grow1
      refine ru_g _ (og_q (q := some gl.1) h1 (by simp) rfl) ?_
      refine ru_g _ og_n0 ?_
      refine ru_f (by decide) ?_
      refine ru_g _ (og_q (q := some gl.1) h1 (by simp) rfl) ?_
      refine ru_t rfl ?_
      refine ru_b (a := nI 10) (st1 := s1) (i1 := 0) (j1 := 0) (i2 := 1) (j2 := 10) ?_ ?_ rfl rfl
      · unfold ma_max
        exact ru_f (by decide) rfl
      · refine ru_g _ (og_l (by decide)) ?_
        refine ru_n (i2 := 0) (j2 := 0) ?_ rfl rfl
        exact ru_w s3 (og_p (v := .ref st.2) h2 (by simp) (by simp)) ru_r
    have hq3 : so_is s3 (some q) [8, 9] = true := by
      obtain ⟨ci, fs, h6, h7⟩ := so_is_some hq
      have hqlt := sw_lt hw h6
      have hql : q ≠ la := by
        intro z
        subst z
        rw [a1] at h6
        cases h6
        simp at h7
      exact og_is ((up_n hql).trans ((ad_n (by rw [e2]; omega)).trans ((up_n hql).trans h6))) h7
    have hb := li_b11 (gl := gl) (q := q) (n := 0) h3 h3e (by omega) (by omega) (by omega) hq3
    refine ⟨st_up (st_up s3 st.2 (.inr (.inl (9, 10, va_up (fun _ => none) 0 (some q))))) la (.inr (.inr (6, [.ref st.2, .int (nI (0 + 1)), .int (mc + 1)]))), st.2, 10, 1, 10, start _ (ru_b (a := ()) (i1 := 1) (j1 := 10) (i2 := 0) (j2 := 0) ?_ rfl rfl rfl), ⟨?_, by omega, by simp, by omega, Or.inr ⟨by omega, by omega, ?_⟩⟩, ?_, ?_, Or.inr ⟨rfl, rfl, ?_, rfl, rfl, rfl, fun z => absurd rfl z⟩⟩
    · unfold al_add3
      refine ru_g _ og_n0 ?_
      refine ru_t rfl ?_
      refine ru_g _ (og_m h1 (by simp)) ?_
      refine ru_b (i1 := 1) (j1 := 10) (i2 := 0) (j2 := 0) (a := some st.2) (st1 := s3) ?_ hb rfl rfl
      unfold al_grow0
      refine ru_g _ (og_i h1 (by simp) rfl) ?_
      refine ru_g _ (og_m h1 (by simp)) ?_
      exact ru_b hgrow ru_r rfl rfl
    · exact up_s
    · rw [up_n (by omega), up_s, hset 0 (fun _ => none) [] (fun i hi => absurd hi (Nat.not_lt_zero _)) rfl (fun _ _ => rfl)]
    · have hs3 : sw_ s3 := sw_up (sw_ad hs1) (by show la < s1.2 + 1; omega)
      exact sw_up (sw_up hs3 (by show st.2 < s1.2 + 1; omega)) (by show la < s1.2 + 1; omega)
    · intro a ha hb2 hlt
      rw [up_n ha, up_n (by omega)]
      exact (up_n ha).trans ((ad_n (by rw [e2]; omega)).trans (up_n ha))
    · rfl
  · have hea := sw_lt hw b3
    have h1e : s1.1 ea = some (.inr (.inl (9, cap, fun i => xs[i]?))) := (up_n (Ne.symm a2)).trans b3
    by_cases hfull : xs.length < cap
    · -- there is room
      have hb := li_b11 (gl := gl) (q := q) (n := xs.length) h1 h1e a2 hfull (by omega) (his q hq)
      refine ⟨st_up (st_up s1 ea (.inr (.inl (9, cap, va_up (fun i => xs[i]?) xs.length (some q))))) la (.inr (.inr (6, [.ref ea, .int (nI (xs.length + 1)), .int (mc + 1)]))), ea, cap, 0, 0, start _ (ru_b (a := ()) (i1 := 0) (j1 := 0) (i2 := 0) (j2 := 0) ?_ rfl rfl rfl), ⟨?_, a2, by simp; omega, a4, Or.inr ⟨b1, b2, ?_⟩⟩, ?_, ?_, Or.inl ⟨rfl, rfl, rfl, rfl, rfl, hfull⟩⟩
      · unfold al_add3
        refine ru_g _ (og_ne h1e (by simp) b2) ?_
        exact ru_f (fun z => by have := (nI_eq (by omega) (by omega)).mp z; omega) hb
      · rw [up_s]
        simp
      · rw [up_n (Ne.symm a2), up_s, hset xs.length _ xs (fun i hi => rfl) rfl (fun i hi => List.getElem?_eq_none (by omega))]
      · exact sw_up (sw_up hs1 (by show ea < st.2; omega)) (by show la < st.2; omega)
      · intro a ha hb2 hlt
        rw [up_n ha, up_n hb2]
        exact up_n ha
    · -- the row is full
      have hlen : xs.length = cap := by omega
      have hcp := li_copy (gl := gl) (n := cap + max 1 (cap / 2)) hs1 h1e b1 b2 (by omega) (by omega) (fun i hi => by
        rw [show xs[i]? = some xs[i] from List.getElem?_eq_getElem (by omega)]
        exact his _ (hel _ (List.getElem_mem _)))
      have e2 : s1.2 = st.2 := rfl
      rw [e2] at hcp
      generalize hs2 : st_up (st_ad s1 (.inr (.inl (9, cap + max 1 (cap / 2), fun _ => none)))) st.2 (.inr (.inl (9, cap + max 1 (cap / 2), va_cpy (fun i => xs[i]?) (fun _ => none) 0 0 cap))) = s2 at hcp
      have g2 : s2.2 = st.2 + 1 := by rw [← hs2]; rfl
      have h2 : s2.1 la = some (.inr (.inr (6, [.ref ea, .int (nI xs.length), .int (mc + 1)]))) := by rw [← hs2]; exact (up_n (by omega)).trans ((ad_n (by rw [e2]; omega)).trans h1)
      have h2n : s2.1 st.2 = some (.inr (.inl (9, cap + max 1 (cap / 2), va_cpy (fun i => xs[i]?) (fun _ => none) 0 0 cap))) := by rw [← hs2]; exact up_s
      have h2o : ∀ a, a ≠ la → a < st.2 → s2.1 a = st.1 a := fun a ha hlt => by rw [← hs2]; exact (up_n (by omega)).trans ((ad_n (by rw [e2]; omega)).trans (up_n ha))
      have hsw2 : sw_ s2 := by rw [← hs2]; exact sw_up (sw_ad hs1) (by show st.2 < s1.2 + 1; omega)
      let s3 : st_S := st_up s2 la (.inr (.inr (6, [.ref st.2, .int (nI xs.length), .int (mc + 1)])))
      have h3 : s3.1 la = some (.inr (.inr (6, [.ref st.2, .int (nI xs.length), .int (mc + 1)]))) := up_s
      have h3e : s3.1 st.2 = some (.inr (.inl (9, cap + max 1 (cap / 2), va_cpy (fun i => xs[i]?) (fun _ => none) 0 0 cap))) := (up_n (by omega)).trans h2n
      have hq3 : so_is s3 (some q) [8, 9] = true := by
        obtain ⟨ci, fs, h6, h7⟩ := so_is_some hq
        have hql : q ≠ la := by
          intro z
          subst z
          rw [a1] at h6
          cases h6
          simp at h7
        exact og_is ((up_n hql).trans ((h2o q hql (sw_lt hw h6)).trans h6)) h7
      have hgrow : al_grow1 gl (some la) (nI xs.length + 1) s1 = some (some st.2, s3, 1, cap + max 1 (cap / 2)) := by
        unfold al_grow1
        refine ru_g _ (og_q (q := some ea) h1 (by simp) rfl) ?_
        refine ru_g _ (og_ne h1e (by simp) b2) ?_
        refine ru_t (show nI 0 < nI cap from nI_lt b1 (by omega)) ?_
        unfold al_grow1_b20
        have e3 : nI xs.length + 1 - nI cap = nI 1 := by rw [nI_1, hlen, pk_sub (by omega)]; congr 1; omega
        have e4 : nI cap >>> ((1 : Int32) &&& 31) = nI (cap / 2) := by
          have k := pk_shrN (n := cap) (by omega) ((1 : Int32) &&& 31) 1 (by decide)
          rw [Nat.pow_one] at k
          exact k
        rw [e3, e4]
        refine ru_b (i2 := 1) (j2 := cap + max 1 (cap / 2)) (li_newlen b1 (by omega)) ?_ (by omega) (by omega)
        refine ru_g _ (og_q (q := some ea) h1 (by simp) rfl) ?_
        refine ru_b (i2 := 0) (j2 := 0) hcp ?_ rfl rfl
        exact ru_w s3 (og_p (v := .ref st.2) h2 (by simp) (by simp)) ru_r
      have hb := li_b11 (gl := gl) (q := q) (n := xs.length) h3 h3e (by omega) (by omega) (by omega) hq3
      refine ⟨st_up (st_up s3 st.2 (.inr (.inl (9, cap + max 1 (cap / 2), va_up (va_cpy (fun i => xs[i]?) (fun _ => none) 0 0 cap) xs.length (some q))))) la (.inr (.inr (6, [.ref st.2, .int (nI (xs.length + 1)), .int (mc + 1)]))), st.2, cap + max 1 (cap / 2), 1, cap + max 1 (cap / 2), start _ (ru_b (a := ()) (i1 := 1) (j1 := cap + max 1 (cap / 2)) (i2 := 0) (j2 := 0) ?_ rfl rfl (by omega)), ⟨?_, by omega, by simp; omega, by omega, Or.inr ⟨by omega, by omega, ?_⟩⟩, ?_, ?_, Or.inr ⟨rfl, rfl, ?_, rfl, hlen, by rw [if_neg (by omega)], fun _ => ?_⟩⟩
      · unfold al_add3
        refine ru_g _ (og_ne h1e (by simp) b2) ?_
        refine ru_t (by rw [hlen]) ?_
        refine ru_g _ (og_m h1 (by simp)) ?_
        refine ru_b (i1 := 1) (j1 := cap + max 1 (cap / 2)) (i2 := 0) (j2 := 0) (a := some st.2) (st1 := s3) ?_ hb rfl (by omega)
        unfold al_grow0
        refine ru_g _ (og_i h1 (by simp) rfl) ?_
        refine ru_g _ (og_m h1 (by simp)) ?_
        exact ru_b hgrow ru_r rfl (by omega)
      · rw [up_s]
        simp
      · rw [up_n (by omega), up_s, hset xs.length _ xs (fun i hi => ?_) rfl (fun i hi => ?_)]
        · rw [pk_cpy_in (Nat.zero_le _) (by omega)]
          simp
        · rw [pk_cpy_out (Or.inr (by omega))]
      · exact sw_up (sw_up (sw_up hsw2 (by omega)) (by show st.2 < s2.2; omega)) (by show la < s2.2; omega)
      · intro a ha hb2 hlt
        rw [up_n ha, up_n (by omega), up_n ha]
        exact h2o a ha hlt
      · exact g2
      · rw [up_n (Ne.symm a2), up_n (by omega), up_n (Ne.symm a2)]
        exact h2o ea (Ne.symm a2) hea
end LSA
