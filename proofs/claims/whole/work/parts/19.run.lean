/-! Programs over stores, run forward. -/
section RUN
variable {α β : Type} {st st1 st2 : st_S}
theorem ru_r {a : β} : st_r a st = some (a, st, 0, 0) := rfl
theorem ru_g {f : st_S → Option α} {k : α → st_M β} {x : β × st_S × Nat × Nat} (a : α) (h1 : f st = some a) (h2 : k a st = some x) : st_g f k st = some x := by rw [st_g, h1]; exact h2
theorem ru_w {f : st_S → Option st_S} {k : st_M β} {x : β × st_S × Nat × Nat} (s1 : st_S) (h1 : f st = some s1) (h2 : k s1 = some x) : st_w f k st = some x := by rw [st_w, h1]; exact h2
theorem ru_b {x : st_M α} {k : α → st_M β} {r : β} {a : α} {i1 j1 i2 j2 i j : Nat} (h1 : x st = some (a, st1, i1, j1)) (h2 : k a st1 = some (r, st2, i2, j2)) (hi : i1 + i2 = i) (hj : j1 + j2 = j) : st_b x k st = some (r, st2, i, j) := by
  subst hi hj
  rw [st_b, h1]
  simp only [h2]
theorem ru_n {e : ce_E} {j0 : Nat} {k : Nat → st_M β} {r : β} {i2 j2 i j : Nat} (h : k st.2 (st_ad st e) = some (r, st2, i2, j2)) (hi : 1 + i2 = i) (hj : j0 + j2 = j) : st_n e j0 k st = some (r, st2, i, j) := by
  subst hi hj
  rw [st_n, h]
theorem ru_t {c : Prop} [Decidable c] {A B : st_M β} {x : β × st_S × Nat × Nat} (hc : c) (h : A st = some x) : (if c then A else B) st = some x := by rw [if_pos hc]; exact h
theorem ru_f {c : Prop} [Decidable c] {A B : st_M β} {x : β × st_S × Nat × Nat} (hc : ¬ c) (h : B st = some x) : (if c then A else B) st = some x := by rw [if_neg hc]; exact h
end RUN
section OPS
variable {st : st_S} {a b : Nat} {e : ce_E}
theorem up_s : (st_up st a e).1 a = some e := by simp [st_up]
theorem up_n (h : b ≠ a) : (st_up st a e).1 b = st.1 b := by simp [st_up, h]
theorem up_2 : (st_up st a e).2 = st.2 := rfl
theorem ad_s : (st_ad st e).1 st.2 = some e := by simp [st_ad]
theorem ad_n (h : b ≠ st.2) : (st_ad st e).1 b = st.1 b := by simp [st_ad, h]
theorem ad_2 : (st_ad st e).2 = st.2 + 1 := rfl
variable {ci k : Nat} {fs : List Value} {cis ts : List Nat}
theorem og_i {x : Int32} (h : st.1 a = some (.inr (.inr (ci, fs)))) (hc : ci ∈ cis) (hk : fs[k]? = some (.int x)) : so_gi (some a) cis k st = some x := by
  unfold so_gi so_g
  simp only [h]
  rw [if_pos hc, hk]
  rfl
theorem og_q {q : Option Nat} (h : st.1 a = some (.inr (.inr (ci, fs)))) (hc : ci ∈ cis) (hk : fs[k]? = some (va_rf q)) : so_gq (some a) cis k st = some q := by
  unfold so_gq so_g
  simp only [h]
  rw [if_pos hc, hk]
  cases q <;> rfl
theorem og_p {v : Value} (h : st.1 a = some (.inr (.inr (ci, fs)))) (hc : ci ∈ cis) (hk : k < fs.length) : so_p (some a) cis k v st = some (st_up st a (.inr (.inr (ci, fs.set k v)))) := by
  unfold so_p
  simp only [h]
  rw [if_pos ⟨hc, hk⟩]
theorem og_c (h : st.1 a = some (.inr (.inr (ci, fs)))) : so_c (some a) st = some ci := by
  unfold so_c
  simp only [h]
theorem og_m (h : st.1 a = some (.inr (.inr (ci, fs)))) (hc : ci ∈ cis) : so_cm (some a) cis st = some ci := by
  unfold so_cm
  simp only [h]
  rw [if_pos hc]
variable {t n i : Nat} {f : Nat → Option Nat} {g : Nat → Int32}
theorem og_lq (h : st.1 a = some (.inr (.inl (t, n, f)))) (ht : t ∈ ts) (hi : i < n) (hn : n < 2 ^ 31) : so_lq (some a) ts (nI i) st = some (f i) := by
  unfold so_lq
  simp only [h]
  have hc : (nI i).toNatClampNeg = i := nI_clamp (by omega)
  rw [if_pos ⟨ht, nI_pos (by omega), by rw [hc]; exact hi⟩, hc]
theorem og_sq {q : Option Nat} (h : st.1 a = some (.inr (.inl (t, n, f)))) (ht : t ∈ ts) (hi : i < n) (hn : n < 2 ^ 31) (hq : so_is st q cis = true) : so_sq (some a) ts cis (nI i) q st = some (st_up st a (.inr (.inl (t, n, va_up f i q)))) := by
  unfold so_sq
  simp only [h]
  have hc : (nI i).toNatClampNeg = i := nI_clamp (by omega)
  rw [if_pos ⟨ht, nI_pos (by omega), by rw [hc]; exact hi, hq⟩, hc]
theorem og_li (h : st.1 a = some (.inl (t, n, g))) (hi : i < n) (hn : n < 2 ^ 31) : so_li (some a) t (nI i) st = some (g i) := by
  unfold so_li
  simp only [h]
  have hc : (nI i).toNatClampNeg = i := nI_clamp (by omega)
  rw [if_pos ⟨trivial, nI_pos (by omega), by rw [hc]; exact hi⟩, hc]
theorem og_si {y : Int32} (h : st.1 a = some (.inl (t, n, g))) (hi : i < n) (hn : n < 2 ^ 31) : so_si (some a) t (nI i) y st = some (st_up st a (.inl (t, n, upd g i y))) := by
  unfold so_si
  simp only [h]
  have hc : (nI i).toNatClampNeg = i := nI_clamp (by omega)
  rw [if_pos ⟨trivial, nI_pos (by omega), by rw [hc]; exact hi⟩, hc]
theorem og_n (h : st.1 a = some (.inr (.inl (t, n, f)))) (ht : t ∈ ts) : so_n (some a) ts st = some (nI n) := by
  unfold so_n
  simp only [h]
  rw [if_pos ht]
  rfl
theorem og_ne {gl : gl_T} (h : st.1 a = some (.inr (.inl (t, n, f)))) (ht : t ∈ ts) (ha : a ≠ gl.1) : so_ne gl (some a) ts st = some (nI n) := by
  unfold so_ne
  rw [if_neg (fun z => ha (Option.some.inj z))]
  exact og_n h ht
theorem og_n0 {gl : gl_T} : so_ne gl (some gl.1) ts st = some (nI 0) := by
  unfold so_ne
  rw [if_pos rfl]
  rfl
theorem og_ro (h : st.1 a = some (.inr (.inl (t, n, f)))) (hn : 0 < n) : so_ro (some a) t st = some () := by
  unfold so_ro
  simp only [h]
  rw [if_pos ⟨trivial, hn⟩]
theorem og_cq {b0 b1 n0 n1 sp dp m : Nat} {f0 f1 : Nat → Option Nat} (h0 : st.1 b0 = some (.inr (.inl (t, n0, f0)))) (h1 : st.1 b1 = some (.inr (.inl (t, n1, f1)))) (hn0 : 0 < n0) (hn1 : 0 < n1) (hs : sp + m ≤ n0) (hd : dp + m ≤ n1) (hb0 : n0 < 2 ^ 31) (hb1 : n1 < 2 ^ 31) (hel : ∀ i, i < m → so_is st (f0 (sp + i)) cis = true) : so_cq (some b0) (nI sp) (some b1) (nI dp) (nI m) t cis st = some (st_up st b1 (.inr (.inl (t, n1, va_cpy f0 f1 sp dp m)))) := by
  unfold so_cq
  simp only [h0, h1]
  have e1 : (nI sp).toNatClampNeg = sp := nI_clamp (by omega)
  have e2 : (nI dp).toNatClampNeg = dp := nI_clamp (by omega)
  have e3 : (nI m).toNatClampNeg = m := nI_clamp (by omega)
  rw [e1, e2, e3]
  rw [if_pos ⟨trivial, trivial, hn0, hn1, nI_pos (by omega), nI_pos (by omega), nI_pos (by omega), hs, hd, hel⟩]
theorem og_is (h : st.1 b = some (.inr (.inr (ci, fs)))) (hc : ci ∈ cis) : so_is st (some b) cis = true := by
  unfold so_is
  simp only [h]
  exact decide_eq_true hc
theorem og_l {m : Nat} (h : m * 4 ≤ 536870912) : so_l (nI m) st = some () := by
  unfold so_l
  have e1 : (nI m).toNatClampNeg = m := nI_clamp (by omega)
  rw [if_pos ⟨nI_pos (by omega), by rw [e1]; exact h⟩]
end OPS
