/-! The class: a call arrives. -/
/-- a call that no list and no message holds -/
def fa_ (W : cw_W) (s n a : Nat) : Prop := (∀ L, cwv_ W L = true → L < 4 ∨ 100 < L → L ≠ s → a ∉ cwl_ W L) ∧ ∀ c d, c < n → d < n → ∀ y ∈ cwl_ W (4 + (4 * c + d)), ∀ m, cwM_ W y = some m → m.2.2.2.2 ≠ some a
/-- the turn, the other calls and the list s as they were -/
def af_ (W W' : cw_W) (a s : Nat) : Prop := cwT_ W' = cwT_ W ∧ (∀ c, c ≠ a → cwC_ W' c = cwC_ W c) ∧ cwl_ W' s = cwl_ W s ∧ mf_ W W'
section CAR
variable {gl : gl_T} {fx : fx_T} {ad : Nat × Nat → Nat} {W W' : cw_W} {st : st_S} {Z X : zz_S} {e a b s v L g u q t h : Nat} {x : Int32} {lost : List Nat}
theorem og_i1 {ci : Nat} {fs : List Value} {yes no : List Nat} (h1 : st.1 a = some (.inr (.inr (ci, fs)))) (hc : ci ∈ yes) : so_i (some a) yes no st = some 1 := by
  unfold so_i
  simp only [h1]
  rw [if_pos hc]
theorem og_i0 {ci : Nat} {fs : List Value} {yes no : List Nat} (h1 : st.1 a = some (.inr (.inr (ci, fs)))) (hc : ci ∉ yes) (hn : ci ∈ no) : so_i (some a) yes no st = some 0 := by
  unfold so_i
  simp only [h1]
  rw [if_neg hc, if_pos hn]
theorem og_k {ci : Nat} {fs : List Value} {yes : List Nat} (h1 : st.1 a = some (.inr (.inr (ci, fs)))) (hc : ci ∈ yes) : so_k (some a) yes st = some () := by
  unfold so_k
  simp only [h1]
  rw [if_pos hc]
theorem RW_dd (h : RW Z W' s) (hR : RW Z W s) : cwd_ W' = cwd_ W := funext (fun e => (h.2.1 e).trans (hR.2.1 e).symm)
theorem RW_C (hR : RW Z W s) (fa : fa_ W s (zn_ Z) a) {c : Nat × Int32 × Nat × Nat} : RW Z (cj_C W a (some c)) s := by
  obtain ⟨h1, h2, h3, h4, h5, h6, h7, h8⟩ := hR
  refine ⟨h1, h2, h3, h4, h5, fun L hL hL2 hLs => ?_, fun c' d hc hd => ?_, fun L hL => ?_⟩
  · have := h6 L hL hL2 hLs
    have hna := fa.1 L hL hL2 hLs
    unfold rwl_ at this ⊢
    rw [← this]
    exact List.map_congr_left (fun y hy => va_up_ne _ _ (fun z => hna (by rw [← z]; exact hy)))
  · have := h7 c' d hc hd
    unfold rwc_ at this ⊢
    rw [← this]
    refine List.map_congr_left (fun y hy => ?_)
    unfold mwv_
    show (cwM_ W y).map _ = (cwM_ W y).map _
    cases hm : cwM_ W y with
    | none => rfl
    | some m =>
      have hna := fa.2 c' d hc hd y hy m hm
      show some (_, _, _, _, m.2.2.2.2.map (cwC_ (cj_C W a (some c)))) = some (_, _, _, _, m.2.2.2.2.map (cwC_ W))
      cases hb : m.2.2.2.2 with
      | none => rfl
      | some y2 =>
        have : y2 ≠ a := fun z => hna (by rw [hb, z])
        show some (_, _, _, _, some (cwC_ (cj_C W a (some c)) y2)) = some (_, _, _, _, some (cwC_ W y2))
        rw [show cwC_ (cj_C W a (some c)) y2 = cwC_ W y2 from va_up_ne _ _ this]
  · obtain ⟨w1, w2, w3⟩ := h8 L hL
    refine ⟨w1, w2, fun y hy => (w3 y hy).imp (fun z w => ?_) id⟩
    by_cases hya : y = a
    · subst hya
      rw [show cwC_ (cj_C W y (some c)) y = some c from va_up_self _ _ _] at w
      cases w
    · rw [show cwC_ (cj_C W a (some c)) y = cwC_ W y from va_up_ne _ _ hya] at w
      exact z w
theorem fa_C (fa : fa_ W s v a) {c : Nat × Int32 × Nat × Nat} : fa_ (cj_C W a (some c)) s v a := fa
theorem RW_rest (hR : RW Z W s) (hz : zw_n Z) (ha : wad_ W W' L a) (hL : L < 4 ∨ 100 < L) (hv : cwv_ W L = true) (hLs : L ≠ s) {r : zr_R} (hr : r.1 = L) (hc : cwC_ W a = some r.2) (hlen : (zr_ Z).length ≤ 2400) : RW (zj_r Z (zr_ Z ++ [r])) W' s := by
  obtain ⟨h1, h2, h3, h4, h5, h6, h7, h8⟩ := hR
  obtain ⟨e1, e2, e3, e4, e5, e6, e7, e8, e9, e10, e11⟩ := wad_e ha
  have hmw : mwv_ W' = mwv_ W := by
    funext c
    unfold mwv_
    rw [e7, e6]
  refine ⟨by rw [e1]; exact h1, fun e => by rw [e2]; exact h2 e, by rw [e4]; exact h3, by rw [e8]; exact h4, fun g hg => by rw [e3]; exact h5 g hg, fun K hK hK2 hKs => ?_, fun c d hc hd => ?_, ?_⟩
  · rw [wad_v ha] at hK
    have := h6 K hK hK2 hKs
    unfold rwl_ at this ⊢
    show _ = ((zr_ Z ++ [r]).filter _).map _
    rw [e6, List.filter_append, List.map_append]
    by_cases cd : K = L
    · subst cd
      rw [wad_l ha, List.map_append, this, List.filter_cons_of_pos (by rw [hr]; simp)]
      rw [List.map_cons, hc]
      rfl
    · rw [wad_n ha cd, this, List.filter_cons_of_neg (by rw [hr]; simp; exact fun z => cd z.symm)]
      simp
  · have := h7 c d hc hd
    have hn4 := hz.2.1
    have hc' : c < zn_ Z := hc
    have hd' : d < zn_ Z := hd
    unfold rwc_ at this ⊢
    rw [hmw, wad_n ha (by omega)]
    exact this
  · refine wf_add h8 ha (Or.inl (by rw [hc]; exact fun z => by cases z)) ?_
    have := congrArg List.length (h6 L hv hL hLs)
    rw [List.length_map, List.length_map] at this
    rw [this]
    exact Nat.le_trans (List.length_filter_le _ _) (by omega)
theorem len_L (hR : RW Z W s) (hv : cwv_ W L = true) (hL : L < 4 ∨ 100 < L) (hLs : L ≠ s) : (cwl_ W L).length = z_waits Z L := by
  have := congrArg List.length (hR.2.2.2.2.2.1 L hv hL hLs)
  rw [List.length_map, List.length_map] at this
  exact this
/-- the loop: the call's target is the m-th on the way -/
theorem xP_arrive_it (hB : zB Z) (hH : zH Z) (hh : h < zn_ Z) (hu : zk_K Z u) (he : zk_K Z e) (hq : zk_K Z q) (hq1 : q = 0 ∨ 100 < q) (hs : s = 50 ∨ (100 < s ∧ zk_pass Z h s = true)) (hlost : lost.length < 100) (hlen : (zl_ Z).length ≤ 2300) (hrl : (zr_ Z).length ≤ 2400) {k : Nat} (k1 : k ≤ 100) (k2 : ∀ j, j < k → zk_pass Z h (z_it Z j u) = true) (k3 : zk_pass Z h (z_it Z k u) = false) :
    ∀ (d m fuel : Nat) (st : st_S) (W : cw_W), k - m = d → m ≤ k → d + 1 < fuel → CW gl fx ad W st → RW Z W s → lr_ ad W lost → cwC_ W a = some (z_it Z m u, x, e, q) → fa_ W s (zn_ Z) a → z_it Z m u ≠ 0 → zh_ Z (z_it Z m u) = h →
    ∃ st' W' i j, st_it (fun rec2 => (fun y : Option Nat × Option Nat × Int32 × Int32 => xP_arrive_b2 gl rec2 y.1 y.2.1 y.2.2.1 y.2.2.2)) fuel (some (ad (0, 0)), some a, nI h, nI m) st = some ((), st', i, j) ∧ CW gl fx ad W' st' ∧ RW (z_go Z lost h u x e q).1 W' s ∧ lr_ ad W' (z_go Z lost h u x e q).2 ∧ af_ W W' a s ∧ cst_ W Z i j W' (z_go Z lost h u x e q).1 := by
  obtain ⟨b1, b2, b3, b4, b5, b6, b7⟩ := hB
  have hn4 := b1.2.1
  have hfol : z_follow Z h 101 u = z_it Z k u := zfollow_it k 101 u (by omega) k2 k3
  have hKit : ∀ j, zk_K Z (z_it Z j u) := by
    intro j
    induction j with
    | zero => exact hu
    | succ j ih => rw [zit_s]; exact (b3.1 _).1
  intro d
  induction d with
  | zero =>
    intro m fuel st W hdm hmk hfu hW hR hL hc fa ht0 hth
    obtain ⟨n, rfl⟩ : ∃ n, fuel = n + 1 := ⟨fuel - 1, by omega⟩
    have hm : m = k := by omega
    subst hm
    have hKt := hKit m
    generalize z_it Z m u = t at hfol hKt k3 hc ht0 hth
    have hmd : zk_made Z t = true := hKt.resolve_left ht0
    have hd : cwd_ W t = true := by rw [hR.2.1 t]; exact hmd
    have hE : cwe_ W t = ze_ Z t := by rw [hR.2.2.1]
    have hn := RW_n hR
    have htr : rf_ ad t = some (ad (16, t)) := rf_s ht0
    have front : ∀ y, (st_g (so_i (some (ad (16, t))) [4] [3]) fun t2 => if t2 = 0 then (st_g (so_gq (some (ad (0, 0))) [0] 0) fun t3 => st_g (so_lq t3 [4] (nI h)) fun t4 => st_g (so_gq t4 [5] 1) fun t5 => st_g (so_cm t5 [6]) fun _ => st_b (al_add1 gl t5 (some a)) fun t6 => st_r ()) else (st_g (so_k (some (ad (16, t))) [4]) fun _ => st_g (so_gi (some (ad (16, t))) [4] 0) fun t16 => if t16 = 0 then (st_g (so_gq (some (ad (16, t))) [4] 1) fun t17 => if t17 = none then (st_g (so_cm (some (ad (0, 0))) [0]) fun _ => st_b (xP_lose gl (some (ad (0, 0))) (some a)) fun _ => st_r ()) else (st_g (so_gq (some (ad (16, t))) [4] 1) fun t27 => st_w (so_p (some a) [8] 0 (va_rf t27)) (st_g (so_gq (some a) [8] 0) fun t29 => st_g (so_gi t29 [3, 4] 4) fun t30 => if t30 = nI h then (st_it (fun rec2 => (fun y : Option Nat × Option Nat × Int32 × Int32 => xP_arrive_b2 gl rec2 y.1 y.2.1 y.2.2.1 y.2.2.2)) n ((some (ad (0, 0))), (some a), nI h, (nI m + (1 : Int32)))) else (st_g (so_cm (some (ad (0, 0))) [0]) fun _ => st_b (xP_postCall gl (some (ad (0, 0))) (some a) (nI h)) fun _ => st_r ())))) else (st_g (so_cm (some (ad (0, 0))) [0]) fun _ => st_b (xP_waitAt gl (some (ad (0, 0))) (some (ad (16, t))) (some a)) fun _ => st_r ()))) st = some y →
        st_it (fun rec2 => (fun y : Option Nat × Option Nat × Int32 × Int32 => xP_arrive_b2 gl rec2 y.1 y.2.1 y.2.2.1 y.2.2.2)) (n + 1) (some (ad (0, 0)), some a, nI h, nI m) st = some y := by
      intro y hy
      show xP_arrive_b2 gl _ (some (ad (0, 0))) (some a) (nI h) (nI m) st = _
      unfold xP_arrive_b2
      refine ru_f (show ¬ nI 100 < nI m from nI_nlt (by omega) (by omega)) ?_
      refine ru_g _ ((rC_0 hW hc).trans (by rw [htr])) ?_
      exact hy
    have hgo : z_go Z lost h u x e q = if 100 < t ∧ 8 ≤ z_waits Z t then (Z, if 0 < q then lost ++ [q] else lost) else (zj_r Z (zr_ Z ++ [(if 100 < t then t else h, t, x, e, q)]), lost) := by
      unfold z_go
      rw [hfol]
      dsimp only
      by_cases c : 100 < t ∧ 8 ≤ z_waits Z t
      · rw [if_pos c, if_pos (Or.inr ⟨c.1, hth, c.2⟩)]
      · rw [if_neg c, if_neg (fun z => z.elim ht0 (fun w => c ⟨w.1, w.2.2⟩)), if_neg (fun z => z hth)]
    rw [hgo]
    by_cases h100 : t ≤ 100
    · have hat := ro_at hW hd h100
      rw [if_neg (show ¬ (100 < t ∧ 8 ≤ z_waits Z t) from fun z => by omega), if_neg (show ¬ 100 < t by omega)]
      have hv := cwv_v (W := W) (v := h) (by omega) (by omega)
      have hhs : h ≠ s := by
        rcases hs with z | z <;> omega
      obtain ⟨st', W', i, j, a1, a2, a3, a4, a5, a6⟩ := cu_addw hW hv hR.2.2.2.2.2.2.2 (RW_d hR b1) (q := a) (Or.inl (by rw [hc]; exact fun z => by cases z))
      obtain ⟨e1, e2, e3, e4, e5, e6, e7, e8, e9, e10, e11⟩ := wad_e a3
      refine ⟨st', W', i, j, front _ ?_, a2, RW_rest hR b1 a3 (Or.inl (by omega)) hv hhs rfl hc hrl, ?_, ⟨e9, fun c _ => by rw [e6], wad_n a3 (fun z => hhs z.symm), mf_s e7 e2 e6⟩, ⟨by show i + (bk_ W + (zl_ Z).length) ≤ bk_ W' + (zl_ Z).length; omega, by show j + (4 * bk_ W + 5 * (zl_ Z).length) ≤ 4 * bk_ W' + 5 * (zl_ Z).length; omega⟩⟩
      · refine ru_g _ (og_i0 hat (by simp) (by simp)) ?_
        refine ru_t rfl ?_
        refine ru_g _ (r0_0 hW) ?_
        refine ru_g _ (r1_l hW (by omega) (by omega)) ?_
        refine ru_g _ (r7_1 hW (by omega) (by omega)) ?_
        refine ru_g _ (cu_lm hW hv) ?_
        exact ru_b a1 rfl rfl rfl
      · unfold lr_
        rw [e10]
        exact hL
    · have h100 : 100 < t := by omega
      have hat := rp_at hW hd h100
      have hes : es_ (ze_ Z t) = false := by
        cases z : es_ (ze_ Z t) with
        | false => rfl
        | true =>
          exfalso
          unfold zk_pass at k3
          rw [z, decide_eq_true h100, decide_eq_true hth] at k3
          cases k3
      have hts : t ≠ s := by
        rcases hs with z | z
        · omega
        · intro w
          rw [← w, k3] at z
          cases z.2
      have hv := cwv_p (W := W) h100 hd
      have hsz := len_L hR hv (Or.inr h100) hts
      have hopen : so_gi (some (ad (16, t))) [4] 0 st = some 1 := by
        rw [og_i hat (by simp) rfl, hE, hes]
        rfl
      have hwl : so_gq (some (ad (16, t))) [4] 2 st = some (some (ad (lk_ t))) := by
        rw [lk_p h100]
        exact og_q (q := some (ad (20, t))) hat (by simp) rfl
      have front2 : ∀ y, xP_waitAt gl (some (ad (0, 0))) (some (ad (16, t))) (some a) st = some ((), y) → st_it (fun rec2 => (fun y : Option Nat × Option Nat × Int32 × Int32 => xP_arrive_b2 gl rec2 y.1 y.2.1 y.2.2.1 y.2.2.2)) (n + 1) (some (ad (0, 0)), some a, nI h, nI m) st = some ((), y) := by
        intro y hy
        refine front _ ?_
        refine ru_g _ (og_i1 hat (by simp)) ?_
        refine ru_f (by decide) ?_
        refine ru_g _ (og_k hat (by simp)) ?_
        refine ru_g _ hopen ?_
        refine ru_f (by decide) ?_
        refine ru_g _ (r0_m hW) ?_
        exact ru_b hy rfl rfl rfl
      rw [if_pos h100]
      by_cases h8 : 8 ≤ z_waits Z t
      · rw [if_pos ⟨h100, h8⟩]
        obtain ⟨st', W', c1, c2, c3, c4, c5, c6, c7, c8, c9⟩ := xP_lose_ok hW hR hL hc hq hq1 hlost
        refine ⟨st', W', 0, 0, front2 _ ?_, c2, c3, c4, ⟨c6, fun c _ => by rw [c5], c7 s, mf_s c9 (RW_dd c3 hR) c5⟩, cst_b c8⟩
        unfold xP_waitAt
        refine ru_g _ hwl ?_
        refine ru_g _ (cu_lm hW hv) ?_
        refine ru_b (i2 := 0) (j2 := 0) (cu_size hW hv hR.2.2.2.2.2.2.2) ?_ rfl rfl
        rw [hsz]
        refine ru_f (show ¬ nI (z_waits Z t) < nI 8 from nI_nlt h8 (by have : z_waits Z t ≤ (zr_ Z).length := List.length_filter_le _ _; omega)) ?_
        refine ru_g _ (r0_m hW) ?_
        exact ru_b c1 rfl rfl rfl
      · rw [if_neg (fun z => h8 z.2)]
        obtain ⟨st', W', i, j, a1, a2, a3, a4, a5, a6⟩ := cu_addw hW hv hR.2.2.2.2.2.2.2 (RW_d hR b1) (q := a) (Or.inl (by rw [hc]; exact fun z => by cases z))
        obtain ⟨e1, e2, e3, e4, e5, e6, e7, e8, e9, e10, e11⟩ := wad_e a3
        refine ⟨st', W', i, j, front2 _ ?_, a2, RW_rest hR b1 a3 (Or.inr h100) hv hts rfl hc hrl, ?_, ⟨e9, fun c _ => by rw [e6], wad_n a3 (fun z => hts z.symm), mf_s e7 e2 e6⟩, ⟨by show i + (bk_ W + (zl_ Z).length) ≤ bk_ W' + (zl_ Z).length; omega, by show j + (4 * bk_ W + 5 * (zl_ Z).length) ≤ 4 * bk_ W' + 5 * (zl_ Z).length; omega⟩⟩
        · unfold xP_waitAt
          refine ru_g _ hwl ?_
          refine ru_g _ (cu_lm hW hv) ?_
          refine ru_b (i2 := i) (j2 := j) (cu_size hW hv hR.2.2.2.2.2.2.2) ?_ (by omega) (by omega)
          rw [hsz]
          refine ru_t (show nI (z_waits Z t) < nI 8 from nI_lt (by omega) (by decide)) ?_
          refine ru_g _ hwl ?_
          refine ru_g _ (cu_lm hW hv) ?_
          exact ru_b a1 rfl rfl rfl
        · unfold lr_
          rw [e10]
          exact hL
  | succ d ih =>
    intro m fuel st W hdm hmk hfu hW hR hL hc fa ht0 hth
    obtain ⟨n, rfl⟩ : ∃ n, fuel = n + 1 := ⟨fuel - 1, by omega⟩
    have hpass := k2 m (by omega)
    have hKt := hKit m
    have hnext := zit_s (Z := Z) m u
    have hKn := hKit (m + 1)
    have ihm := ih (m + 1) n
    have hkm : m + 1 = k → z_it Z (m + 1) u = z_it Z k u := fun z => by rw [z]
    have hnp : (z_it Z (m + 1) u = 0 ∨ zh_ Z (z_it Z (m + 1) u) ≠ h) → m + 1 = k := fun z => by
      refine Classical.byContradiction (fun w => ?_)
      have := k2 (m + 1) (by omega)
      unfold zk_pass at this
      simp only [Bool.and_eq_true, decide_eq_true_eq] at this
      rcases z with z | z
      · omega
      · exact z this.1.2
    generalize z_it Z (m + 1) u = t' at hnext hKn ihm hkm hnp
    generalize z_it Z m u = t at hpass hKt hc ht0 hth hnext
    have hpp := hpass
    unfold zk_pass at hpp
    simp only [Bool.and_eq_true, decide_eq_true_eq] at hpp
    have h100 : 100 < t := hpp.1.1
    have hmd : zk_made Z t = true := hKt.resolve_left ht0
    have hd : cwd_ W t = true := by rw [hR.2.1 t]; exact hmd
    have hE : cwe_ W t = ze_ Z t := by rw [hR.2.2.1]
    have hat := rp_at hW hd h100
    have hopen : so_gi (some (ad (16, t))) [4] 0 st = some 0 := by
      rw [og_i hat (by simp) rfl, hE, hpp.2]
      rfl
    have hout : so_gq (some (ad (16, t))) [4] 1 st = some (rf_ ad t') := by
      rw [og_q (q := rf_ ad (if es_ (cwe_ W t) = true then et_ (cwe_ W t) else 0)) hat (by simp) rfl, hE, if_pos hpp.2, ← hnext]
    have front : ∀ y, (if rf_ ad t' = none then (st_g (so_cm (some (ad (0, 0))) [0]) fun _ => st_b (xP_lose gl (some (ad (0, 0))) (some a)) fun _ => st_r ()) else (st_g (so_gq (some (ad (16, t))) [4] 1) fun t27 => st_w (so_p (some a) [8] 0 (va_rf t27)) (st_g (so_gq (some a) [8] 0) fun t29 => st_g (so_gi t29 [3, 4] 4) fun t30 => if t30 = nI h then (st_it (fun rec2 => (fun y : Option Nat × Option Nat × Int32 × Int32 => xP_arrive_b2 gl rec2 y.1 y.2.1 y.2.2.1 y.2.2.2)) n ((some (ad (0, 0))), (some a), nI h, (nI m + (1 : Int32)))) else (st_g (so_cm (some (ad (0, 0))) [0]) fun _ => st_b (xP_postCall gl (some (ad (0, 0))) (some a) (nI h)) fun _ => st_r ())))) st = some y →
        st_it (fun rec2 => (fun y : Option Nat × Option Nat × Int32 × Int32 => xP_arrive_b2 gl rec2 y.1 y.2.1 y.2.2.1 y.2.2.2)) (n + 1) (some (ad (0, 0)), some a, nI h, nI m) st = some y := by
      intro y hy
      show xP_arrive_b2 gl _ (some (ad (0, 0))) (some a) (nI h) (nI m) st = _
      unfold xP_arrive_b2
      refine ru_f (show ¬ nI 100 < nI m from nI_nlt (by omega) (by omega)) ?_
      refine ru_g _ ((rC_0 hW hc).trans (by rw [rf_s ht0])) ?_
      refine ru_g _ (og_i1 hat (by simp)) ?_
      refine ru_f (by decide) ?_
      refine ru_g _ (og_k hat (by simp)) ?_
      refine ru_g _ hopen ?_
      refine ru_t rfl ?_
      refine ru_g _ hout ?_
      exact hy
    by_cases ht'0 : t' = 0
    · have hk : z_it Z k u = 0 := by rw [← hkm (hnp (Or.inl ht'0)), ht'0]
      have hgo : z_go Z lost h u x e q = (Z, if 0 < q then lost ++ [q] else lost) := by
        unfold z_go
        rw [hfol, hk]
        dsimp only
        rw [if_pos (Or.inl rfl)]
      rw [hgo]
      obtain ⟨st', W', c1, c2, c3, c4, c5, c6, c7, c8, c9⟩ := xP_lose_ok hW hR hL hc hq hq1 hlost
      refine ⟨st', W', 0, 0, front _ (ru_t (by rw [ht'0]; rfl) ?_), c2, c3, c4, ⟨c6, fun c _ => by rw [c5], c7 s, mf_s c9 (RW_dd c3 hR) c5⟩, cst_b c8⟩
      refine ru_g _ (r0_m hW) ?_
      exact ru_b c1 rfl rfl rfl
    · have hmd' : zk_made Z t' = true := hKn.resolve_left ht'0
      obtain ⟨st1, w1, w2, w3⟩ := cu_C (u := t') hW hc
      have hR1 := RW_C (c := (t', (t, x, e, q).2)) hR fa
      have hc1 : cwC_ (cj_C W a (some (t', (t, x, e, q).2))) a = some (t', x, e, q) := va_up_self _ _ _
      have hd' : cwd_ (cj_C W a (some (t', (t, x, e, q).2))) t' = true := by
        show cwd_ W t' = true
        rw [hR.2.1 t']
        exact hmd'
      have hh1 : so_gi (some (ad (16, t'))) [3, 4] 4 st1 = some (nI (zh_ Z t')) := by
        have := re_h w2 hd'
        have e9 : cwe_ (cj_C W a (some (t', (t, x, e, q).2))) t' = ze_ Z t' := by
          show cwe_ W t' = _
          rw [hR.2.2.1]
        rw [e9] at this
        exact this
      have hf1 : ∀ c, c ≠ a → cwC_ (cj_C W a (some (t', (t, x, e, q).2))) c = cwC_ W c := fun c hc => va_up_ne _ _ hc
      have front2 : ∀ y, (if nI (zh_ Z t') = nI h then (st_it (fun rec2 => (fun y : Option Nat × Option Nat × Int32 × Int32 => xP_arrive_b2 gl rec2 y.1 y.2.1 y.2.2.1 y.2.2.2)) n ((some (ad (0, 0))), (some a), nI h, nI (m + 1))) else (st_g (so_cm (some (ad (0, 0))) [0]) fun _ => st_b (xP_postCall gl (some (ad (0, 0))) (some a) (nI h)) fun _ => st_r ())) st1 = some y →
          st_it (fun rec2 => (fun y : Option Nat × Option Nat × Int32 × Int32 => xP_arrive_b2 gl rec2 y.1 y.2.1 y.2.2.1 y.2.2.2)) (n + 1) (some (ad (0, 0)), some a, nI h, nI m) st = some y := by
        intro y hy
        refine front y (ru_f (fun z => by rw [rf_s ht'0] at z; cases z) ?_)
        refine ru_g _ hout ?_
        refine ru_w _ w1 ?_
        refine ru_g _ ((rC_0 w2 hc1).trans (by rw [rf_s ht'0])) ?_
        refine ru_g _ hh1 ?_
        rw [nI_1]
        exact hy
      have ht'n := hH t' hmd'
      by_cases hhh : zh_ Z t' = h
      · obtain ⟨st', W', i, j, c1, c2, c3, c4, c5, c6⟩ := ihm st1 _ (by omega) (by omega) (by omega) w2 hR1 hL hc1 (fa_C fa) ht'0 hhh
        exact ⟨st', W', i, j, front2 _ (ru_t (by rw [hhh]) c1), c2, c3, c4, ⟨c5.1, fun c hc => (c5.2.1 c hc).trans (hf1 c hc), c5.2.2.1, mf_t (mf_C hc (by rw [hR.2.1 t']; exact hmd')) c5.2.2.2⟩, c6⟩
      · have hk : z_it Z k u = t' := (hkm (hnp (Or.inr hhh))).symm
        have hpf : zk_pass Z h t' = false := by rw [← hk]; exact k3
        have hgo : z_go Z lost h u x e q = (z_post (z_pack Z h (zh_ Z t') e) 1 h (zh_ Z t') t' x e q, lost) := by
          unfold z_go
          rw [hfol, hk]
          dsimp only
          rw [if_neg (fun z => z.elim ht'0 (fun w => hhh w.2.1)), if_pos hhh]
        rw [hgo]
        obtain ⟨st', W', i, j, c1, c2, c3, c4, c5⟩ := xP_postCall_ok w2 hR1 b1 b2 hH hh hmd' he hlen hc1
        refine ⟨st', W', i, j, front2 _ (ru_f (fun z => hhh ((nI_eq (by omega) (by omega)).mp z)) ?_), c2, c3, ?_, ⟨c4.2.1, fun c hc => (by rw [c4.1]; exact hf1 c hc), ?_, mf_t (mf_C hc (by rw [hR.2.1 t']; exact hmd')) c4.2.2.2.2⟩, c5⟩
        · refine ru_g _ (r0_m w2) ?_
          exact ru_b c1 rfl rfl rfl
        · unfold lr_
          rw [c4.2.2.1]
          exact hL
        · exact c4.2.2.2.1 s (Or.inr (by rcases hs with z | z <;> omega))
theorem xP_arrive_ok (hW : CW gl fx ad W st) (hR : RW Z W s) (hL : lr_ ad W lost) (hB : zB Z) (hH : zH Z) (hh : h < zn_ Z) (hc : cwC_ W a = some (u, x, e, q)) (hu : zk_K Z u) (hu0 : u ≠ 0) (huh : zh_ Z u = h) (he : zk_K Z e) (hq : zk_K Z q) (hq1 : q = 0 ∨ 100 < q) (fa : fa_ W s (zn_ Z) a) (hs : s = 50 ∨ (100 < s ∧ zk_pass Z h s = true)) (hlost : lost.length < 100) (hlen : (zl_ Z).length ≤ 2300) (hrl : (zr_ Z).length ≤ 2400) :
    ∃ st' W' i j, xP_arrive gl (some (ad (0, 0))) (some a) (nI h) st = some ((), st', i, j) ∧ CW gl fx ad W' st' ∧ RW (z_go Z lost h u x e q).1 W' s ∧ lr_ ad W' (z_go Z lost h u x e q).2 ∧ af_ W W' a s ∧ cst_ W Z i j W' (z_go Z lost h u x e q).1 := by
  obtain ⟨k, k1, k2, k3⟩ := zn_end hB.2.2.2.2.2.1 hB.2.1.1 h (zk_K2 hB.1 hu)
  exact xP_arrive_it hB hH hh hu he hq hq1 hs hlost hlen hrl k1 k2 k3 (k - 0) 0 fu_ st W rfl (Nat.zero_le _) (by unfold fu_; omega) hW hR hL hc fa hu0 huh
end CAR
