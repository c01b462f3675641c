/-! The class's constructor: vats. -/
section CIV
variable {gl : gl_T} {fx : fx_T} {ad : Nat × Nat → Nat} {n n0 G V Y U B v b g e0 : Nat} {st : st_S}
theorem c10_ : (10 : Int32).toNatClampNeg = 10 := by decide
theorem xH_ok : xH_init gl (some st.2) (st_ad st (.inr (.inr (7, cd_7)))) = some ((), st_ad (st_ad st (.inr (.inr (7, [.ref (st.2 + 1)])))) (lo_ gl), 1, 3) := by
  unfold xH_init
  refine ru_g _ (og_c ad_s) ?_
  refine ru_n (i2 := 0) (j2 := 0) ?_ rfl rfl
  refine ru_b (i2 := 0) (j2 := 0) al_new ?_ rfl rfl
  refine ru_w _ (og_p ((ad_n (by show st.2 ≠ st.2 + 1; omega)).trans ad_s) (by simp) (by simp [cd_7])) ?_
  rw [up_ad (by show st.2 ≠ st.2 + 1; omega), ad_up]
  rfl
theorem xV_pre (hn : n ≤ 4) {st2 : st_S} {i j : Nat} (h : st_it (fun rec38 => (fun x : Option Nat × Int32 × Int32 => xV_init_b38 gl rec38 x.1 x.2.1 x.2.2)) fu_ (some st.2, nI n, (0 : Int32)) (st_ad (st_ad (st_ad (st_ad st (.inr (.inr (5, [.ref e0, .ref (st.2 + 1), .ref (st.2 + 3), .ref (st.2 + 2), .int 0])))) (lo_ gl)) (.inl (0, 10, fun _ => 0))) (.inr (.inl (8, n, fun _ => none)))) = some ((), st2, i, j)) :
    xV_init gl (some st.2) (some e0) (nI n) (st_ad st (.inr (.inr (5, cd_5)))) = some ((), st2, 3 + i, 13 + n + j) := by
  unfold xV_init
  rw [c10_, nI_clamp (show n < 2 ^ 31 by omega)]
  refine ru_g _ (og_c ad_s) ?_
  refine ru_n (i2 := 2 + i) (j2 := 10 + n + j) ?_ (by omega) (by omega)
  refine ru_b (i2 := 2 + i) (j2 := 10 + n + j) al_new ?_ (by omega) (by omega)
  refine ru_w _ (og_p ((ad_n (by show st.2 ≠ st.2 + 1; omega)).trans ad_s) (by simp) (by simp [cd_5])) ?_
  rw [up_ad (by show st.2 ≠ st.2 + 1; omega), ad_up]
  refine ru_g _ (og_l (m := 10) (by decide)) ?_
  refine ru_n (i2 := 1 + i) (j2 := n + j) ?_ (by omega) (by omega)
  have hat3 : ∀ {c1 c2 c3 : ce_E}, (st_ad (st_ad (st_ad st c1) c2) c3).1 st.2 = some c1 := fun {c1 c2 c3} => (ad_n (by show st.2 ≠ st.2 + 1 + 1; omega)).trans ((ad_n (by show st.2 ≠ st.2 + 1; omega)).trans ad_s)
  have hup3 : ∀ {c1 c2 c3 c5 : ce_E}, st_up (st_ad (st_ad (st_ad st c1) c2) c3) st.2 c5 = st_ad (st_ad (st_ad st c5) c2) c3 := fun {c1 c2 c3 c5} => by
    rw [up_ad (by show st.2 ≠ st.2 + 1 + 1; omega), up_ad (by show st.2 ≠ st.2 + 1; omega), ad_up]
  refine ru_w _ (og_p hat3 (by simp) (by simp [cd_5])) ?_
  rw [hup3]
  refine ru_w _ (og_p hat3 (by simp) (by simp [cd_5])) ?_
  rw [hup3]
  refine ru_g _ (og_l (m := n) (by omega)) ?_
  refine ru_n (i2 := i) (j2 := j) ?_ (by omega) (by omega)
  have hat : ∀ {c1 c2 c3 c4 : ce_E}, (st_ad (st_ad (st_ad (st_ad st c1) c2) c3) c4).1 st.2 = some c1 := fun {c1 c2 c3 c4} => (ad_n (by show st.2 ≠ st.2 + 1 + 1 + 1; omega)).trans ((ad_n (by show st.2 ≠ st.2 + 1 + 1; omega)).trans ((ad_n (by show st.2 ≠ st.2 + 1; omega)).trans ad_s))
  have hup : ∀ {c1 c2 c3 c4 c5 : ce_E}, st_up (st_ad (st_ad (st_ad (st_ad st c1) c2) c3) c4) st.2 c5 = st_ad (st_ad (st_ad (st_ad st c5) c2) c3) c4 := fun {c1 c2 c3 c4 c5} => by
    rw [up_ad (by show st.2 ≠ st.2 + 1 + 1 + 1; omega), up_ad (by show st.2 ≠ st.2 + 1 + 1; omega), up_ad (by show st.2 ≠ st.2 + 1; omega), ad_up]
  refine ru_w _ (og_p hat (by simp) (by simp [cd_5])) ?_
  rw [hup]
  exact h
/-- the channels of the vat v -/
theorem xV_it (hn : n ≤ 4) : ∀ (d b fuel : Nat) (st : st_S), n - b = d → b ≤ n → d < fuel → cv_ gl fx (ia_ n0 n) (ib_ gl (ia_ n0 n) n 8 v (v + 1) (v + 1) b) st → st.2 = n0 + 40 + v * (9 + 2 * n) + 2 * b →
    ∃ st', st_it (fun rec38 => (fun x : Option Nat × Int32 × Int32 => xV_init_b38 gl rec38 x.1 x.2.1 x.2.2)) fuel (some (ia_ n0 n (7, v)), nI n, nI b) st = some ((), st', 2 * d, 4 * d) ∧ cv_ gl fx (ia_ n0 n) (ib_ gl (ia_ n0 n) n 8 v (v + 1) (v + 1) n) st' ∧ st'.2 = n0 + 40 + v * (9 + 2 * n) + 2 * n := by
  intro d
  induction d with
  | zero =>
    intro b fuel st hd hb hf h hst
    obtain ⟨m, rfl⟩ : ∃ m, fuel = m + 1 := ⟨fuel - 1, by omega⟩
    have : b = n := by omega
    subst this
    refine ⟨st, ?_, h, hst⟩
    show xV_init_b38 gl _ _ (nI b) (nI b) st = _
    unfold xV_init_b38
    exact ru_t (nI_le (by omega) (by omega)) rfl
  | succ d ih =>
    intro b fuel st hd hb hf h hst
    obtain ⟨m, rfl⟩ : ∃ m, fuel = m + 1 := ⟨fuel - 1, by omega⟩
    have e11 : ia_ n0 n (11, 4 * v + b) = st.2 := by
      rw [hst]
      show n0 + 40 + (4 * v + b) / 4 * (9 + 2 * n) + 2 * ((4 * v + b) % 4) = _
      rw [show (4 * v + b) / 4 = v by omega, show (4 * v + b) % 4 = b by omega]
    have e12 : ia_ n0 n (12, 4 * v + b) = st.2 + 1 := by
      rw [hst]
      show n0 + 41 + (4 * v + b) / 4 * (9 + 2 * n) + 2 * ((4 * v + b) % 4) = _
      rw [show (4 * v + b) / 4 = v by omega, show (4 * v + b) % 4 = b by omega]
      omega
    generalize hA : ia_ n0 n = A at h ih e11 e12 ⊢
    have hx := xH_ok (gl := gl) (st := st)
    rw [← e12] at hx
    have hno : ¬ (((4 * v + b) / 4 < v ∧ (4 * v + b) % 4 < n) ∨ ((4 * v + b) / 4 = v ∧ (4 * v + b) % 4 < b)) := by omega
    have h1 := cv_ad (ad' := A) (k := (11, 4 * v + b)) (c := .inr (.inr (7, [.ref (A (12, 4 * v + b))]))) h (if_neg hno) (fun _ _ _ => rfl) e11
    have n12 : ib_ gl A n 8 v (v + 1) (v + 1) b (12, 4 * v + b) = none := if_neg hno
    have h2 := cv_ad (ad' := A) (k := (12, 4 * v + b)) (c := lo_ gl) h1 ((ku_n (fun z => by cases z)).trans n12) (fun _ _ _ => rfl) e12
    have hrow : ku_ (ku_ (ib_ gl A n 8 v (v + 1) (v + 1) b) (11, 4 * v + b) (.inr (.inr (7, [.ref (A (12, 4 * v + b))])))) (12, 4 * v + b) (lo_ gl) (9, v) = some (.inr (.inl (8, n, fun c => if (v < v ∧ c < n) ∨ (v = v ∧ c < b) then some (A (11, 4 * v + c)) else none))) := (ku_n (fun z => by cases z)).trans ((ku_n (fun z => by cases z)).trans (if_pos (Nat.lt_succ_self v)))
    have hobj : ku_ (ku_ (ib_ gl A n 8 v (v + 1) (v + 1) b) (11, 4 * v + b) (.inr (.inr (7, [.ref (A (12, 4 * v + b))])))) (12, 4 * v + b) (lo_ gl) (11, 4 * v + b) = some (.inr (.inr (7, [.ref (A (12, 4 * v + b))]))) := (ku_n (fun z => by cases z)).trans ku_s
    have h4 := cv_up (c := .inr (.inl (8, n, va_up (fun c => if (v < v ∧ c < n) ∨ (v = v ∧ c < b) then some (A (11, 4 * v + c)) else none) b (some (A (11, 4 * v + b)))))) h2 hrow
    have hw := og_sq (cis := [7]) (i := b) (ts := [8]) (q := some (A (11, 4 * v + b))) (cv_at h2 hrow) (by simp) (by omega) (by omega) (og_is (cv_at h2 hobj) (by simp))
    rw [ve_c (Y := v + 1) (by omega) (Nat.lt_succ_self v)] at h4 hw
    have h5 := cv_sub h4 (ib_4 (by omega))
    obtain ⟨st', k1, k2, k3⟩ := ih (b + 1) m _ (by omega) (by omega) (by omega) h5 (by show st.2 + 1 + 1 = _; omega)
    refine ⟨st', ?_, k2, k3⟩
    show xV_init_b38 gl _ _ (nI n) (nI b) st = _
    unfold xV_init_b38
    refine ru_f (nI_ge (by omega) (by omega)) ?_
    have h7 := cv_at h (show ib_ gl A n 8 v (v + 1) (v + 1) b (7, v) = some (.inr (.inr (5, [.ref (A (16, v + 1)), .ref (A (8, v)), .ref (A (9, v)), .ref (A (10, v)), .int 0]))) from if_pos (Nat.lt_succ_self v))
    refine ru_g (some (A (9, v))) (og_q (q := some (A (9, v))) h7 (by simp) rfl) ?_
    refine ru_n (i2 := 1 + 2 * d) (j2 := 3 + 4 * d) ?_ (by omega) (by omega)
    refine ru_b (i2 := 2 * d) (j2 := 4 * d) hx ?_ rfl rfl
    rw [← e11]
    refine ru_w _ hw ?_
    rw [nI_1]
    exact k1
/-- the vats, and what the net's object says at the end -/
theorem xP_iv_it (hn : n ≤ 4) : ∀ (d v fuel : Nat) (st : st_S), n - v = d → v ≤ n → d < fuel → cv_ gl fx (ia_ n0 n) (ib_ gl (ia_ n0 n) n 8 v v v 0) st → st.2 = n0 + 31 + v * (9 + 2 * n) →
    ∃ st' i j, st_it (fun rec100 => (fun x : Option Nat × Int32 × Int32 => xP_init_b100 gl rec100 x.1 x.2.1 x.2.2)) fuel (some n0, nI n, nI v) st = some ((), st', i, j) ∧ i ≤ 17 * d ∧ j ≤ 80 * d ∧ st'.2 = n0 + 31 + n * (9 + 2 * n) ∧
      cv_ gl fx (ia_ n0 n) (ku_ (ib_ gl (ia_ n0 n) n 8 n n n 0) (0, 0) (.inr (.inr (0, [.ref (ia_ n0 n (1, 0)), .ref (ia_ n0 n (2, 0)), .ref (ia_ n0 n (3, 0)), .int (nI n), .int 0, .ref (ia_ n0 n (4, 0)), .ref (ia_ n0 n (5, 0)), .int 0, .ref (ia_ n0 n (6, 0)), .int 0])))) st' := by
  intro d
  induction d with
  | zero =>
    intro v fuel st hd hv hf h hst
    obtain ⟨m, rfl⟩ : ∃ m, fuel = m + 1 := ⟨fuel - 1, by omega⟩
    have : v = n := by omega
    subst this
    have h00 := cv_at h (show ib_ gl (ia_ n0 v) v 8 v v v 0 (0, 0) = some (.inr (.inr (0, [.ref (ia_ n0 v (1, 0)), .ref (ia_ n0 v (2, 0)), .ref (ia_ n0 v (3, 0)), .int 0, .int 0, .ref (ia_ n0 v (4, 0)), .ref (ia_ n0 v (5, 0)), .int 0, .ref (ia_ n0 v (6, 0)), .int 0]))) from rfl)
    have h1 := cv_up (k := (0, 0)) (c := .inr (.inr (0, [.ref (ia_ n0 v (1, 0)), .ref (ia_ n0 v (2, 0)), .ref (ia_ n0 v (3, 0)), .int (nI v), .int 0, .ref (ia_ n0 v (4, 0)), .ref (ia_ n0 v (5, 0)), .int 0, .ref (ia_ n0 v (6, 0)), .int 0]))) h (show ib_ gl (ia_ n0 v) v 8 v v v 0 (0, 0) = some _ from rfl)
    refine ⟨_, 0, 0, ?_, by omega, by omega, ?_, h1⟩
    · show xP_init_b100 gl _ (some n0) (nI v) (nI v) st = _
      unfold xP_init_b100
      refine ru_t (nI_le (by omega) (by omega)) ?_
      exact ru_w _ (og_p (a := n0) h00 (by simp) (by simp)) rfl
    · exact hst
  | succ d ih =>
    intro v fuel st hd hv hf h hst
    obtain ⟨m, rfl⟩ : ∃ m, fuel = m + 1 := ⟨fuel - 1, by omega⟩
    have e16 : ia_ n0 n (16, v + 1) = st.2 := by rw [hst]; rfl
    have e17 : ia_ n0 n (17, v + 1) = st.2 + 1 := by rw [hst]; show n0 + 32 + v * (9 + 2 * n) = _; omega
    have e18 : ia_ n0 n (18, v + 1) = st.2 + 2 := by rw [hst]; show n0 + 33 + v * (9 + 2 * n) = _; omega
    have e19 : ia_ n0 n (19, v + 1) = st.2 + 3 := by rw [hst]; show n0 + 34 + v * (9 + 2 * n) = _; omega
    have e20 : ia_ n0 n (20, v + 1) = st.2 + 4 := by rw [hst]; show n0 + 35 + v * (9 + 2 * n) = _; omega
    have e7 : ia_ n0 n (7, v) = st.2 + 5 := by rw [hst]; show n0 + 36 + v * (9 + 2 * n) = _; omega
    have e8 : ia_ n0 n (8, v) = st.2 + 6 := by rw [hst]; show n0 + 37 + v * (9 + 2 * n) = _; omega
    have e10 : ia_ n0 n (10, v) = st.2 + 7 := by rw [hst]; show n0 + 38 + v * (9 + 2 * n) = _; omega
    have e9 : ia_ n0 n (9, v) = st.2 + 8 := by rw [hst]; show n0 + 39 + v * (9 + 2 * n) = _; omega
    have hmul : (v + 1) * (9 + 2 * n) = v * (9 + 2 * n) + (9 + 2 * n) := Nat.succ_mul _ _
    have hchan := fun st0 h0 hs0 => xV_it (gl := gl) (fx := fx) (n0 := n0) (v := v) hn n 0 fu_ st0 rfl (Nat.zero_le _) (by unfold fu_; omega) h0 hs0
    have e00 : ia_ n0 n (0, 0) = n0 := rfl
    generalize hA : ia_ n0 n = A at h ih e16 e17 e18 e19 e20 e7 e8 e9 e10 hchan e00 ⊢
    have hx := xO_ok (gl := gl) (st := st) (k1 := nI (v + 1)) (k2 := nI v) (k3 := nI v)
    rw [← e17, ← e18, ← e19, ← e20] at hx
    have hno : ¬ (1 ≤ v + 1 ∧ v + 1 ≤ v) := by omega
    have h1 := cv_ad (ad' := A) (k := (16, v + 1)) (c := .inr (.inr (3, [.int (nI v), .int 0, .ref (A (20, v + 1)), .int (nI (v + 1)), .int (nI v), .int 0, .int 0, .ref (A (17, v + 1)), .ref (A (18, v + 1)), .ref (A (19, v + 1))]))) h (if_neg hno) (fun _ _ _ => rfl) e16
    have n17 : ib_ gl A n 8 v v v 0 (17, v + 1) = none := if_neg hno
    have h2 := cv_ad (ad' := A) (k := (17, v + 1)) (c := .inl (0, 4, fun _ => 0)) h1 ((ku_n (fun z => by cases z)).trans n17) (fun _ _ _ => rfl) e17
    have n18 : ib_ gl A n 8 v v v 0 (18, v + 1) = none := if_neg hno
    have h3 := cv_ad (ad' := A) (k := (18, v + 1)) (c := .inl (0, 4, fun _ => 0)) h2 ((ku_n (fun z => by cases z)).trans ((ku_n (fun z => by cases z)).trans n18)) (fun _ _ _ => rfl) e18
    have n19 : ib_ gl A n 8 v v v 0 (19, v + 1) = none := if_neg hno
    have h4 := cv_ad (ad' := A) (k := (19, v + 1)) (c := .inl (0, 16, fun _ => 0)) h3 ((ku_n (fun z => by cases z)).trans ((ku_n (fun z => by cases z)).trans ((ku_n (fun z => by cases z)).trans n19))) (fun _ _ _ => rfl) e19
    have n20 : ib_ gl A n 8 v v v 0 (20, v + 1) = none := if_neg hno
    have h5 := cv_ad (ad' := A) (k := (20, v + 1)) (c := .inr (.inl (6, 4, fun _ => none))) h4 ((ku_n (fun z => by cases z)).trans ((ku_n (fun z => by cases z)).trans ((ku_n (fun z => by cases z)).trans ((ku_n (fun z => by cases z)).trans n20)))) (fun _ _ _ => rfl) e20
    have hrow : ku_ (ku_ (ku_ (ku_ (ku_ (ib_ gl A n 8 v v v 0) (16, v + 1) (.inr (.inr (3, [.int (nI v), .int 0, .ref (A (20, v + 1)), .int (nI (v + 1)), .int (nI v), .int 0, .int 0, .ref (A (17, v + 1)), .ref (A (18, v + 1)), .ref (A (19, v + 1))])))) (17, v + 1) (.inl (0, 4, fun _ => 0))) (18, v + 1) (.inl (0, 4, fun _ => 0))) (19, v + 1) (.inl (0, 16, fun _ => 0))) (20, v + 1) (.inr (.inl (6, 4, fun _ => none))) (3, 0) = some (.inr (.inl (6, 201, fun e => if 1 ≤ e ∧ e ≤ v then some (A (16, e)) else none))) := rfl
    have hobj : ku_ (ku_ (ku_ (ku_ (ku_ (ib_ gl A n 8 v v v 0) (16, v + 1) (.inr (.inr (3, [.int (nI v), .int 0, .ref (A (20, v + 1)), .int (nI (v + 1)), .int (nI v), .int 0, .int 0, .ref (A (17, v + 1)), .ref (A (18, v + 1)), .ref (A (19, v + 1))])))) (17, v + 1) (.inl (0, 4, fun _ => 0))) (18, v + 1) (.inl (0, 4, fun _ => 0))) (19, v + 1) (.inl (0, 16, fun _ => 0))) (20, v + 1) (.inr (.inl (6, 4, fun _ => none))) (16, v + 1) = some (.inr (.inr (3, [.int (nI v), .int 0, .ref (A (20, v + 1)), .int (nI (v + 1)), .int (nI v), .int 0, .int 0, .ref (A (17, v + 1)), .ref (A (18, v + 1)), .ref (A (19, v + 1))]))) := (ku_n (fun z => by cases z)).trans ((ku_n (fun z => by cases z)).trans ((ku_n (fun z => by cases z)).trans ((ku_n (fun z => by cases z)).trans ku_s)))
    have h6 := cv_up (c := .inr (.inl (6, 201, va_up (fun e => if 1 ≤ e ∧ e ≤ v then some (A (16, e)) else none) (v + 1) (some (A (16, v + 1)))))) h5 hrow
    have hw := og_sq (cis := [3, 4]) (i := v + 1) (ts := [6]) (q := some (A (16, v + 1))) (cv_at h5 hrow) (by simp) (by omega) (by decide) (og_is (cv_at h5 hobj) (by simp))
    have h00 := cv_at h5 (show ku_ (ku_ (ku_ (ku_ (ku_ (ib_ gl A n 8 v v v 0) (16, v + 1) _) (17, v + 1) _) (18, v + 1) _) (19, v + 1) _) (20, v + 1) _ (0, 0) = some _ from rfl)
    rw [e00] at h00
    rw [ve_le] at h6 hw
    have h7 := cv_sub h6 ib_2
    generalize hS : st_up (st_ad (st_ad (st_ad (st_ad (st_ad st (.inr (.inr (3, [.int (nI v), .int 0, .ref (A (20, v + 1)), .int (nI (v + 1)), .int (nI v), .int 0, .int 0, .ref (A (17, v + 1)), .ref (A (18, v + 1)), .ref (A (19, v + 1))])))) (.inl (0, 4, fun _ => 0))) (.inl (0, 4, fun _ => 0))) (.inl (0, 16, fun _ => 0))) (.inr (.inl (6, 4, fun _ => none)))) (A (3, 0)) (.inr (.inl (6, 201, fun e => if 1 ≤ e ∧ e ≤ v + 1 then some (A (16, e)) else none))) = S at h7 hw
    have hS2 : S.2 = st.2 + 5 := by rw [← hS]; rfl
    have a1 := cv_ad (ad' := A) (k := (7, v)) (c := .inr (.inr (5, [.ref (A (16, v + 1)), .ref (A (8, v)), .ref (A (9, v)), .ref (A (10, v)), .int 0]))) h7 (if_neg (Nat.lt_irrefl v)) (fun _ _ _ => rfl) (e7.trans hS2.symm)
    have a2 := cv_ad (ad' := A) (k := (8, v)) (c := lo_ gl) a1 ((ku_n (fun z => by cases z)).trans (if_neg (Nat.lt_irrefl v))) (fun _ _ _ => rfl) (by show _ = S.2 + 1; omega)
    have a3 := cv_ad (ad' := A) (k := (10, v)) (c := .inl (0, 10, fun _ => 0)) a2 ((ku_n (fun z => by cases z)).trans ((ku_n (fun z => by cases z)).trans (if_neg (Nat.lt_irrefl v)))) (fun _ _ _ => rfl) (by show _ = S.2 + 1 + 1; omega)
    have a4 := cv_ad (ad' := A) (k := (9, v)) (c := .inr (.inl (8, n, fun _ => none))) a3 ((ku_n (fun z => by cases z)).trans ((ku_n (fun z => by cases z)).trans ((ku_n (fun z => by cases z)).trans (if_neg (Nat.lt_irrefl v))))) (fun _ _ _ => rfl) (by show _ = S.2 + 1 + 1 + 1; omega)
    have a5 := cv_sub a4 ib_3
    obtain ⟨st3, b1, b2, b3⟩ := hchan _ a5 (by show S.2 + 1 + 1 + 1 + 1 = _; omega)
    have f8 : A (8, v) = S.2 + 1 := by omega
    have f9 : A (9, v) = S.2 + 3 := by omega
    have f10 : A (10, v) = S.2 + 2 := by omega
    rw [f8, f9, f10, show A (7, v) = S.2 from e7.trans hS2.symm] at b1
    have hvi := xV_pre (gl := gl) hn b1
    have r1 : ib_ gl A n 8 v (v + 1) (v + 1) n (1, 0) = some (.inr (.inl (4, n, fun u => if u < v then some (A (7, u)) else none))) := rfl
    have r7 : ib_ gl A n 8 v (v + 1) (v + 1) n (7, v) = some (.inr (.inr (5, [.ref (A (16, v + 1)), .ref (A (8, v)), .ref (A (9, v)), .ref (A (10, v)), .int 0]))) := if_pos (Nat.lt_succ_self v)
    have c1 := cv_up (c := .inr (.inl (4, n, va_up (fun u => if u < v then some (A (7, u)) else none) v (some (A (7, v)))))) b2 r1
    have hw2 := og_sq (cis := [5]) (i := v) (ts := [4]) (q := some (A (7, v))) (cv_at b2 r1) (by simp) (by omega) (by omega) (og_is (cv_at b2 r7) (by simp))
    rw [ve_lt] at c1 hw2
    have c2 := cv_sub c1 ib_5
    obtain ⟨st', i, j, k1, k2, k3, k4, k5⟩ := ih (v + 1) m _ (by omega) (by omega) (by omega) c2 (by show st3.2 = _; omega)
    refine ⟨st', 1 + (4 + (1 + (3 + 2 * n + i))), 10 + (28 + (5 + (13 + n + 4 * n + j))), ?_, by omega, by omega, k4, k5⟩
    show xP_init_b100 gl _ (some n0) (nI n) (nI v) st = _
    unfold xP_init_b100
    refine ru_f (nI_ge (by omega) (by omega)) ?_
    refine ru_n (i2 := 4 + (1 + (3 + 2 * n + i))) (j2 := 28 + (5 + (13 + n + 4 * n + j))) ?_ rfl rfl
    rw [nI_1]
    refine ru_b (i2 := 1 + (3 + 2 * n + i)) (j2 := 5 + (13 + n + 4 * n + j)) hx ?_ rfl rfl
    refine ru_g (some (A (3, 0))) (og_q (q := some (A (3, 0))) h00 (by simp) rfl) ?_
    rw [← e16]
    refine ru_w _ hw ?_
    have s00 := cv_at h7 (show ib_ gl A n 8 v v (v + 1) 0 (0, 0) = some _ from rfl)
    rw [e00] at s00
    refine ru_g (some (A (1, 0))) (og_q (q := some (A (1, 0))) s00 (by simp) rfl) ?_
    refine ru_n (i2 := 3 + 2 * n + i) (j2 := 13 + n + 4 * n + j) ?_ (by omega) (by omega)
    refine ru_b (i2 := i) (j2 := j) hvi ?_ rfl rfl
    rw [show S.2 = A (7, v) from (e7.trans hS2.symm).symm]
    exact ru_w _ hw2 k1
end CIV
