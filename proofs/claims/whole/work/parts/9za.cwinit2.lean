/-! The class's constructor: programs. -/
def xP_iv (gl : gl_T) (p0 : Option Nat) (p2 p3 : Int32) : st_M Unit := st_it (fun rec100 => (fun x : Option Nat × Int32 × Int32 => xP_init_b100 gl rec100 x.1 x.2.1 x.2.2)) fu_ (p0, p2, p3)
section CIG
variable {gl : gl_T} {fx : fx_T} {ad : Nat × Nat → Nat} {n n0 G V Y U B v b g : Nat} {st : st_S}
theorem c8_ : (8 : Int32).toNatClampNeg = 8 := by decide
theorem xG_ok : xG_init gl (some st.2) (st_ad st (.inr (.inr (2, cd_2)))) =
    some ((), st_ad (st_ad (st_ad st (.inr (.inr (2, [.ref (st.2 + 1), .ref (st.2 + 2), .int 0])))) (.inl (0, 8, fun _ => 0))) (.inl (0, 8, fun _ => 0)), 2, 16) := by
  unfold xG_init
  rw [c8_]
  refine ru_g _ (og_c ad_s) ?_
  refine ru_g _ (og_l (m := 8) (by decide)) ?_
  refine ru_n (i2 := 1) (j2 := 8) ?_ rfl rfl
  refine ru_w _ (og_p ((ad_n (by show st.2 ≠ st.2 + 1; omega)).trans ad_s) (by simp) (by simp [cd_2])) ?_
  rw [up_ad (by show st.2 ≠ st.2 + 1; omega), ad_up]
  refine ru_g _ (og_l (m := 8) (by decide)) ?_
  refine ru_n (i2 := 0) (j2 := 0) ?_ rfl rfl
  refine ru_w _ (og_p ((ad_n (by show st.2 ≠ st.2 + 1 + 1; omega)).trans ((ad_n (by show st.2 ≠ st.2 + 1; omega)).trans ad_s)) (by simp) (by simp [cd_2])) ?_
  rw [up_ad (by show st.2 ≠ st.2 + 1 + 1; omega), up_ad (by show st.2 ≠ st.2 + 1; omega), ad_up]
  rfl
theorem xP_ig_it : ∀ (d g fuel : Nat) (st : st_S), 8 - g = d → g ≤ 8 → d < fuel → cv_ gl fx (ia_ n0 n) (ib_ gl (ia_ n0 n) n g 0 0 0 0) st → st.2 = n0 + 7 + 3 * g →
    ∃ st', cv_ gl fx (ia_ n0 n) (ib_ gl (ia_ n0 n) n 8 0 0 0 0) st' ∧ st'.2 = n0 + 31 ∧ ∀ st2 i j, xP_iv gl (some n0) (nI n) 0 st' = some ((), st2, i, j) →
      st_it (fun rec73 => (fun x : Option Nat × Int32 × Int32 => xP_init_b73 gl rec73 x.1 x.2.1 x.2.2)) fuel (some n0, nI n, nI g) st = some ((), st2, 3 * d + i, 19 * d + j) := by
  intro d
  induction d with
  | zero =>
    intro g fuel st hd hg hf h hst
    obtain ⟨m, rfl⟩ : ∃ m, fuel = m + 1 := ⟨fuel - 1, by omega⟩
    have : g = 8 := by omega
    subst this
    refine ⟨st, h, hst, fun st2 i j hx => ?_⟩
    show xP_init_b73 gl _ (some n0) (nI n) (nI 8) st = _
    unfold xP_init_b73
    refine ru_t (show nI 8 ≤ nI 8 from nI_le (by omega) (by omega)) ?_
    rw [show 3 * 0 + i = i by omega, show 19 * 0 + j = j by omega]
    exact hx
  | succ d ih =>
    intro g fuel st hd hg hf h hst
    obtain ⟨m, rfl⟩ : ∃ m, fuel = m + 1 := ⟨fuel - 1, by omega⟩
    obtain ⟨A, hA⟩ : ∃ A, A = ia_ n0 n := ⟨_, rfl⟩
    have e13 : A (13, g) = st.2 := by rw [hA, hst]; rfl
    have e14 : A (14, g) = st.2 + 1 := by rw [hA, hst]; show n0 + 8 + 3 * g = _; omega
    have e15 : A (15, g) = st.2 + 2 := by rw [hA, hst]; show n0 + 9 + 3 * g = _; omega
    have e00 : A (0, 0) = n0 := by rw [hA]; rfl
    rw [← hA] at h ih ⊢
    have hx := xG_ok (gl := gl) (st := st)
    rw [← e14, ← e15] at hx
    have h1 := cv_ad (ad' := A) (k := (13, g)) (c := .inr (.inr (2, [.ref (A (14, g)), .ref (A (15, g)), .int 0]))) h (if_neg (Nat.lt_irrefl g)) (fun _ _ _ => rfl) e13
    have h2 := cv_ad (ad' := A) (k := (14, g)) (c := .inl (0, 8, fun _ => 0)) h1 ((ku_n (fun z => by cases z)).trans (if_neg (Nat.lt_irrefl g))) (fun _ _ _ => rfl) e14
    have h3 := cv_ad (ad' := A) (k := (15, g)) (c := .inl (0, 8, fun _ => 0)) h2 ((ku_n (fun z => by cases z)).trans ((ku_n (fun z => by cases z)).trans (if_neg (Nat.lt_irrefl g)))) (fun _ _ _ => rfl) e15
    have hrow : ku_ (ku_ (ku_ (ib_ gl A n g 0 0 0 0) (13, g) (.inr (.inr (2, [.ref (A (14, g)), .ref (A (15, g)), .int 0])))) (14, g) (.inl (0, 8, fun _ => 0))) (15, g) (.inl (0, 8, fun _ => 0)) (2, 0) = some (.inr (.inl (5, 8, fun i => if i < g then some (A (13, i)) else none))) := rfl
    have hobj : ku_ (ku_ (ku_ (ib_ gl A n g 0 0 0 0) (13, g) (.inr (.inr (2, [.ref (A (14, g)), .ref (A (15, g)), .int 0])))) (14, g) (.inl (0, 8, fun _ => 0))) (15, g) (.inl (0, 8, fun _ => 0)) (13, g) = some (.inr (.inr (2, [.ref (A (14, g)), .ref (A (15, g)), .int 0]))) := (ku_n (fun z => by cases z)).trans ((ku_n (fun z => by cases z)).trans ku_s)
    have h4 := cv_up (c := .inr (.inl (5, 8, va_up (fun i => if i < g then some (A (13, i)) else none) g (some (A (13, g)))))) h3 hrow
    have hw := og_sq (cis := [2]) (i := g) (ts := [5]) (q := some (A (13, g))) (cv_at h3 hrow) (by simp) (by omega) (by decide) (og_is (cv_at h3 hobj) (by simp))
    rw [ve_lt] at h4 hw
    have h5 := cv_sub h4 ib_1
    obtain ⟨st', k1, k2, k3⟩ := ih (g + 1) m _ (by omega) (by omega) (by omega) h5 (by show st.2 + 1 + 1 + 1 = _; omega)
    refine ⟨st', k1, k2, fun st2 i j hz => ?_⟩
    show xP_init_b73 gl _ (some n0) (nI n) (nI g) st = _
    unfold xP_init_b73
    refine ru_f (show ¬ nI 8 ≤ nI g from nI_ge (by omega) (by decide)) ?_
    have h00 := cv_at h (show ib_ gl A n g 0 0 0 0 (0, 0) = some _ from rfl)
    rw [e00] at h00
    refine ru_g (some (A (2, 0))) (og_q (q := some (A (2, 0))) h00 (by simp) rfl) ?_
    refine ru_n (i2 := 2 + (3 * d + i)) (j2 := 16 + (19 * d + j)) ?_ (by omega) (by omega)
    refine ru_b (i2 := 3 * d + i) (j2 := 19 * d + j) hx ?_ rfl rfl
    rw [← e13]
    refine ru_w _ hw ?_
    rw [nI_1]
    exact k3 st2 i j hz
end CIG
