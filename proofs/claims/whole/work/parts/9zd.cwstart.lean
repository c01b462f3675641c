/-! The start: class and reference are made; then the law's loop. -/
/-- the reference's picture when k vats are made -/
def mz_ (n k : Nat) : ms_S := (fun s => if s = 0 then nI n else if s = 1 then nI k else 0, fun r e => if (r = 6 ∨ r = 11) ∧ 1 ≤ e ∧ e ≤ k then nI (e - 1) else 0)
section CST
variable {gl : gl_T} {fx : fx_T} {ad : Nat × Nat → Nat} {n n0 : Nat} {st : st_S} {x : Int32}
theorem bb8_ : ∀ {k : Nat}, k < 4 → ((nI k).toInt8.toInt32).toInt8.toInt32 = nI k
  | 0, _ => by decide
  | 1, _ => by decide
  | 2, _ => by decide
  | 3, _ => by decide
  | k + 4, h => by omega
theorem mz_s {k : Nat} : pu_a (pu_a (pu_s (mz_ n k) 1 (nI (k + 1))) 6 (k + 1) (nI k)) 11 (k + 1) (nI k) = mz_ n (k + 1) := by
  refine Prod.ext (funext (fun s => ?_)) (funext (fun r => funext (fun e => ?_)))
  · show (pu_s (mz_ n k) 1 (nI (k + 1))).1 s = _
    by_cases h : s = 1
    · rw [h, ps_s]
      rfl
    · rw [ps_n h]
      show (if s = 0 then nI n else if s = 1 then nI k else 0) = if s = 0 then nI n else if s = 1 then nI (k + 1) else 0
      rw [if_neg h, if_neg h]
  · show _ = if (r = 6 ∨ r = 11) ∧ 1 ≤ e ∧ e ≤ k + 1 then nI (e - 1) else 0
    have old : (mz_ n k).2 r e = if (r = 6 ∨ r = 11) ∧ 1 ≤ e ∧ e ≤ k then nI (e - 1) else 0 := rfl
    by_cases he : e = k + 1
    · subst he
      by_cases h11 : r = 11
      · subst h11
        rw [pa_s, if_pos (by omega)]
        rfl
      · rw [pa_n (Or.inl h11)]
        by_cases h6 : r = 6
        · subst h6
          rw [pa_s, if_pos (by omega)]
          rfl
        · rw [pa_n (Or.inl h6), if_neg (by omega)]
          show (mz_ n k).2 r (k + 1) = 0
          rw [old, if_neg (by omega)]
    · rw [pa_n (Or.inr he), pa_n (Or.inr he)]
      show (mz_ n k).2 r e = _
      rw [old]
      by_cases c : (r = 6 ∨ r = 11) ∧ 1 ≤ e ∧ e ≤ k
      · rw [if_pos c, if_pos (by omega)]
      · rw [if_neg c, if_neg (by omega)]
theorem pm_init_it (hn : n ≤ 4) : ∀ (d k fuel : Nat), n - k = d → k ≤ n → d < fuel → pt_ (fun rec263 => (fun x : Int32 => pm_init_b263 rec263 x)) fuel (nI k) (mz_ n k) = some ((), mz_ n n) := by
  intro d
  induction d with
  | zero =>
    intro k fuel hd hk hf
    obtain ⟨m, rfl⟩ : ∃ m, fuel = m + 1 := ⟨fuel - 1, by omega⟩
    have : k = n := by omega
    subst this
    show pm_init_b263 _ (nI k) (mz_ k k) = _
    unfold pm_init_b263
    refine pn_g (nI k) rfl ?_
    exact pn_t (nI_le (Nat.le_refl _) (by omega)) rfl
  | succ d ih =>
    intro k fuel hd hk hf
    obtain ⟨m, rfl⟩ : ∃ m, fuel = m + 1 := ⟨fuel - 1, by omega⟩
    show pm_init_b263 _ (nI k) (mz_ n k) = _
    unfold pm_init_b263
    refine pn_g (nI n) rfl ?_
    refine pn_f (nI_ge (by omega) (by omega)) ?_
    refine pn_g (nI k) rfl ?_
    rw [nI_1, bb8_ (by omega)]
    refine pn_w _ rfl ?_
    refine pn_g (nI (k + 1)) (congrArg some ps_s) ?_
    refine pn_w _ (po_s (by show k + 1 < 201; omega)) ?_
    refine pn_g (nI (k + 1)) (congrArg some (show (pu_s (mz_ n k) 1 (nI (k + 1))).1 1 = nI (k + 1) from ps_s)) ?_
    refine pn_w _ (po_s (by show k + 1 < 61; omega)) ?_
    rw [mz_s]
    exact ih (k + 1) m (by omega) (by omega) (by omega)
theorem pm_init_ok (hn : n ≤ 4) : pm_init (nI n) (fun _ => 0, fun _ _ => 0) = some ((), mz_ n n) := by
  unfold pm_init
  have e : pu_s (fun _ => 0, fun _ _ => 0) 0 (nI n) = mz_ n 0 := by
    refine Prod.ext (funext (fun s => ?_)) (funext (fun r => funext (fun e => ?_)))
    · show (pu_s (fun _ => 0, fun _ _ => 0) 0 (nI n)).1 s = if s = 0 then nI n else if s = 1 then nI 0 else 0
      by_cases h : s = 0
      · rw [h, ps_s, if_pos rfl]
      · rw [ps_n h, if_neg h]
        split <;> rfl
    · show (0 : Int32) = if (r = 6 ∨ r = 11) ∧ 1 ≤ e ∧ e ≤ 0 then nI (e - 1) else 0
      rw [if_neg (by omega)]
  refine pn_w _ (congrArg some e) ?_
  exact pm_init_it hn n 0 fu_ rfl (Nat.zero_le _) (by unfold fu_; omega)
theorem mz_o {r e : Nat} (h : r ≠ 6 ∧ r ≠ 11) : (mz_ n n).2 r e = 0 := if_neg (fun z => z.1.elim h.1 h.2)
theorem z0_c (e : Nat) : ((1 ≤ e ∧ e ≤ n) ∧ ze_ (z0_ n) e = (e - 1, false, false, 0, e - 1, 0, fun _ => 0, fun _ => 0, fun _ => 0, fun _ _ => 0)) ∨ (¬ (1 ≤ e ∧ e ≤ n) ∧ ze_ (z0_ n) e = e0_) := by
  by_cases c : 1 ≤ e ∧ e ≤ n
  · exact Or.inl ⟨c, if_pos c⟩
  · exact Or.inr ⟨c, if_neg c⟩
theorem rm_0 : rm_ (z0_ n) (mz_ n n) := by
  refine ⟨⟨rfl, rfl, rfl⟩, fun g hg => ⟨mz_o (by decide), fun i q hq => by simp [z0_, zg_] at hq⟩, fun e he => ?_, ⟨rfl, fun k r hr => by simp [z0_, zr_] at hr⟩, ⟨rfl, fun k r hr => by simp [z0_, zl_] at hr⟩, fun v hv => ⟨mz_o (by decide), fun k x hk hx => by simp [z0_, zt_] at hx⟩, rfl⟩
  have h6 : ∀ r, (r = 6 ∨ r = 11) → (mz_ n n).2 r e = if 1 ≤ e ∧ e ≤ n then nI (e - 1) else 0 := fun r hr => by
    show (if (r = 6 ∨ r = 11) ∧ 1 ≤ e ∧ e ≤ n then nI (e - 1) else 0) = _
    by_cases c : 1 ≤ e ∧ e ≤ n
    · rw [if_pos ⟨hr, c⟩, if_pos c]
    · rw [if_neg (fun z => c z.2), if_neg c]
  unfold zh_
  rcases z0_c (n := n) e with ⟨c, hE⟩ | ⟨c, hE⟩
  · rw [hE]
    refine ⟨(h6 6 (Or.inl rfl)).trans (if_pos c), mz_o (by decide), mz_o (by decide), mz_o (by decide), fun b hb => ⟨mz_o (by decide), mz_o (by decide)⟩, fun a b ha hb => mz_o (by decide), fun _ => ⟨(h6 11 (Or.inr rfl)).trans (if_pos c), mz_o (by decide), fun s hs => mz_o (by decide)⟩⟩
  · rw [hE]
    refine ⟨(h6 6 (Or.inl rfl)).trans (if_neg c), mz_o (by decide), mz_o (by decide), mz_o (by decide), fun b hb => ⟨mz_o (by decide), mz_o (by decide)⟩, fun a b ha hb => mz_o (by decide), fun _ => ⟨(h6 11 (Or.inr rfl)).trans (if_neg c), mz_o (by decide), fun s hs => mz_o (by decide)⟩⟩
theorem made_0 {e : Nat} : zk_made (z0_ n) e = true ↔ 1 ≤ e ∧ e ≤ n := by
  unfold zk_made
  show ((decide (1 ≤ e) && decide (e ≤ n)) || (decide (101 ≤ e) && decide (e ≤ 100 + 0))) = true ↔ _
  rw [Bool.or_eq_true, Bool.and_eq_true, Bool.and_eq_true, decide_eq_true_iff, decide_eq_true_iff, decide_eq_true_iff, decide_eq_true_iff]
  omega
theorem RW_0 : RW (z0_ n) (wz_ n) 50 := by
  refine ⟨rfl, fun e => ?_, rfl, rfl, fun g hg => ⟨rfl, fun i q hq => by simp [z0_, zg_] at hq⟩, fun L hL hL2 hL3 => rfl, fun a b ha hb => rfl, fun L hL => ⟨Nat.le_refl _, by show 0 < 3700; decide, fun a ha => by cases ha⟩⟩
  show decide (1 ≤ e ∧ e ≤ n) = _
  rw [Bool.eq_iff_iff, made_0, decide_eq_true_iff]
theorem zH_0 : zH (z0_ n) := fun e he => by
  have c := made_0.mp he
  unfold zh_
  rw [z0_e c]
  show e - 1 < n
  omega
theorem zW_0 : zW (z0_ n) := fun p hp => Nat.zero_le _
theorem lr_0 : lr_ ad (wz_ n) [] := ⟨rfl, by decide, fun i q hq => by simp at hq⟩
/-- how many vats there are -/
theorem clamp_ok (x : Int32) : ∃ n, 2 ≤ n ∧ n ≤ 4 ∧ (if 2 ≤ x then (if x ≤ 4 then x else 4) else 2) = nI n ∧ ∃ t, (∀ st, ma_min gl 4 x st = some (t, st, 0, 0)) ∧ ∀ st, ma_max gl 2 t st = some (nI n, st, 0, 0) := by
  have i2 : (2 : Int32).toInt = 2 := by decide
  have i4 : (4 : Int32).toInt = 4 := by decide
  by_cases h2 : (2 : Int32) ≤ x
  · by_cases h4 : x ≤ (4 : Int32)
    · rw [if_pos h2, if_pos h4]
      have h2' := Int32.le_iff_toInt_le.mp h2
      have h4' := Int32.le_iff_toInt_le.mp h4
      rw [i2] at h2'
      rw [i4] at h4'
      obtain ⟨j, hj, rfl⟩ := nI_of (x := x) (fun q => by
        have := Int32.lt_iff_toInt_lt.mp q
        have i0 : (0 : Int32).toInt = 0 := by decide
        omega)
      rw [nI_toInt hj] at h2' h4'
      have hj2 : 2 ≤ j := by omega
      have hj4 : j ≤ 4 := by omega
      by_cases c : nI j < 4
      · refine ⟨j, hj2, hj4, rfl, nI j, fun st => by unfold ma_min; exact ru_t c rfl, fun st => ?_⟩
        unfold ma_max
        by_cases d : (2 : Int32) < nI j
        · exact ru_t d rfl
        · refine ru_f d ?_
          have : j = 2 := Classical.byContradiction (fun z => d (show nI 2 < nI j from nI_lt (by omega) (by omega)))
          rw [this]
          rfl
      · have : j = 4 := Classical.byContradiction (fun z => c (show nI j < nI 4 from nI_lt (by omega) (by omega)))
        subst this
        exact ⟨4, by omega, by omega, rfl, 4, fun st => by unfold ma_min; exact ru_f c rfl, fun st => by unfold ma_max; exact ru_t (by decide) rfl⟩
    · rw [if_pos h2, if_neg h4]
      have h4' : ¬ x < 4 := fun z => h4 (by
        have z := Int32.lt_iff_toInt_lt.mp z
        rw [Int32.le_iff_toInt_le]
        omega)
      exact ⟨4, by omega, by omega, rfl, 4, fun st => by unfold ma_min; exact ru_f h4' rfl, fun st => by unfold ma_max; exact ru_t (by decide) rfl⟩
  · rw [if_neg h2]
    have h4 : x < 4 := by
      rw [Int32.lt_iff_toInt_lt, i4]
      have : ¬ (2 : Int32).toInt ≤ x.toInt := fun z => h2 (Int32.le_iff_toInt_le.mpr z)
      omega
    have h3 : ¬ (2 : Int32) < x := fun z => h2 (by
      have z := Int32.lt_iff_toInt_lt.mp z
      rw [Int32.le_iff_toInt_le]
      omega)
    exact ⟨2, by omega, by omega, rfl, x, fun st => by unfold ma_min; exact ru_t h4 rfl, fun st => by unfold ma_max; exact ru_f h3 rfl⟩
theorem cell_ok (hb : gl.2.2.2.1 ≤ 2049) : ∃ x, ∀ st, lx_cell gl (some gl.2.2.1) 0 st = some (x, st, 0, 0) := by
  by_cases h : gl.2.2.2.1 = 0
  · refine ⟨0, fun st => ?_⟩
    unfold lx_cell
    refine ru_g _ xl_ok ?_
    refine ru_t ?_ rfl
    rw [h]
    decide
  · refine ⟨gl.2.2.2.2 0, fun st => ?_⟩
    unfold lx_cell
    refine ru_g _ xl_ok ?_
    refine ru_f (show ¬ nI gl.2.2.2.1 ≤ nI 0 from nI_ge (by omega) (by omega)) ?_
    exact ru_g _ (xs_ok (k := 0) (by omega) hb) rfl
/-- the pure statement -/
theorem pu_ok (gl : gl_T) (n0 : Nat) (hlen : gl.2.2.2.1 ≤ 2049) (hg : gl.1 < n0) (hg2 : gl.2.2.1 < n0) : ∃ (stF : st_S) (i j : Nat), lx_law gl (some gl.2.2.1) ((fun _ => none), n0) = some (1, stF, i, j) ∧ i ≤ 600000 ∧ j ≤ 7302250 := by
  obtain ⟨x, hx⟩ := cell_ok hlen
  obtain ⟨n, hn2, hn4, hcl, t, ht1, ht2⟩ := clamp_ok (gl := gl) x
  obtain ⟨st0, hst0⟩ : ∃ st0 : st_S, st0 = ((fun _ => none), n0) := ⟨_, rfl⟩
  have hs2 : st0.2 = n0 := by rw [hst0]
  have hcv : cv_ gl ((fun a => a = gl.1), fun _ => none) (ia_ st0.2 n) (fun _ => none) st0 := by
    refine ⟨fun k c h => (by cases h), fun k j c d h => (by cases h), fun a _ => (by rw [hst0]), fun k c h => (by cases h), fun a ha => ⟨?_, fun h => absurd ha h⟩, rfl⟩
    have ha : a = gl.1 := ha
    rw [hs2, ha]
    exact hg
  obtain ⟨st1, i1, j1, a1, a2, a3, a4, a5⟩ := xP_init_ok hn4 (ht1 _) (ht2 _) hcv
  have hm0 : st1.2 < (st_ad st1 (.inr (.inr (10, cd_10)))).2 := Nat.lt_succ_self _
  obtain ⟨st2, b1, b2, b3, b4⟩ := mi_run (gl := gl) (v := x) (M := mz_ n n) hm0 ad_s (by rw [hcl]; exact pm_init_ok hn4)
  obtain ⟨am, ham⟩ : ∃ am : Nat → Nat, am = fun k => (st_ad st1 (.inr (.inr (10, cd_10)))).2 + ii_x k := ⟨_, rfl⟩
  rw [← ham] at b2
  have key : ∀ k ∈ mk_a, ii_x k < 27 := by decide +kernel
  have hamv : ∀ k, am k = st1.2 + 1 + ii_x k := fun k => by rw [ham]; rfl
  have b3 : st2.2 = st1.2 + 1 + 27 := b3
  have hmo : ∀ a, a < st1.2 → mo_ st1.2 am a := fun a ha => ⟨by omega, fun k hk => by rw [hamv]; omega⟩
  have hold : ∀ a, a < st1.2 → st2.1 a = st1.1 a := fun a ha => (b4 a (by omega) (Or.inl (show a < st1.2 + 1 by omega))).trans (ad_n (by omega))
  have hCW : CW gl ((fun a => a = gl.1 ∨ ¬ mo_ st1.2 am a), st2.1) (ia_ st0.2 n) (wz_ n) st2 := by
    obtain ⟨c1, c2, c3, c4, c5, c6⟩ := a4
    refine ⟨fun k c hk => ?_, c2, fun a ha => ?_, fun k c hk z => ?_, fun a ha => ⟨?_, fun _ => rfl⟩, Or.inl rfl⟩
    · rw [hold _ (sw_lt c3 (c1 k c hk))]
      exact c1 k c hk
    · rw [b3] at ha
      rw [b4 a (by omega) (Or.inr (show st1.2 + 1 + 27 ≤ a by omega)), ad_n (by omega)]
      exact c3 a (by omega)
    · rcases z with z | z
      · exact c4 k c hk z
      · exact z (hmo _ (sw_lt c3 (c1 k c hk)))
    · rw [b3]
      rcases ha with ha | ha
      · rw [ha]
        omega
      · refine Classical.byContradiction (fun c => ha ⟨by omega, fun k hk => ?_⟩)
        have := key k hk
        rw [hamv]
        omega
  have hjo : jo_ gl (List.range 804) st1.2 am n0 0 (z0_ n) (wz_ n) st2 := by
    refine ⟨zA_0 hn2 hn4, zH_0, zW_0, RW_0, hmo _ (by omega), ia_ st0.2 n, _, mz_ n n, ?_, hCW, fun a => Iff.rfl, lr_0, b2, rm_0⟩
    show st0.2 = n0
    exact hs2
  obtain ⟨stF, i, j, c1, c2, c3⟩ := lx_it (l := List.range 804) ⟨List.nodup_range, fun k hk => List.mem_range.mpr hk⟩ hlen 512 0 fu_ st2 (z0_ n) (wz_ n) rfl (by omega) (by unfold fu_; omega) hjo
  refine ⟨stF, 1 + (i1 + (1 + (27 + i))), 10 + (j1 + (36 + (17976 + j))), ?_, by omega, by omega⟩
  rw [← hst0]
  unfold lx_law
  refine ru_n (i2 := i1 + (1 + (27 + i))) (j2 := j1 + (36 + (17976 + j))) ?_ rfl rfl
  refine ru_b (i2 := i1 + (1 + (27 + i))) (j2 := j1 + (36 + (17976 + j))) (hx _) ?_ (by omega) (by omega)
  refine ru_b (i2 := 1 + (27 + i)) (j2 := 36 + (17976 + j)) a1 ?_ rfl rfl
  refine ru_n (i2 := 27 + i) (j2 := 17976 + j) ?_ rfl rfl
  refine ru_b (i2 := 27 + i) (j2 := 17976 + j) (hx _) ?_ (by omega) (by omega)
  refine ru_b (i2 := i) (j2 := j) b1 ?_ rfl rfl
  rw [hs2]
  exact c1
end CST
