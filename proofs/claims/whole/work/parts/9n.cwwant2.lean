/-! The class's sweep: the wanted are reached. -/
def wb_ (E : ze_E) : Bool := (List.range 4).any (fun b => decide (0 < ex_ E b)) || (List.range 16).any (fun q => decide (0 < eo_ E (q / 4) (q % 4)))
/-- wanted in the vat v -/
def wnt_ (Z : zz_S) (v u : Nat) : Prop := zk_live Z u = true ∧ zh_ Z u = v ∧ (wb_ (ze_ Z u) = true ∨ (100 < u ∧ z_waits Z u ≠ 0))
section CWB
variable {gl : gl_T} {fx : fx_T} {ad : Nat × Nat → Nat} {W W' W0 : cw_W} {st st' : st_S} {Z X : zz_S} {e a b v L g u q t h p w ref c n f o y k pos : Nat} {x op : Int32} {lost l fl fl1 fl2 fl' : List Nat}
theorem oi_le0b {x : Int} (h1 : -2000000000 < x) (h2 : x < 2000000000) : Int32.ofInt x ≤ 0 ↔ x ≤ 0 := by
  rw [Int32.le_iff_toInt_le, Int32.toInt_ofInt]
  have hs : (Int32.size : Int) = 4294967296 := rfl
  rw [Int.bmod_eq_of_le (by omega) (by omega)]
  simp
theorem uo_0 {E : ze_E} {s : Int} (q : Nat) : 0 ≤ uo_ E s q := by
  unfold uo_
  split <;> omega
theorem sum_le {g : Nat → Int} {m : Int} : ∀ (l : List Nat), (∀ q ∈ l, g q ≤ m) → (l.map g).sum ≤ l.length * m
  | [], _ => by simp
  | q :: l, h => by
    have a := sum_le l (fun y hy => h y (List.mem_cons_of_mem _ hy))
    have d := h q List.mem_cons_self
    rw [List.map_cons, List.sum_cons, List.length_cons]
    rw [show ((l.length + 1 : Nat) : Int) = (l.length : Int) + 1 from rfl, Int.add_mul, Int.one_mul]
    omega
theorem sum_ge {g : Nat → Int} (h : ∀ q, 0 ≤ g q) : ∀ (l : List Nat), 0 ≤ (l.map g).sum
  | [] => Int.le_refl _
  | q :: l => by
    have a := sum_ge h l
    have d := h q
    rw [List.map_cons, List.sum_cons]
    omega
theorem uo_sum {E : ze_E} {s : Int} (hs : s = 1 ∨ s = -1) (hx : ∀ a b, a < 4 → b < 4 → -1000000 < eo_ E a b ∧ eo_ E a b < 1000000) : 0 ≤ ((List.range' 0 16).map (uo_ E s)).sum ∧ ((List.range' 0 16).map (uo_ E s)).sum ≤ 16000000 := by
  refine ⟨sum_ge (fun q => uo_0 q) _, ?_⟩
  have := sum_le (g := uo_ E s) (m := 1000000) (List.range' 0 16) (fun q hq => by
    have hq2 := List.mem_range'_1.mp hq
    obtain ⟨o1, o2⟩ := hx (q / 4) (q % 4) (by omega) (by omega)
    unfold uo_
    rcases hs with z | z <;> rw [z] <;> split <;> omega)
  rw [List.length_range'] at this
  omega
theorem uo_pos {E : ze_E} : 0 < ((List.range' 0 16).map (uo_ E 1)).sum ↔ (List.range 16).any (fun q => decide (0 < eo_ E (q / 4) (q % 4))) = true := by
  rw [sum_pos (fun q => uo_0 q), List.any_eq_true, List.range_eq_range']
  constructor
  · rintro ⟨q, h1, h2⟩
    refine ⟨q, h1, decide_eq_true ?_⟩
    unfold uo_ at h2
    rw [Int.one_mul] at h2
    split at h2 <;> omega
  · rintro ⟨q, h1, h2⟩
    have h2 := of_decide_eq_true h2
    refine ⟨q, h1, ?_⟩
    unfold uo_
    rw [Int.one_mul, if_pos h2]
    exact h2
theorem xE_want_ok (hW : CW gl fx ad W st) (hd : cwd_ W e = true) (hx : ∀ b, b < 4 → -1000000 < ex_ (cwe_ W e) b ∧ ex_ (cwe_ W e) b < 1000000) (hy : ∀ a b, a < 4 → b < 4 → -1000000 < eo_ (cwe_ W e) a b ∧ eo_ (cwe_ W e) a b < 1000000) : xE_isWanted gl (some (ad (16, e))) st = some (bi_ (wb_ (cwe_ W e)), st, 0, 0) := by
  have hcm : ∃ i, so_cm (some (ad (16, e))) [3, 4] st = some i := by
    obtain ⟨ci, fs, h1, h2, -⟩ := he_any (ad := ad) (W := W) (e := e)
    exact ⟨ci, og_m ((at_16 hW hd).trans (by rw [h1])) h2⟩
  obtain ⟨ci, hcm⟩ := hcm
  unfold xE_isWanted wb_
  refine ru_g _ hcm ?_
  refine ru_b (i2 := 0) (j2 := 0) (xE_exp_ok hW hd hx) ?_ rfl rfl
  cases h1 : (List.range 4).any (fun b => decide (0 < ex_ (cwe_ W e) b)) with
  | true => exact ru_f (by decide) rfl
  | false =>
    refine ru_t rfl ?_
    refine ru_g _ hcm ?_
    refine ru_b (i2 := 0) (j2 := 0) (xE_unp_ok (s := 1) (Or.inl rfl) rfl hW hd hy) ?_ rfl rfl
    obtain ⟨b1, b2⟩ := uo_sum (E := cwe_ W e) (s := 1) (Or.inl rfl) hy
    have hp := uo_pos (E := cwe_ W e)
    have hle := oi_le0b (x := ((List.range' 0 16).map (uo_ (cwe_ W e) 1)).sum) (by omega) (by omega)
    cases h2 : (List.range 16).any (fun q => decide (0 < eo_ (cwe_ W e) (q / 4) (q % 4))) with
    | true =>
      have := hp.mpr h2
      exact ru_f (fun z => by have := hle.mp z; omega) rfl
    | false =>
      refine ru_t (hle.mpr ?_) rfl
      refine Int.not_lt.mp (fun z => ?_)
      rw [hp.mp z] at h2
      cases h2
theorem xQ_want_ok (hW : CW gl fx ad W st) (hd : cwd_ W e = true) (he : 100 < e) (hwf : wf_ W) (hx : ∀ b, b < 4 → -1000000 < ex_ (cwe_ W e) b ∧ ex_ (cwe_ W e) b < 1000000) (hy : ∀ a b, a < 4 → b < 4 → -1000000 < eo_ (cwe_ W e) a b ∧ eo_ (cwe_ W e) a b < 1000000) : xQ_isWanted gl (some (ad (16, e))) st = some (bi_ (wb_ (cwe_ W e) || decide (cwl_ W e ≠ [])), st, 0, 0) := by
  have hat := rp_at hW hd he
  have hv := cwv_p (W := W) he hd
  unfold xQ_isWanted wb_
  refine ru_g _ (og_m hat (by simp)) ?_
  refine ru_b (i2 := 0) (j2 := 0) (xE_exp_ok hW hd hx) ?_ rfl rfl
  cases h1 : (List.range 4).any (fun b => decide (0 < ex_ (cwe_ W e) b)) with
  | true => exact ru_f (by decide) rfl
  | false =>
    refine ru_t rfl ?_
    refine ru_g _ (og_m hat (by simp)) ?_
    refine ru_b (i2 := 0) (j2 := 0) (xE_unp_ok (s := 1) (Or.inl rfl) rfl hW hd hy) ?_ rfl rfl
    obtain ⟨b1, b2⟩ := uo_sum (E := cwe_ W e) (s := 1) (Or.inl rfl) hy
    have hp := uo_pos (E := cwe_ W e)
    have hle := oi_le0b (x := ((List.range' 0 16).map (uo_ (cwe_ W e) 1)).sum) (by omega) (by omega)
    cases h2 : (List.range 16).any (fun q => decide (0 < eo_ (cwe_ W e) (q / 4) (q % 4))) with
    | true =>
      have := hp.mpr h2
      exact ru_t (Int32.not_le.mp (fun z => by have := hle.mp z; omega)) rfl
    | false =>
      refine ru_f (Int32.not_lt.mpr (hle.mpr (Int.not_lt.mp (fun z => ?_)))) ?_
      · rw [hp.mp z] at h2
        cases h2
      · refine ru_g (some (ad (lk_ e))) ?_ ?_
        · rw [lk_p he]
          exact og_q (q := some (ad (20, e))) hat (by simp) rfl
        · refine ru_g _ (cu_lm hW hv) ?_
          refine ru_b (i2 := 0) (j2 := 0) (cu_empty hW hv hwf) ?_ rfl rfl
          by_cases z : cwl_ W e = []
          · rw [if_pos z, decide_eq_false (fun w => w z)]
            exact ru_f (by decide) rfl
          · rw [if_neg z, decide_eq_true z]
            exact ru_t rfl rfl
theorem fr_c {C C' : Nat → Prop} (h : fr_ fl fl' C) (hC : ∀ u, C u ↔ C' u) : fr_ fl fl' C' := ⟨h.1, fun u hu => h.2.1 u ((hC u).mpr hu), fun e he => (h.2.2 e he).imp id (hC e).mp⟩
theorem xP_rw_it (hz : zw_n Z) (hR : RW Z W0 50) (hx : zx_b Z 1000000) (hH : zH Z) (hv4 : v < 4) : ∀ (d i fuel : Nat) (st : st_S) (W : cw_W) (fl : List Nat), 201 - i = d → 1 ≤ i → i ≤ 201 → d < fuel → FS gl fx ad Z W0 W st fl →
    ∃ st' W' fl', st_it (fun rec2 => (fun x : Option Nat × Int32 × Int32 => xP_reachWanted_b2 gl rec2 x.1 x.2.1 x.2.2)) fuel (some (ad (0, 0)), nI v, nI i) st = some ((), st', 0, 0) ∧ FS gl fx ad Z W0 W' st' fl' ∧ fr_ fl fl' (fun u => i ≤ u ∧ wnt_ Z v u) := by
  intro d
  induction d with
  | zero =>
    intro i fuel st W fl hd0 h1 hi hf h
    obtain ⟨m, rfl⟩ : ∃ m, fuel = m + 1 := ⟨fuel - 1, by omega⟩
    refine ⟨st, W, fl, ?_, h, fr_i (fun u hu _ => ?_)⟩
    · show xP_reachWanted_b2 gl _ (some (ad (0, 0))) (nI v) (nI i) st = _
      unfold xP_reachWanted_b2
      refine ru_g _ (r0_2 h.1) (ru_g _ (r3_n h.1) ?_)
      exact ru_t (nI_le (by omega) (by omega)) rfl
    · have hl := hu.2.1
      unfold zk_live at hl
      rw [Bool.and_eq_true] at hl
      have := zk_K2 hz (Or.inr hl.1)
      omega
  | succ d ih =>
    intro i fuel st W fl hd0 h1 hi hf h
    obtain ⟨m, rfl⟩ : ∃ m, fuel = m + 1 := ⟨fuel - 1, by omega⟩
    have hW := h.1
    obtain ⟨cc, F, hWe⟩ := h.2.1
    have hRW : RW Z W 50 := by rw [hWe]; exact RW_m hR
    have hE : cwe_ W = ze_ Z := hRW.2.2.1
    have front : ∀ z, ((if (if cwd_ W i = true then some (ad (16, i)) else none) = none then
  (xP_reachWanted_b49 gl (st_it (fun rec2 => (fun x : Option Nat × Int32 × Int32 => xP_reachWanted_b2 gl rec2 x.1 x.2.1 x.2.2)) m) (some (ad (0, 0))) (nI v) (nI i))
  else
  (st_g (so_gi (if cwd_ W i = true then some (ad (16, i)) else none) [3, 4] 4) fun t5 =>
  if t5 = nI v then
  (st_g (so_gi (if cwd_ W i = true then some (ad (16, i)) else none) [3, 4] 5) fun t6 =>
  if t6 = 0 then
  (st_g (so_c (if cwd_ W i = true then some (ad (16, i)) else none)) fun t7 =>
  if t7 ∈ ([3] : List Nat) then
  (st_g (so_cm (if cwd_ W i = true then some (ad (16, i)) else none) [3]) fun _ =>
  st_b (xE_isWanted gl (if cwd_ W i = true then some (ad (16, i)) else none)) fun t8 =>
  if t8 = 0 then
  (xP_reachWanted_b49 gl (st_it (fun rec2 => (fun x : Option Nat × Int32 × Int32 => xP_reachWanted_b2 gl rec2 x.1 x.2.1 x.2.2)) m) (some (ad (0, 0))) (nI v) (nI i))
  else
  (st_g (so_cm (some (ad (0, 0))) [0]) fun _ =>
  st_b (xP_reach gl (some (ad (0, 0))) (if cwd_ W i = true then some (ad (16, i)) else none)) fun _ =>
  xP_reachWanted_b49 gl (st_it (fun rec2 => (fun x : Option Nat × Int32 × Int32 => xP_reachWanted_b2 gl rec2 x.1 x.2.1 x.2.2)) m) (some (ad (0, 0))) (nI v) (nI i)))
  else
  (st_g (so_cm (if cwd_ W i = true then some (ad (16, i)) else none) [4]) fun _ =>
  st_b (xQ_isWanted gl (if cwd_ W i = true then some (ad (16, i)) else none)) fun t26 =>
  if t26 = 0 then
  (xP_reachWanted_b49 gl (st_it (fun rec2 => (fun x : Option Nat × Int32 × Int32 => xP_reachWanted_b2 gl rec2 x.1 x.2.1 x.2.2)) m) (some (ad (0, 0))) (nI v) (nI i))
  else
  (st_g (so_cm (some (ad (0, 0))) [0]) fun _ =>
  st_b (xP_reach gl (some (ad (0, 0))) (if cwd_ W i = true then some (ad (16, i)) else none)) fun _ =>
  xP_reachWanted_b49 gl (st_it (fun rec2 => (fun x : Option Nat × Int32 × Int32 => xP_reachWanted_b2 gl rec2 x.1 x.2.1 x.2.2)) m) (some (ad (0, 0))) (nI v) (nI i))))
  else
  (xP_reachWanted_b49 gl (st_it (fun rec2 => (fun x : Option Nat × Int32 × Int32 => xP_reachWanted_b2 gl rec2 x.1 x.2.1 x.2.2)) m) (some (ad (0, 0))) (nI v) (nI i)))
  else
  (xP_reachWanted_b49 gl (st_it (fun rec2 => (fun x : Option Nat × Int32 × Int32 => xP_reachWanted_b2 gl rec2 x.1 x.2.1 x.2.2)) m) (some (ad (0, 0))) (nI v) (nI i)))) : st_M Unit) st = some z → st_it (fun rec2 => (fun x : Option Nat × Int32 × Int32 => xP_reachWanted_b2 gl rec2 x.1 x.2.1 x.2.2)) (m + 1) (some (ad (0, 0)), nI v, nI i) st = some z := by
      intro z hz0
      show xP_reachWanted_b2 gl _ (some (ad (0, 0))) (nI v) (nI i) st = _
      unfold xP_reachWanted_b2
      refine ru_g _ (r0_2 hW) (ru_g _ (r3_n hW) ?_)
      refine ru_f (nI_ge (by omega) (by decide)) ?_
      refine ru_g _ (r0_2 hW) (ru_g _ (r3_l hW (by omega)) ?_)
      exact hz0
    have next : ∀ (st1 : st_S) (W1 : cw_W) (fl1 : List Nat), FS gl fx ad Z W0 W1 st1 fl1 → fr_ fl fl1 (fun u => u = i ∧ wnt_ Z v i) → ∃ st' W' fl', xP_reachWanted_b49 gl (st_it (fun rec2 => (fun x : Option Nat × Int32 × Int32 => xP_reachWanted_b2 gl rec2 x.1 x.2.1 x.2.2)) m) (some (ad (0, 0))) (nI v) (nI i) st1 = some ((), st', 0, 0) ∧ FS gl fx ad Z W0 W' st' fl' ∧ fr_ fl fl' (fun u => i ≤ u ∧ wnt_ Z v u) := by
      intro st1 W1 fl1 g1 g2
      obtain ⟨st2, W2, fl2, q1, q2, q3⟩ := ih (i + 1) m st1 W1 fl1 (by omega) (by omega) (by omega) (by omega) g1
      refine ⟨st2, W2, fl2, ?_, q2, frt_ g2 q3 (fun u => ?_)⟩
      · unfold xP_reachWanted_b49
        rw [nI_1]
        exact q1
      · constructor
        · rintro ⟨w1, w2⟩
          by_cases z : u = i
          · exact Or.inl ⟨z, by rw [← z]; exact w2⟩
          · exact Or.inr ⟨by omega, w2⟩
        · rintro (⟨w1, w2⟩ | ⟨w1, w2⟩)
          · rw [w1]
            exact ⟨Nat.le_refl _, w2⟩
          · exact ⟨by omega, w2⟩
    have skip : ¬ wnt_ Z v i → fr_ fl fl (fun u => u = i ∧ wnt_ Z v i) := fun z => fr_i (fun u hu _ => absurd hu.2 z)
    by_cases hm : zk_made Z i = true
    · have hd : cwd_ W i = true := by rw [hRW.2.1]; exact hm
      have hhn := hH i hm
      have hn4 := hz.2.1
      rw [if_pos hd] at front
      have hh := re_h hW hd
      rw [hE] at hh
      have hgo := re_g hW hd
      rw [hE] at hgo
      by_cases hhv : zh_ Z i = v
      · cases hg : eg_ (ze_ Z i) with
        | true =>
          have hnw : ¬ wnt_ Z v i := fun z => by
            have := z.1
            unfold zk_live at this
            rw [hg] at this
            simp at this
          obtain ⟨st2, W2, fl2, q1, q2, q3⟩ := next st W fl h (skip hnw)
          refine ⟨st2, W2, fl2, front _ ?_, q2, q3⟩
          refine ru_f (fun z => by cases z) (ru_g _ hh (ru_t (by rw [← hhv]; rfl) (ru_g _ hgo ?_)))
          rw [hg]
          exact ru_f (by decide) q1
        | false =>
          have hlv : zk_live Z i = true := by
            unfold zk_live
            rw [hm, hg]
            rfl
          have hb := hx i (by omega)
          have hx1 : ∀ b, b < 4 → -1000000 < ex_ (cwe_ W i) b ∧ ex_ (cwe_ W i) b < 1000000 := fun b hb4 => by
            rw [hE]
            exact ⟨(hb.1 b hb4).1, (hb.1 b hb4).2.1⟩
          have hx2 : ∀ a b, a < 4 → b < 4 → -1000000 < eo_ (cwe_ W i) a b ∧ eo_ (cwe_ W i) a b < 1000000 := fun a b ha4 hb4 => by
            rw [hE]
            exact hb.2 a b ha4 hb4
          have front2 : ∀ z, ((st_g (so_c (some (ad (16, i)))) fun t7 =>
  if t7 ∈ ([3] : List Nat) then
  (st_g (so_cm (some (ad (16, i))) [3]) fun _ =>
  st_b (xE_isWanted gl (some (ad (16, i)))) fun t8 =>
  if t8 = 0 then
  (xP_reachWanted_b49 gl (st_it (fun rec2 => (fun x : Option Nat × Int32 × Int32 => xP_reachWanted_b2 gl rec2 x.1 x.2.1 x.2.2)) m) (some (ad (0, 0))) (nI v) (nI i))
  else
  (st_g (so_cm (some (ad (0, 0))) [0]) fun _ =>
  st_b (xP_reach gl (some (ad (0, 0))) (some (ad (16, i)))) fun _ =>
  xP_reachWanted_b49 gl (st_it (fun rec2 => (fun x : Option Nat × Int32 × Int32 => xP_reachWanted_b2 gl rec2 x.1 x.2.1 x.2.2)) m) (some (ad (0, 0))) (nI v) (nI i)))
  else
  (st_g (so_cm (some (ad (16, i))) [4]) fun _ =>
  st_b (xQ_isWanted gl (some (ad (16, i)))) fun t26 =>
  if t26 = 0 then
  (xP_reachWanted_b49 gl (st_it (fun rec2 => (fun x : Option Nat × Int32 × Int32 => xP_reachWanted_b2 gl rec2 x.1 x.2.1 x.2.2)) m) (some (ad (0, 0))) (nI v) (nI i))
  else
  (st_g (so_cm (some (ad (0, 0))) [0]) fun _ =>
  st_b (xP_reach gl (some (ad (0, 0))) (some (ad (16, i)))) fun _ =>
  xP_reachWanted_b49 gl (st_it (fun rec2 => (fun x : Option Nat × Int32 × Int32 => xP_reachWanted_b2 gl rec2 x.1 x.2.1 x.2.2)) m) (some (ad (0, 0))) (nI v) (nI i)))) : st_M Unit) st = some z → st_it (fun rec2 => (fun x : Option Nat × Int32 × Int32 => xP_reachWanted_b2 gl rec2 x.1 x.2.1 x.2.2)) (m + 1) (some (ad (0, 0)), nI v, nI i) st = some z := by
            intro z hz0
            refine front _ (ru_f (fun z => by cases z) (ru_g _ hh (ru_t (by rw [← hhv]; rfl) (ru_g _ hgo ?_))))
            rw [hg]
            exact ru_t rfl hz0
          have i0 : i ≠ 0 := by omega
          have hreach := fun (hwn : wnt_ Z v i) => xP_reach_ok (u := i) hz hR h (Or.inr hm)
          rw [rf_s i0] at hreach
          by_cases hi100 : i ≤ 100
          · have hwE := xE_want_ok hW hd hx1 hx2
            rw [hE] at hwE
            have hro := ro_at hW hd hi100
            have front3 := fun z hz0 => front2 z (ru_g _ (og_c hro) (ru_t (by simp) (ru_g _ (og_m hro (by simp)) hz0)))
            have hwi : wnt_ Z v i ↔ wb_ (ze_ Z i) = true := ⟨fun z => z.2.2.elim id (fun y => absurd y.1 (by omega)), fun z => ⟨hlv, hhv, Or.inl z⟩⟩
            cases hwb : wb_ (ze_ Z i) with
            | false =>
              obtain ⟨st2, W2, fl2, q1, q2, q3⟩ := next st W fl h (skip (fun z => by rw [hwi, hwb] at z; cases z))
              refine ⟨st2, W2, fl2, front3 _ (ru_b (i2 := 0) (j2 := 0) hwE ?_ rfl rfl), q2, q3⟩
              rw [hwb]
              exact ru_t rfl q1
            | true =>
              obtain ⟨st1, W1, fl1, p1, p2, p3⟩ := hreach (hwi.mpr hwb)
              obtain ⟨st2, W2, fl2, q1, q2, q3⟩ := next st1 W1 fl1 p2 (fr_c p3 (fun u => ⟨fun z => ⟨z, hwi.mpr hwb⟩, fun z => z.1⟩))
              refine ⟨st2, W2, fl2, front3 _ (ru_b (i2 := 0) (j2 := 0) hwE ?_ rfl rfl), q2, q3⟩
              rw [hwb]
              exact ru_f (by decide) (ru_g _ (r0_m hW) (ru_b p1 q1 rfl rfl))
          · have hwE := xQ_want_ok hW hd (by omega) hRW.2.2.2.2.2.2.2 hx1 hx2
            rw [hE] at hwE
            have hro := rp_at hW hd (by omega)
            have front3 := fun z hz0 => front2 z (ru_g _ (og_c hro) (ru_f (by simp) (ru_g _ (og_m hro (by simp)) hz0)))
            have hvl := cwv_p (W := W) (e := i) (by omega) hd
            have hll := len_L hRW hvl (Or.inr (by omega)) (by omega)
            have hne : cwl_ W i ≠ [] ↔ z_waits Z i ≠ 0 := by
              rw [← hll]
              cases cwl_ W i <;> simp
            have hwi : wnt_ Z v i ↔ (wb_ (ze_ Z i) || decide (cwl_ W i ≠ [])) = true := by
              rw [Bool.or_eq_true, decide_eq_true_iff, hne]
              exact ⟨fun z => z.2.2.imp id (fun y => y.2), fun z => ⟨hlv, hhv, z.imp id (fun y => ⟨by omega, y⟩)⟩⟩
            cases hwb : (wb_ (ze_ Z i) || decide (cwl_ W i ≠ [])) with
            | false =>
              obtain ⟨st2, W2, fl2, q1, q2, q3⟩ := next st W fl h (skip (fun z => by rw [hwi, hwb] at z; cases z))
              refine ⟨st2, W2, fl2, front3 _ (ru_b (i2 := 0) (j2 := 0) hwE ?_ rfl rfl), q2, q3⟩
              rw [hwb]
              exact ru_t rfl q1
            | true =>
              obtain ⟨st1, W1, fl1, p1, p2, p3⟩ := hreach (hwi.mpr hwb)
              obtain ⟨st2, W2, fl2, q1, q2, q3⟩ := next st1 W1 fl1 p2 (fr_c p3 (fun u => ⟨fun z => ⟨z, hwi.mpr hwb⟩, fun z => z.1⟩))
              refine ⟨st2, W2, fl2, front3 _ (ru_b (i2 := 0) (j2 := 0) hwE ?_ rfl rfl), q2, q3⟩
              rw [hwb]
              exact ru_f (by decide) (ru_g _ (r0_m hW) (ru_b p1 q1 rfl rfl))
      · obtain ⟨st2, W2, fl2, q1, q2, q3⟩ := next st W fl h (skip (fun z => hhv z.2.1))
        refine ⟨st2, W2, fl2, front _ ?_, q2, q3⟩
        refine ru_f (fun z => by cases z) (ru_g _ hh (ru_f (fun z => hhv ((nI_eq (by show zh_ Z i < _; omega) (by omega)).mp z)) q1))
    · have hd : cwd_ W i ≠ true := by rw [hRW.2.1]; exact hm
      rw [if_neg hd] at front
      obtain ⟨st2, W2, fl2, q1, q2, q3⟩ := next st W fl h (skip (fun z => by
        have := z.1
        unfold zk_live at this
        rw [Bool.and_eq_true] at this
        exact hm this.1))
      exact ⟨st2, W2, fl2, front _ (ru_t rfl q1), q2, q3⟩
end CWB
