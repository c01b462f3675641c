/-! The class's sweep: what is not found is freed, imports are let go. -/
section CFE
variable {gl : gl_T} {fx : fx_T} {ad : Nat × Nat → Nat} {W W' W0 : cw_W} {st st' : st_S} {Z X : zz_S} {e a b v L g u q t h p w ref c n f o y k pos : Nat} {s kind what arg : Nat} {x op : Int32} {lost l fl fl1 fl2 fl' : List Nat} {D : Nat → Bool}
theorem cnt_s {p : Nat → Bool} : ((List.range (n + 1)).filter p).length = ((List.range n).filter p).length + (if p n = true then 1 else 0) := by
  rw [List.range_succ, List.filter_append, List.length_append]
  congr 1
  rw [List.filter_cons]
  split <;> rfl
theorem xP_free_it (hz : zw_n Z) (hH : zH Z) (hv4 : v < 4) : ∀ (d i fuel : Nat) (st : st_S) (W : cw_W), 201 - i = d → 1 ≤ i → i ≤ 201 → d < fuel → CW gl fx ad W st → RW (z_free Z v D i) W 50 → (∀ e, zk_made Z e = true → cwc_ W e = bi_ (D e)) →
    ∃ st' W', st_it (fun rec4 => (fun x : Option Nat × Int32 × Int32 × Int32 => xP_freeUnreached_b4 gl rec4 x.1 x.2.1 x.2.2.1 x.2.2.2)) fuel (some (ad (0, 0)), nI v, nI ((List.range i).filter (zk_fr Z v D)).length, nI i) st = some (nI ((List.range 201).filter (zk_fr Z v D)).length, st', 0, 0) ∧ CW gl fx ad W' st' ∧ RW (z_free Z v D 201) W' 50 ∧ cwc_ W' = cwc_ W ∧ cwL_ W' = cwL_ W ∧ bk_ W' = bk_ W := by
  intro d
  induction d with
  | zero =>
    intro i fuel st W hd0 h1 hi hf hW hR hc
    obtain ⟨m, rfl⟩ : ∃ m, fuel = m + 1 := ⟨fuel - 1, by omega⟩
    have : i = 201 := by omega
    subst this
    refine ⟨st, W, ?_, hW, hR, rfl, rfl, rfl⟩
    show xP_freeUnreached_b4 gl _ (some (ad (0, 0))) (nI v) _ (nI 201) st = _
    unfold xP_freeUnreached_b4
    refine ru_g _ (r0_2 hW) (ru_g _ (r3_n hW) ?_)
    exact ru_t (nI_le (by omega) (by omega)) rfl
  | succ d ih =>
    intro i fuel st W hd0 h1 hi hf hW hR hc
    obtain ⟨m, rfl⟩ : ∃ m, fuel = m + 1 := ⟨fuel - 1, by omega⟩
    obtain ⟨N, hN⟩ : ∃ N, N = ((List.range i).filter (zk_fr Z v D)).length := ⟨_, rfl⟩
    have hff := zfree_f (Z := Z) (v := v) (D := D) i
    have hfn := zfree_n (Z := Z) (v := v) (D := D) i i (Nat.le_refl _)
    have hmd : zk_made (z_free Z v D i) i = zk_made Z i := by
      unfold zk_made zo_ zp_
      rw [hff.1]
    have hs := zfree_s (Z := Z) (v := v) (D := D) i
    have hcnt := cnt_s (n := i) (p := zk_fr Z v D)
    rw [← hN] at hcnt ⊢
    have front : ∀ z, (if (if cwd_ W i = true then some (ad (16, i)) else none) = none then
  (xP_freeUnreached_b60 gl (st_it (fun rec4 => (fun x : Option Nat × Int32 × Int32 × Int32 => xP_freeUnreached_b4 gl rec4 x.1 x.2.1 x.2.2.1 x.2.2.2)) m) (some (ad (0, 0))) (nI v) (nI N) (nI i))
  else
  (st_g (so_gi (if cwd_ W i = true then some (ad (16, i)) else none) [3, 4] 4) fun t5 =>
  if t5 = (nI v) then
  (st_g (so_gi (if cwd_ W i = true then some (ad (16, i)) else none) [3, 4] 6) fun t6 =>
  if t6 = 0 then
  (st_g (so_gi (if cwd_ W i = true then some (ad (16, i)) else none) [3, 4] 5) fun t7 =>
  if t7 = 0 then
  (st_w (so_p (if cwd_ W i = true then some (ad (16, i)) else none) [3, 4] 5 (.int (1 : Int32))) (
  xP_freeUnreached_b60 gl (st_it (fun rec4 => (fun x : Option Nat × Int32 × Int32 × Int32 => xP_freeUnreached_b4 gl rec4 x.1 x.2.1 x.2.2.1 x.2.2.2)) m) (some (ad (0, 0))) (nI v) (nI N + (1 : Int32)) (nI i)))
  else
  (xP_freeUnreached_b60 gl (st_it (fun rec4 => (fun x : Option Nat × Int32 × Int32 × Int32 => xP_freeUnreached_b4 gl rec4 x.1 x.2.1 x.2.2.1 x.2.2.2)) m) (some (ad (0, 0))) (nI v) (nI N) (nI i)))
  else
  (xP_freeUnreached_b60 gl (st_it (fun rec4 => (fun x : Option Nat × Int32 × Int32 × Int32 => xP_freeUnreached_b4 gl rec4 x.1 x.2.1 x.2.2.1 x.2.2.2)) m) (some (ad (0, 0))) (nI v) (nI N) (nI i)))
  else
  (xP_freeUnreached_b60 gl (st_it (fun rec4 => (fun x : Option Nat × Int32 × Int32 × Int32 => xP_freeUnreached_b4 gl rec4 x.1 x.2.1 x.2.2.1 x.2.2.2)) m) (some (ad (0, 0))) (nI v) (nI N) (nI i)))) st = some z → st_it (fun rec4 => (fun x : Option Nat × Int32 × Int32 × Int32 => xP_freeUnreached_b4 gl rec4 x.1 x.2.1 x.2.2.1 x.2.2.2)) (m + 1) (some (ad (0, 0)), nI v, nI N, nI i) st = some z := by
      intro z hz0
      show xP_freeUnreached_b4 gl _ (some (ad (0, 0))) (nI v) (nI N) (nI i) st = _
      unfold xP_freeUnreached_b4
      refine ru_g _ (r0_2 hW) (ru_g _ (r3_n hW) ?_)
      refine ru_f (nI_ge (by omega) (by decide)) ?_
      refine ru_g _ (r0_2 hW) (ru_g _ (r3_l hW (by omega)) ?_)
      exact hz0
    have skip : zk_fr Z v D i = false → ∃ st' W', xP_freeUnreached_b60 gl (st_it (fun rec4 => (fun x : Option Nat × Int32 × Int32 × Int32 => xP_freeUnreached_b4 gl rec4 x.1 x.2.1 x.2.2.1 x.2.2.2)) m) (some (ad (0, 0))) (nI v) (nI N) (nI i) st = some (nI ((List.range 201).filter (zk_fr Z v D)).length, st', 0, 0) ∧ CW gl fx ad W' st' ∧ RW (z_free Z v D 201) W' 50 ∧ cwc_ W' = cwc_ W ∧ cwL_ W' = cwL_ W ∧ bk_ W' = bk_ W := by
      intro hfr
      rw [if_neg (by rw [hfr]; decide)] at hs hcnt
      obtain ⟨st2, W2, b1, b2⟩ := ih (i + 1) m st W (by omega) (by omega) (by omega) (by omega) hW (by rw [hs]; exact hR) hc
      refine ⟨st2, W2, ?_, b2⟩
      unfold xP_freeUnreached_b60
      rw [nI_1]
      rw [hcnt] at b1
      exact b1
    by_cases hm : zk_made Z i = true
    · have hd : cwd_ W i = true := by rw [hR.2.1, hmd]; exact hm
      have hE : cwe_ W i = ze_ Z i := by rw [hR.2.2.1]; exact hfn
      have hh := re_h hW hd
      rw [hE] at hh
      have hgo := re_g hW hd
      rw [hE] at hgo
      have hmk := re_c hW hd
      rw [hc i hm] at hmk
      rw [if_pos hd] at front
      have hhn := hH i hm
      have hn4 := hz.2.1
      by_cases hhv : zh_ Z i = v
      · have front2 := fun z hz0 => front z (ru_f (fun z => by cases z) (ru_g _ hh (ru_t (by show nI (zh_ Z i) = nI v; rw [hhv]) (ru_g _ hmk hz0))))
        cases hD : D i with
        | true =>
          obtain ⟨st2, W2, b1, b2⟩ := skip (by unfold zk_fr; rw [hD]; simp)
          refine ⟨st2, W2, front2 _ ?_, b2⟩
          rw [hD]
          exact ru_f (by decide) b1
        | false =>
          cases hg : eg_ (ze_ Z i) with
          | true =>
            obtain ⟨st2, W2, b1, b2⟩ := skip (by unfold zk_fr zk_live; rw [hg]; simp)
            refine ⟨st2, W2, front2 _ ?_, b2⟩
            rw [hD]
            refine ru_t rfl (ru_g _ hgo ?_)
            rw [hg]
            exact ru_f (by decide) b1
          | false =>
            have hfr : zk_fr Z v D i = true := by
              unfold zk_fr zk_live
              rw [hg, hm, hD, hhv]
              simp
            rw [if_pos hfr] at hs hcnt
            obtain ⟨st1, g1, g2, g3⟩ := cu_g hW hd
            have hR1 : RW (z_free Z v D (i + 1)) (cj_e W i (ej_g (cwe_ W i))) 50 := by
              rw [hs, hfn, ← hE]
              exact RW_e hR
            obtain ⟨st2, W2, b1, b2, b3, b4, b5, b6⟩ := ih (i + 1) m st1 _ (by omega) (by omega) (by omega) (by omega) g2 hR1 hc
            refine ⟨st2, W2, front2 _ ?_, b2, b3, b4, b5, b6⟩
            rw [hD]
            refine ru_t rfl (ru_g _ hgo ?_)
            rw [hg]
            refine ru_t rfl ?_
            refine ru_w _ g1 ?_
            unfold xP_freeUnreached_b60
            rw [nI_1, nI_1]
            rw [hcnt] at b1
            exact b1
      · obtain ⟨st2, W2, b1, b2⟩ := skip (by unfold zk_fr; simp [hhv])
        refine ⟨st2, W2, front _ (ru_f (fun z => by cases z) (ru_g _ hh (ru_f (fun z => hhv ((nI_eq (show zh_ Z i < _ by omega) (by omega)).mp z)) b1))), b2⟩
    · have hd : cwd_ W i ≠ true := by rw [hR.2.1, hmd]; exact hm
      rw [if_neg hd] at front
      obtain ⟨st2, W2, b1, b2⟩ := skip (by
        unfold zk_fr zk_live
        simp [hm])
      exact ⟨st2, W2, front _ (ru_t rfl b1), b2⟩
theorem zdrop_n : ∀ (k e : Nat), k ≤ e → ze_ (z_drop D v X k) e = ze_ X e
  | 0, e, _ => rfl
  | k + 1, e, hk => by
    rw [zdrop_s]
    split
    · show ze_ (zj_e (z_drop D v X k) k _) e = _
      rw [ze_n (by omega)]
      exact zdrop_n k e (by omega)
    · exact zdrop_n k e (by omega)
theorem zdrop_l : ∀ (k : Nat), (zl_ (z_drop D v X k)).length ≤ (zl_ X).length + k
  | 0 => Nat.le_refl _
  | k + 1 => by
    have ih := zdrop_l k
    rw [zdrop_s]
    split
    · show (zl_ (z_drop D v X k) ++ [_]).length ≤ _
      rw [List.length_append, List.length_singleton]
      omega
    · omega
theorem rel_n {β : Type} {t4 : Option Nat} {y2 : Option Nat} {y : Int32} {p1 : Int32} {kk : Nat → Int32 → st_M β} (h1 : so_gq t4 [3, 4] 8 (st_ad st (.inr (.inr (9, cd_9)))) = some y2) (h2 : so_li y2 0 p1 (st_ad st (.inr (.inr (9, cd_9)))) = some y) {r : β × st_S × Nat × Nat} (h : (st_n (.inr (.inr (9, cd_9))) 5 fun t9 => kk t9 y) st = some r) :
    (st_n (.inr (.inr (9, cd_9))) 5 fun t9 => st_g (so_gq t4 [3, 4] 8) fun t13 => st_g (so_li t13 0 p1) fun t14 => kk t9 t14) st = some r := by
  unfold st_n at h ⊢
  have : (st_g (so_gq t4 [3, 4] 8) fun t13 => st_g (so_li t13 0 p1) fun t14 => kk st.2 t14) (st_ad st (.inr (.inr (9, cd_9)))) = kk st.2 y (st_ad st (.inr (.inr (9, cd_9)))) := by
    unfold st_g
    rw [h1]
    show (so_li y2 0 p1 _).bind _ = _
    rw [h2]
    rfl
  dsimp only at h ⊢
  rw [this]
  exact h
theorem x_mail2 (h : CW gl fx ad W st) (hR : RW Z W s) (hz : zw_n Z) (ha : a < zn_ Z) (hb : b < zn_ Z) (hk : kind ≠ 1) (hlen : (zl_ Z).length ≤ 2400) {r1 r2 : Option Nat} (hr1 : r1 = rf_ ad what) (hr2 : r2 = rf_ ad arg) {kk : Int32} (hkk : kk = nI kind) {α : Type} (k : st_M α) :
    ∃ st' W' i j, CW gl fx ad W' st' ∧ RW (z_post Z kind a b what x arg q) W' s ∧ pf_ W W' ∧ cwc_ W' = cwc_ W ∧ cst_ W Z i j W' (z_post Z kind a b what x arg q) ∧ ∀ (r : α) (st2 : st_S) (i2 j2 : Nat), k st' = some (r, st2, i2, j2) →
      (st_n (.inr (.inr (9, cd_9))) 5 fun t7 => st_b (xM_init gl (some t7) kk r1 r2 x) fun _ => st_g (so_cm (some (ad (0, 0))) [0]) fun _ => st_b (xP_post gl (some (ad (0, 0))) (nI a) (nI b) (some t7)) fun _ => k) st = some (r, st2, i + i2, j + j2) := by
  subst hr1 hr2 hkk
  have hn := RW_n hR
  have hM := cu_newM h (m := (kind, what, arg, x, none))
  have hRM := RW_newM hR (new_M h) (m := (kind, what, arg, x, none))
  have hmm : cwM_ (cj_M W st.2 (some (kind, what, arg, x, none))) st.2 = some (kind, what, arg, x, none) := va_up_self _ _ _
  obtain ⟨st', W', i, j, a1, a2, a3, a4, a5, a6⟩ := xP_post_ok hM hRM.2.2.2.2.2.2.2 (RW_d hRM hz) (show a < cwn_ (cj_M W st.2 (some (kind, what, arg, x, none))) by have := hn.1; show a < cwn_ W; omega) (show b < cwn_ (cj_M W st.2 (some (kind, what, arg, x, none))) by have := hn.1; show b < cwn_ W; omega) (by show cwn_ W ≤ 4; rw [hn.1]; exact hz.2.1) (q := st.2) (by rw [hmm]; exact fun c => by cases c)
  have hn4 := hz.2.1
  have hRP := RW_post hRM (by omega) (by omega) a3 (r := (kind, a, b, what, x, arg, q)) ⟨rfl, rfl⟩ (by
    unfold mwv_ mzv_
    rw [hmm]
    show some (kind, what, arg, x, none) = some (kind, what, arg, if kind = 1 then 0 else x, if kind = 1 then _ else none)
    rw [if_neg hk, if_neg hk]) hlen ha hb hn4
  obtain ⟨e1, e2, e3, e4, e5, e6, e7, e8, e9, e10, e11⟩ := wad_e a3
  have hb0 : bk_ (cj_M W st.2 (some (kind, what, arg, x, none))) = bk_ W := rfl
  rw [hb0] at a4 a5
  have hzl : (zl_ (z_post Z kind a b what x arg q)).length = (zl_ Z).length + 1 := by
    show (zl_ Z ++ [_]).length = _
    rw [List.length_append]
    rfl
  refine ⟨st', W', 1 + i, 5 + j, a2, hRP, ⟨by rw [e6]; rfl, by rw [e9]; rfl, by rw [e10]; rfl, fun L hL => (wad_n a3 (by omega)).trans rfl, mf_new (new_M h) e7 e2 e6⟩, e5, ⟨by rw [hzl]; omega, by rw [hzl]; omega⟩, fun r st2 i2 j2 hkk => ?_⟩
  refine ru_n (i2 := i + i2) (j2 := j + j2) ?_ (by omega) (by omega)
  refine ru_b (i2 := i + i2) (j2 := j + j2) xM_ok ?_ (by omega) (by omega)
  refine ru_g _ (r0_m hM) ?_
  exact ru_b a1 hkk rfl rfl
theorem xP_rel_it (hz : zw_n X) (hd0 : ∀ e, zk_made X e ≠ true → ei_ (ze_ X e) v ≤ 0) (hH : zH X) (hv : v < zn_ X) (hlen : (zl_ X).length ≤ 2100) (hx : ∀ e, e ≤ 200 → ei_ (ze_ X e) v < 1000000 ∧ -1000000 < ei_ (ze_ X e) v) : ∀ (d i fuel : Nat) (st : st_S) (W : cw_W), 201 - i = d → 1 ≤ i → i ≤ 201 → d < fuel → CW gl fx ad W st → RW (z_drop D v X i) W 50 → (∀ e, zk_made X e = true → cwc_ W e = bi_ (D e)) →
    ∃ st' W' i2 j2, st_it (fun rec2 => (fun x : Option Nat × Int32 × Int32 => xP_releaseUnreached_b2 gl rec2 x.1 x.2.1 x.2.2)) fuel (some (ad (0, 0)), nI v, nI i) st = some ((), st', i2, j2) ∧ CW gl fx ad W' st' ∧ RW (z_drop D v X 201) W' 50 ∧ cwL_ W' = cwL_ W ∧ cst_ W (z_drop D v X i) i2 j2 W' (z_drop D v X 201) := by
  have hn4 := hz.2.1
  intro d
  induction d with
  | zero =>
    intro i fuel st W hdi h1 hi hf hW hR hc
    obtain ⟨m, rfl⟩ : ∃ m, fuel = m + 1 := ⟨fuel - 1, by omega⟩
    have : i = 201 := by omega
    subst this
    refine ⟨st, W, 0, 0, ?_, hW, hR, rfl, cst_i⟩
    show xP_releaseUnreached_b2 gl _ (some (ad (0, 0))) (nI v) (nI 201) st = _
    unfold xP_releaseUnreached_b2
    refine ru_g _ (r0_2 hW) (ru_g _ (r3_n hW) ?_)
    exact ru_t (nI_le (by omega) (by omega)) rfl
  | succ d ih =>
    intro i fuel st W hdi h1 hi hf hW hR hc
    obtain ⟨m, rfl⟩ : ∃ m, fuel = m + 1 := ⟨fuel - 1, by omega⟩
    have hff := zdrop_f (X := X) (v := v) (D := D) i
    have hfn := zdrop_n (X := X) (v := v) (D := D) i i (Nat.le_refl _)
    have hmd : ∀ e, zk_made (z_drop D v X i) e = zk_made X e := fun e => by
      unfold zk_made zo_ zp_
      rw [hff.1]
    have hs := zdrop_s (X := X) (v := v) (D := D) i
    have hll := zdrop_l (X := X) (v := v) (D := D) i
    have hb := hx i (by omega)
    have front : ∀ z, (if (if cwd_ W i = true then some (ad (16, i)) else none) = none then
  (xP_releaseUnreached_b70 gl (st_it (fun rec2 => (fun x : Option Nat × Int32 × Int32 => xP_releaseUnreached_b2 gl rec2 x.1 x.2.1 x.2.2)) m) (some (ad (0, 0))) (nI v) (nI i))
  else
  (st_g (so_gq (if cwd_ W i = true then some (ad (16, i)) else none) [3, 4] 8) fun t5 =>
  st_g (so_li t5 0 (nI v)) fun t6 =>
  if t6 ≤ 0 then
  (xP_releaseUnreached_b70 gl (st_it (fun rec2 => (fun x : Option Nat × Int32 × Int32 => xP_releaseUnreached_b2 gl rec2 x.1 x.2.1 x.2.2)) m) (some (ad (0, 0))) (nI v) (nI i))
  else
  (st_g (so_gi (if cwd_ W i = true then some (ad (16, i)) else none) [3, 4] 6) fun t7 =>
  if t7 = 0 then
  (st_g (so_gi (if cwd_ W i = true then some (ad (16, i)) else none) [3, 4] 4) fun t8 =>
  st_n (.inr (.inr (9, cd_9))) 5 fun t9 =>
  st_g (so_gq (if cwd_ W i = true then some (ad (16, i)) else none) [3, 4] 8) fun t13 =>
  st_g (so_li t13 0 (nI v)) fun t14 =>
  st_b (xM_init gl (some t9) (3 : Int32) (if cwd_ W i = true then some (ad (16, i)) else none) none t14) fun _ =>
  st_g (so_cm (some (ad (0, 0))) [0]) fun _ =>
  st_b (xP_post gl (some (ad (0, 0))) (nI v) t8 (some t9)) fun _ =>
  st_g (so_gq (if cwd_ W i = true then some (ad (16, i)) else none) [3, 4] 8) fun t31 =>
  st_w (so_si t31 0 (nI v) (0 : Int32)) (
  xP_releaseUnreached_b70 gl (st_it (fun rec2 => (fun x : Option Nat × Int32 × Int32 => xP_releaseUnreached_b2 gl rec2 x.1 x.2.1 x.2.2)) m) (some (ad (0, 0))) (nI v) (nI i)))
  else
  (xP_releaseUnreached_b70 gl (st_it (fun rec2 => (fun x : Option Nat × Int32 × Int32 => xP_releaseUnreached_b2 gl rec2 x.1 x.2.1 x.2.2)) m) (some (ad (0, 0))) (nI v) (nI i))))) st = some z → st_it (fun rec2 => (fun x : Option Nat × Int32 × Int32 => xP_releaseUnreached_b2 gl rec2 x.1 x.2.1 x.2.2)) (m + 1) (some (ad (0, 0)), nI v, nI i) st = some z := by
      intro z hz0
      show xP_releaseUnreached_b2 gl _ (some (ad (0, 0))) (nI v) (nI i) st = _
      unfold xP_releaseUnreached_b2
      refine ru_g _ (r0_2 hW) (ru_g _ (r3_n hW) ?_)
      refine ru_f (nI_ge (by omega) (by decide)) ?_
      refine ru_g _ (r0_2 hW) (ru_g _ (r3_l hW (by omega)) ?_)
      exact hz0
    have skip : z_drop D v X (i + 1) = z_drop D v X i → ∃ st' W' i2 j2, xP_releaseUnreached_b70 gl (st_it (fun rec2 => (fun x : Option Nat × Int32 × Int32 => xP_releaseUnreached_b2 gl rec2 x.1 x.2.1 x.2.2)) m) (some (ad (0, 0))) (nI v) (nI i) st = some ((), st', i2, j2) ∧ CW gl fx ad W' st' ∧ RW (z_drop D v X 201) W' 50 ∧ cwL_ W' = cwL_ W ∧ cst_ W (z_drop D v X i) i2 j2 W' (z_drop D v X 201) := by
      intro he
      obtain ⟨st2, W2, i2, j2, b1, b2, b3, b4, b5⟩ := ih (i + 1) m st W (by omega) (by omega) (by omega) (by omega) hW (by rw [he]; exact hR) hc
      refine ⟨st2, W2, i2, j2, ?_, b2, b3, b4, by rw [he] at b5; exact b5⟩
      unfold xP_releaseUnreached_b70
      rw [nI_1]
      exact b1
    by_cases hm : zk_made X i = true
    · have hd : cwd_ W i = true := by rw [hR.2.1, hmd]; exact hm
      have hE : cwe_ W i = ze_ X i := by rw [hR.2.2.1]; exact hfn
      have hh := re_h hW hd
      rw [hE] at hh
      have hmk := re_c hW hd
      rw [hc i hm] at hmk
      rw [if_pos hd] at front
      have hhn := hH i hm
      have hv4 : v < 4 := by omega
      have hli := og_li (at_18 hW hd) (show v < 4 by omega) (by decide)
      rw [hE] at hli
      have front2 := fun z hz0 => front z (ru_f (fun z => by cases z) (ru_g _ (re_i hW hd) (ru_g _ hli hz0)))
      by_cases hle : ei_ (ze_ X i) v ≤ 0
      · rw [hfn, if_neg (fun z => by have := z.1; omega)] at hs
        obtain ⟨st2, W2, i2, j2, b1, b2⟩ := skip hs
        exact ⟨st2, W2, i2, j2, front2 _ (ru_t ((oi_le0 hb.2 hb.1).mpr hle) b1), b2⟩
      · have hn : ¬ Int32.ofInt (ei_ (ze_ X i) v) ≤ 0 := fun z => hle ((oi_le0 hb.2 hb.1).mp z)
        have front3 := fun z hz0 => front2 z (ru_f hn (ru_g _ hmk hz0))
        cases hD : D i with
        | true =>
          rw [if_neg (fun z => by rw [hD] at z; cases z.2)] at hs
          obtain ⟨st2, W2, i2, j2, b1, b2⟩ := skip hs
          refine ⟨st2, W2, i2, j2, front3 _ ?_, b2⟩
          rw [hD]
          exact ru_f (by decide) b1
        | false =>
          have i0 : i ≠ 0 := by omega
          rw [hfn, if_pos ⟨by omega, hD⟩, (hff.2.2.2.2 i).1] at hs
          have hz1 : zw_n (z_drop D v X i) := by
            unfold zw_n zn_ zo_ zp_
            rw [hff.1, hff.2.1]
            exact hz
          have hn1 : zn_ (z_drop D v X i) = zn_ X := by unfold zn_; rw [hff.1]
          obtain ⟨st1, W1, i1, j1, m1, m2, m3, mc, m4, m5⟩ := x_mail2 (q := 0) (x := Int32.ofInt (ei_ (ze_ X i) v)) hW hR hz1 (by rw [hn1]; exact hv) (show zh_ X i < zn_ (z_drop D v X i) by rw [hn1]; exact hhn) (kind := 3) (by decide) (by omega) (what := i) (arg := 0) rfl rfl rfl (st_g (so_gq (some (ad (16, i))) [3, 4] 8) fun t31 =>
  st_w (so_si t31 0 (nI v) (0 : Int32)) (
  xP_releaseUnreached_b70 gl (st_it (fun rec2 => (fun x : Option Nat × Int32 × Int32 => xP_releaseUnreached_b2 gl rec2 x.1 x.2.1 x.2.2)) m) (some (ad (0, 0))) (nI v) (nI i)))
          have hd1 : cwd_ W1 i = true := by rw [m3.2.2.2.2.2.1]; exact hd
          have hE1 : cwe_ W1 i = ze_ X i := by
            rw [m2.2.2.1]
            exact hfn
          obtain ⟨st2, n1, n2, n3⟩ := cu_i (b := v) (d := 0) (y := 0) m1 hd1 hv4 rfl
          have hR2 : RW (z_drop D v X (i + 1)) (cj_e W1 i (ej_i (cwe_ W1 i) v 0)) 50 := by
            rw [hs, hE1]
            exact RW_e m2
          obtain ⟨st3, W3, i3, j3, b1, b2, b3, b4, b5⟩ := ih (i + 1) m st2 _ (by omega) (by omega) (by omega) (by omega) n2 hR2 (fun e he => by
            show cwc_ W1 e = _
            rw [mc]
            exact hc e he)
          have hM0 := cu_newM hW (m := (0, 0, 0, 0, none))
          have hEM : cwe_ (cj_M W st.2 (some (0, 0, 0, 0, none))) i = ze_ X i := hE
          have hli2 := og_li (at_18 hM0 hd) (show v < 4 by omega) (by decide)
          rw [hEM] at hli2
          have hlz : (zl_ (z_drop D v X (i + 1))).length = (zl_ (z_post (z_drop D v X i) 3 v (zh_ X i) i (Int32.ofInt (ei_ (ze_ X i) v)) 0 0)).length := by
            rw [hs]
            rfl
          have hbk : bk_ (cj_e W1 i (ej_i (cwe_ W1 i) v 0)) = bk_ W1 := rfl
          refine ⟨st3, W3, i1 + i3, j1 + j3, front3 _ ?_, b2, b3, b4.trans m3.2.2.1, ?_⟩
          · rw [hD]
            refine ru_t rfl ?_
            refine ru_g _ hh ?_
            refine rel_n (kk := fun t9 t14 => st_b (xM_init gl (some t9) (3 : Int32) (some (ad (16, i))) none t14) fun _ => st_g (so_cm (some (ad (0, 0))) [0]) fun _ => st_b (xP_post gl (some (ad (0, 0))) (nI v) (nI (zh_ X i)) (some t9)) fun _ => st_g (so_gq (some (ad (16, i))) [3, 4] 8) fun t31 => st_w (so_si t31 0 (nI v) (0 : Int32)) (xP_releaseUnreached_b70 gl (st_it (fun rec2 => (fun x : Option Nat × Int32 × Int32 => xP_releaseUnreached_b2 gl rec2 x.1 x.2.1 x.2.2)) m) (some (ad (0, 0))) (nI v) (nI i))) (re_i hM0 hd) hli2 ?_
            rw [← rf_s (ad := ad) i0]
            rw [← rf_s (ad := ad) i0] at m5
            refine m5 () st3 i3 j3 ?_
            rw [rf_s i0]
            refine ru_g _ (re_i m1 hd1) ?_
            refine ru_w _ n1 ?_
            unfold xP_releaseUnreached_b70
            rw [nI_1]
            exact b1
          · obtain ⟨k1, k2⟩ := m4
            obtain ⟨k3, k4⟩ := b5
            rw [hlz, hbk] at k3 k4
            exact ⟨by omega, by omega⟩
    · have hd : cwd_ W i ≠ true := by rw [hR.2.1, hmd]; exact hm
      have := hd0 i hm
      rw [hfn, if_neg (fun z => by have := z.1; omega)] at hs
      rw [if_neg hd] at front
      obtain ⟨st2, W2, i2, j2, b1, b2⟩ := skip hs
      exact ⟨st2, W2, i2, j2, front _ (ru_t rfl b1), b2⟩
end CFE
