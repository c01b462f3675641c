/-! The class: deliver does deliver. -/
section CDN
variable {gl : gl_T} {fx : fx_T} {ad : Nat × Nat → Nat} {W W' : cw_W} {st : st_S} {Z X : zz_S} {e a b s v L g u q t h p w ref c : Nat} {x : Int32} {lost l : List Nat}
theorem xP_deliver_ok (hl : zl_all l) (hA : zA l c Z) (hc : c ≤ 512) (hH : zH Z) (hw8 : zW Z) (hW : CW gl fx ad W st) (hR : RW Z W 50) (hL : lr_ ad W []) (ha : a < zn_ Z) (hb : b < zn_ Z) :
    ∃ st' W' i j, xP_deliver gl (some (ad (0, 0))) (nI a) (nI b) st = some ((z_deliver Z a b).2, st', i, j) ∧ CW gl fx ad W' st' ∧ RW (z_deliver Z a b).1 W' 50 ∧ lr_ ad W' [] ∧ i + (bk_ W + (zl_ Z).length) ≤ bk_ W' + (zl_ (z_deliver Z a b).1).length + 1 ∧ j + (4 * bk_ W + 5 * (zl_ Z).length) ≤ 4 * bk_ W' + 5 * (zl_ (z_deliver Z a b).1).length + 5 := by
  have hlz := zA_len hA hc
  have hx := zA_x hA hc
  obtain ⟨⟨b1, ⟨b2, hA0, hph⟩, b3, b4⟩, hB, hpk, hE, hzt⟩ := hA
  have hn := RW_n hR
  have h4 := b1.2.1
  have ha4 : a < 4 := by omega
  have hb4 : b < 4 := by omega
  have hfl := xP_flying_ok hW hR b1 ha hb
  have hrc := hR.2.2.2.2.2.2.1 a b ha hb
  have hdB := zB_deliver (a := a) (b := b) hB hA0 ha4 hb4
  cases ho : z_old a b (zl_ Z) with
  | none =>
    have ez : z_deliver Z a b = (Z, 0) := by unfold z_deliver; rw [ho]
    rw [ez]
    have hf0 : z_flying Z a b = 0 := by unfold z_flying; rw [zold_0 ho]; rfl
    rw [hf0] at hfl
    refine ⟨st, W, 0, 0, ?_, hW, hR, hL, by dsimp only; omega, by dsimp only; omega⟩
    unfold xP_deliver
    refine ru_g _ (r0_m hW) ?_
    refine ru_b (i2 := 0) (j2 := 0) hfl ?_ rfl rfl
    exact ru_t rfl rfl
  | some y =>
    obtain ⟨r, m⟩ := y
    obtain ⟨A, B, hLl, hm, hra, hrb, hno⟩ := zold_split ho
    obtain ⟨hperm, -, -⟩ := zold_perm ho
    obtain ⟨f1, f2⟩ := zold_f ho
    have hr : r ∈ zl_ Z := by rw [hLl]; exact List.mem_append_right _ List.mem_cons_self
    obtain ⟨c1, c2, c3⟩ := b2.2.2.2.2.1 r hr
    obtain ⟨w1, w2, w3, w4, w5, w6, w7⟩ := b2.2.2.1 r hr
    obtain ⟨k1, k2, k3, k4⟩ := b3.2.2.2 r hr
    obtain ⟨m1, m2, m3, m4, m5⟩ := hB.2.2.2.1.2.1 r hr
    have hpm := zphi_m (l := l) hperm
    have ham := za_m hperm
    have hlf : ∃ y ys, cwl_ W (4 + (4 * a + b)) = y :: ys := by
      cases hh : cwl_ W (4 + (4 * a + b)) with
      | nil =>
        unfold rwc_ at hrc
        rw [hh, f1] at hrc
        cases hrc
      | cons y ys => exact ⟨y, ys, rfl⟩
    obtain ⟨y, ys, hys⟩ := hlf
    have hv := cwv_h (W := W) (v := a) (b := b) (by omega) (by omega) (by omega)
    obtain ⟨st1, q1, q2, q3⟩ := cu_rem hW hv hR.2.2.2.2.2.2.2 hys
    obtain ⟨hmw, hR1⟩ := RW_take (mc := (cwk_ W (4 + (4 * a + b))).2.1 + 1) (ea := (cwk_ W (4 + (4 * a + b))).2.2) hR b1 ha hb ho hys
    have hbk1 := bk_k (W := W) (L := 4 + (4 * a + b)) (y := ((cwk_ W (4 + (4 * a + b))).1, (cwk_ W (4 + (4 * a + b))).2.1 + 1, (cwk_ W (4 + (4 * a + b))).2.2)) (xs := ys) hv (by omega)
    have hC1 : cwC_ (cj_k (cj_l W (4 + (4 * a + b)) ys) (4 + (4 * a + b)) ((cwk_ W (4 + (4 * a + b))).1, (cwk_ W (4 + (4 * a + b))).2.1 + 1, (cwk_ W (4 + (4 * a + b))).2.2)) = cwC_ W := rfl
    have hM1 : cwM_ (cj_k (cj_l W (4 + (4 * a + b)) ys) (4 + (4 * a + b)) ((cwk_ W (4 + (4 * a + b))).1, (cwk_ W (4 + (4 * a + b))).2.1 + 1, (cwk_ W (4 + (4 * a + b))).2.2)) = cwM_ W := rfl
    have hL1 : lr_ ad (cj_k (cj_l W (4 + (4 * a + b)) ys) (4 + (4 * a + b)) ((cwk_ W (4 + (4 * a + b))).1, (cwk_ W (4 + (4 * a + b))).2.1 + 1, (cwk_ W (4 + (4 * a + b))).2.2)) [] := hL
    generalize cj_k (cj_l W (4 + (4 * a + b)) ys) (4 + (4 * a + b)) ((cwk_ W (4 + (4 * a + b))).1, (cwk_ W (4 + (4 * a + b))).2.1 + 1, (cwk_ W (4 + (4 * a + b))).2.2) = W1 at q2 hR1 hbk1 hC1 hM1 hL1
    have hbk : bk_ W1 = bk_ W := by dsimp only at hbk1; omega
    have hzl0 : (zl_ (zj_l Z m)).length + 1 = (zl_ Z).length := by
      have := hperm.length_eq
      rw [List.length_cons] at this
      show m.length + 1 = _
      omega
    -- the message's cell
    obtain ⟨mm, hmm⟩ : ∃ mm, cwM_ W y = some mm := by
      cases z : cwM_ W y with
      | none => unfold mwv_ at hmw; rw [z] at hmw; cases hmw
      | some mm => exact ⟨mm, rfl⟩
    have hme : mm.1 = r.1 ∧ mm.2.1 = r.2.2.2.1 ∧ mm.2.2.1 = r.2.2.2.2.2.1 ∧ mm.2.2.2.1 = (if r.1 = 1 then 0 else r.2.2.2.2.1) ∧ mm.2.2.2.2.map (cwC_ W) = (if r.1 = 1 then some (some (r.2.2.2.1, r.2.2.2.2.1, r.2.2.2.2.2.1, r.2.2.2.2.2.2)) else none) := by
      unfold mwv_ mzv_ at hmw
      rw [hmm] at hmw
      have hmw := Option.some.inj hmw
      exact ⟨congrArg (fun z => z.1) hmw, congrArg (fun z => z.2.1) hmw, congrArg (fun z => z.2.2.1) hmw, congrArg (fun z => z.2.2.2.1) hmw, congrArg (fun z => z.2.2.2.2) hmw⟩
    obtain ⟨e1, e2, e3, e4, e5⟩ := hme
    have hmm1 : cwM_ W1 y = some mm := by rw [hM1]; exact hmm
    have hz0 : zw_n (zj_l Z m) := b1
    have hH0 : zH (zj_l Z m) := hH
    obtain ⟨st2, W2, i2, j2, u1, u2, u3, u4, u5⟩ := xP_unpack_ok (a := a) (b := b) (e := r.2.2.2.2.2.1) q2 hR1 hz0 hH0 ha hb k3 (by omega)
    have hmm2 : cwM_ W2 y = some mm := u4.2.2.2.2.1 y mm hmm1
    have hL2 : lr_ ad W2 [] := by
      unfold lr_
      rw [u4.2.2.1]
      exact hL1
    have hans : (z_deliver Z a b).2 = nI r.1 := by unfold z_deliver; rw [ho]
    have hpY := zphi_unpack (Z := zj_l Z m) (a := a) (e := r.2.2.2.2.2.1) hl.1 hb4
    have haY : za_ (z_unpack (zj_l Z m) a b r.2.2.2.2.2.1) = za_ (zj_l Z m) := zun_a
    have front : ∀ (r0 : Int32) (s0 : st_S) (i0 j0 : Nat), (st_b (xP_takeMessage gl (some (ad (0, 0))) (some y) (nI a) (nI b)) fun _ => st_g (so_cm (some (ad (0, 0))) [0]) fun _ => st_b (xP_settleLost gl (some (ad (0, 0))) (nI b)) fun _ => st_g (so_gi (some y) [9] 0) fun t48 => st_r t48) st2 = some (r0, s0, i0, j0) → xP_deliver gl (some (ad (0, 0))) (nI a) (nI b) st = some (r0, s0, i2 + i0, j2 + j0) := by
      intro r0 s0 i0 j0 hy
      unfold xP_deliver
      refine ru_g _ (r0_m hW) ?_
      refine ru_b (i2 := i2 + i0) (j2 := j2 + j0) hfl ?_ (by omega) (by omega)
      have hfpos : 0 < z_flying Z a b := by
        unfold z_flying
        rw [f1, List.length_cons]
        omega
      have hfle : z_flying Z a b ≤ 2100 := Nat.le_trans (List.length_filter_le _ _) (by omega)
      refine ru_f (nI_ne0 hfpos (by omega)) ?_
      refine ru_g _ (r0_0 hW) ?_
      refine ru_g _ (r1_l hW (by omega) (by omega)) ?_
      refine ru_g _ (r7_2 hW (by omega) (by omega)) ?_
      refine ru_g _ (r9_l hW (by omega) (by omega) (by omega)) ?_
      refine ru_g _ (r11 hW (by omega) (by omega) (by omega)) ?_
      refine ru_g _ (cu_lm hW hv) ?_
      refine ru_b (i2 := i2 + i0) (j2 := j2 + j0) q1 ?_ (by omega) (by omega)
      have hat1 := rd_M q2 hmm1
      refine ru_g _ (og_k hat1 (by simp)) ?_
      refine ru_g _ ((og_q (q := rf_ ad mm.2.2.1) hat1 (by simp) rfl).trans (by rw [e3])) ?_
      refine ru_g _ (r0_m q2) ?_
      refine ru_b (i2 := i0) (j2 := j0) u1 ?_ rfl rfl
      refine ru_g _ (r0_m u2) ?_
      exact hy
    -- the end: the lost answers, and the message's kind
    have fin : ∀ (S : zz_S × List Nat) (st3 : st_S) (W3 : cw_W) (i3 j3 : Nat), (z_deliver Z a b).1 = z_done b S → xP_takeMessage gl (some (ad (0, 0))) (some y) (nI a) (nI b) st2 = some ((), st3, i3, j3) → CW gl fx ad W3 st3 → RW S.1 W3 50 → lr_ ad W3 S.2 → mf_ W2 W3 → cst_ W2 (z_unpack (zj_l Z m) a b r.2.2.2.2.2.1) i3 j3 W3 S.1 → zB S.1 → zH S.1 → za_ok S.1 S.2 → (∀ q ∈ S.2, zk_K S.1 q) → zW S.1 → zphi_n l S.1 + 2 * S.2.length ≤ 2090 → b < zn_ S.1 →
        ∃ st' W' i j, xP_deliver gl (some (ad (0, 0))) (nI a) (nI b) st = some ((z_deliver Z a b).2, st', i, j) ∧ CW gl fx ad W' st' ∧ RW (z_deliver Z a b).1 W' 50 ∧ lr_ ad W' [] ∧ i + (bk_ W + (zl_ Z).length) ≤ bk_ W' + (zl_ (z_deliver Z a b).1).length + 1 ∧ j + (4 * bk_ W + 5 * (zl_ Z).length) ≤ 4 * bk_ W' + 5 * (zl_ (z_deliver Z a b).1).length + 5 := by
      intro S st3 W3 i3 j3 hz1 t1 t2 t3 t4 t5 t6 t7 t8 t9 t10 t11 t12 t13
      obtain ⟨st4, W4, i4, j4, d1, d2, d3, d4, d5, d6⟩ := xP_mourn_ok (l := l) hb4 t2 t3 t4 t7 t8 t13 t9 t10 t11 t12
      rw [hz1, hans]
      have hmm4 : cwM_ W4 y = some mm := d5.2.1 y mm (t5.1 y mm hmm2)
      obtain ⟨x1, x2⟩ := cst_t u5 (cst_t t6 d6)
      have ed : (z_done b S) = z_done b (S.1, S.2) := rfl
      refine ⟨st4, W4, i2 + (i3 + i4), j2 + (j3 + j4), front _ _ _ _ ?_, d2, d3, d4, ?_, ?_⟩
      · refine ru_b t1 ?_ rfl rfl
        refine ru_g _ (r0_m t2) ?_
        refine ru_b (i2 := 0) (j2 := 0) d1 ?_ rfl rfl
        exact ru_g _ ((og_i (rd_M d2 hmm4) (by simp) rfl).trans (by rw [e1])) rfl
      · rw [hbk] at x1
        rw [ed]
        omega
      · rw [hbk] at x2
        rw [ed]
        omega
    have hat2 := rd_M u2 hmm2
    have tm0 : ∀ y0, (if nI r.1 = (1 : Int32) then (st_g (so_gq (some y) [9] 4) fun t3 => if t3 = none then (st_r ()) else (st_g (so_gq (some y) [9] 4) fun t4 => st_g (so_cm (some (ad (0, 0))) [0]) fun _ => st_b (xP_arrive gl (some (ad (0, 0))) t4 (nI b)) fun _ => st_r ())) else (if nI r.1 = (2 : Int32) then (st_g (so_i (rf_ ad r.2.2.2.1) [4] [3]) fun t14 => if t14 = 0 then (xP_takeMessage_b85 gl ) else (st_g (so_k (rf_ ad r.2.2.2.1) [4]) fun _ => st_g (so_gq (some y) [9] 2) fun t16 => st_g (so_cm (some (ad (0, 0))) [0]) fun _ => st_b (xP_resolveIn gl (some (ad (0, 0))) (nI b) (rf_ ad r.2.2.2.1) t16) fun _ => xP_takeMessage_b85 gl )) else (if nI r.1 = (3 : Int32) then (st_g (so_gq (rf_ ad r.2.2.2.1) [3, 4] 7) fun t26 => st_g (so_li t26 0 (nI a)) fun t27 => st_g (so_gi (some y) [9] 3) fun t28 => st_w (so_si t26 0 (nI a) (t27 - t28)) (st_r ())) else (if nI r.1 = (4 : Int32) then (st_g (so_gi (some y) [9] 3) fun t30 => st_b (xP_takeGift gl (rf_ ad r.2.2.2.1) (nI a) t30) fun _ => st_r ()) else (st_g (so_gi (some y) [9] 3) fun t39 => st_b (xP_takeRedeem gl (rf_ ad r.2.2.2.1) t39 (nI a)) fun _ => st_r ()))))) st2 = some y0 → xP_takeMessage gl (some (ad (0, 0))) (some y) (nI a) (nI b) st2 = some y0 := by
      intro y0 hy0
      unfold xP_takeMessage
      refine ru_g _ ((og_q (q := rf_ ad mm.2.1) hat2 (by simp) rfl).trans (by rw [e2])) ?_
      refine ru_g _ ((og_i hat2 (by simp) rfl).trans (by rw [e1])) ?_
      exact hy0
    have ht0 : r.2.2.2.1 ≠ 0 := by omega
    have hmd : zk_made Z r.2.2.2.1 = true := k2.resolve_left ht0
    by_cases hk12 : r.1 = 1 ∨ r.1 = 2
    · obtain ⟨kind, a', b', t, x, ar, q⟩ := r
      dsimp only at hra hrb hk12 e1 e2 e3 e4 e5 c1 c2 c3 w1 w2 w3 w4 w5 w6 w7 k1 k2 k3 k4 m1 m2 m3 m4 m5 ham hpm hpY haY u1 u3 u5 fin tm0 ht0 hmd hans
      subst hra hrb hm
      obtain ⟨g1, g2, g3, g4, g5, g6⟩ := zB_arr hB hLl hk12 ha4 hb4
      rw [← haY] at ham
      have hst : (z_deliver Z a' b').1 = (if kind = 1 then z_done b' (z_go (z_unpack (zj_l Z (A ++ B)) a' b' ar) [] b' t x ar q) else z_done b' (z_settle (z_unpack (zj_l Z (A ++ B)) a' b' ar) [] b' t ar)) := by
        unfold z_deliver
        rw [ho]
        dsimp only
        by_cases z : kind = 1
        · rw [if_pos z, if_pos z]
        · rw [if_neg z, if_neg z, if_pos (by omega)]
      have hzlY : (zl_ (z_unpack (zj_l Z (A ++ B)) a' b' ar)).length ≤ 2085 := by
        have y1 := zphi_l (Z := z_unpack (zj_l Z (A ++ B)) a' b' ar)
        have y2 : ((zl_ (z_unpack (zj_l Z (A ++ B)) a' b' ar)).map zc_l).sum ≤ zphi_n l (z_unpack (zj_l Z (A ++ B)) a' b' ar) := by unfold zphi_n; omega
        omega
      generalize z_unpack (zj_l Z (A ++ B)) a' b' ar = Z1 at g1 g2 g3 g4 g5 g6 hst u3 u5 ham hpY fin hzlY haY
      have eK := zk_KZ g4
      have en : zn_ Z1 = zn_ Z := by unfold zn_; rw [g4]
      have hH1 : zH Z1 := zH_s hH g4 g5
      have hw81 : zW Z1 := zW_r hw8 g6
      have em : zk_made Z1 t = true := by
        have := hmd
        unfold zk_made zo_ zp_ at this ⊢
        rw [g4]
        exact this
      by_cases kk1 : kind = 1
      · subst kk1
        rw [if_pos rfl] at ham hst e5
        have hq0 : 0 < q := c1 rfl
        cases hca : mm.2.2.2.2 with
        | none => rw [hca] at e5; cases e5
        | some ca =>
          rw [hca] at e5
          have hcC : cwC_ W2 ca = some (t, x, ar, q) := by
            rw [u4.1, hC1]
            exact Option.some.inj e5
          have hA1 : za_ok Z1 (za_1 q) := za_okp hA0 ham
          have hz1q : za_1 q = [q] := by unfold za_1; rw [if_pos hq0]
          rw [hz1q] at hA1
          have hqn : q ∉ za_ Z1 := (List.nodup_cons.mp (show (q :: za_ Z1).Nodup from hA1.1)).1
          have hq100 := (hA1.2 q List.mem_cons_self).1
          have hrl := zr_len hA1 g1.2.1
          obtain ⟨st3, W3, i3, j3, v1, v2, v3, v4, v5, v6⟩ := xP_arrive_ok (h := b') u2 u3 hL2 g1 hH1 (by omega) hcC (by rw [eK]; exact k2) ht0 (by rw [g5]; exact m2) (by rw [eK]; exact k3) (by rw [eK]; exact k4) (Or.inr hq100) (fa_of u3 hcC hq0 hqn) (Or.inl rfl) (by decide) (by omega) (by omega)
          obtain ⟨z1, z2⟩ := zB_go (v := x) (lost := []) g1 hb4 (g3 rfl) (by rw [eK]; exact k2) g2 (by rw [eK]; exact k3) (by rw [eK]; exact k4) hq0 (fun _ hx => by cases hx)
          have hf : zf_ Z1 (z_go Z1 [] b' t x ar q).1 := zf_go
          have hzp := zgo_phi (l := l) (Z := Z1) (lost := []) (w := b') (u := t) (v := x) (e := ar) hq0
          simp only [List.length_nil] at hzp
          have hzc : zc_l (1, a', b', t, x, ar, q) = 3 := rfl
          refine fin (z_go Z1 [] b' t x ar q) st3 W3 i3 j3 hst (tm0 _ ?_) v2 v3 v4 v5.2.2.2 v6 z1 (zH_s hH1 hf.1 (fun e => (hf.2.2.2 e).1)) (za_okp hA0 (zgo_a.trans ham)) (fun y' hy' => by rw [zk_KZ hf.1]; exact z2 y' hy') (zW_go hw81 hb4) (by omega) (by show b' < zn_ (z_go Z1 [] b' t x ar q).1; unfold zn_; rw [hf.1]; unfold zn_ at en hb; omega)
          refine ru_t rfl ?_
          refine ru_g _ ((og_q (q := mm.2.2.2.2) hat2 (by simp) rfl).trans (by rw [hca])) ?_
          refine ru_f (fun z => by cases z) ?_
          refine ru_g _ ((og_q (q := mm.2.2.2.2) hat2 (by simp) rfl).trans (by rw [hca])) ?_
          refine ru_g _ (r0_m u2) ?_
          exact ru_b v1 rfl rfl rfl
      · have kk2 : kind = 2 := by omega
        subst kk2
        rw [if_neg (by decide)] at ham hst
        have hA1 : za_ok Z1 [] := za_okp hA0 ham
        have hp100 := c2 rfl
        obtain ⟨st3, W3, i3, j3, v1, v2, v3, v4, v5, v6⟩ := xP_resolve_ok (w := b') u2 u3 hL2 g1 hH1 hA1 (by omega) em hp100 (by rw [eK]; exact k3) g2 (fun _ hx => by cases hx) (hw81 t hp100) (by omega)
        obtain ⟨z1, z2⟩ := zB_settle (lost := []) (p := t) (ref := ar) g1 hb4 (Or.inr hp100) (by rw [eK]; exact k2) g2 (by rw [eK]; exact k3) (fun _ hx => by cases hx)
        have hf : zf_ Z1 (z_settle Z1 [] b' t ar).1 := zf_settle
        obtain ⟨y1, y2, y3⟩ := zsettle_w (l := l) (lost := []) g1.2.1 hb4 (p := t) (ref := ar) (Or.inr hp100) w5 w6
        simp only [List.length_nil] at y3
        have hd2 : cwd_ W2 t = true := by rw [u3.2.1 t]; exact em
        have hat := rp_at u2 hd2 hp100
        have hzc : zc_l (2, a', b', t, x, ar, q) = 1 := rfl
        refine fin (z_settle Z1 [] b' t ar) st3 W3 i3 j3 hst (tm0 _ ?_) v2 v3 v4 v5.2 v6 z1 (zH_s hH1 hf.1 (fun e => (hf.2.2.2 e).1)) (za_okp hA1 y2) (fun y' hy' => by rw [zk_KZ hf.1]; exact z2 y' hy') (zW_settle hw81 hb4) (by split at y3 <;> omega) (by show b' < zn_ (z_settle Z1 [] b' t ar).1; unfold zn_; rw [hf.1]; unfold zn_ at en hb; omega)
        refine ru_f (by decide) (ru_t rfl ?_)
        rw [rf_s ht0]
        refine ru_g _ (og_i1 hat (by simp)) ?_
        refine ru_f (by decide) ?_
        refine ru_g _ (og_k hat (by simp)) ?_
        refine ru_g _ ((og_q (q := rf_ ad mm.2.2.1) hat2 (by simp) rfl).trans (by rw [e3])) ?_
        refine ru_g _ (r0_m u2) ?_
        exact ru_b v1 rfl rfl rfl
    · have hk3 : 3 ≤ r.1 := by omega
      have hn1 : r.1 ≠ 1 := by omega
      have hn2 : r.1 ≠ 2 := by omega
      have harg : r.2.2.2.2.2.1 = 0 := m5 hk3
      have eu : z_unpack (zj_l Z m) a b r.2.2.2.2.2.1 = zj_l Z m := by unfold z_unpack; rw [if_pos (Or.inl harg)]
      rw [eu] at u3 u5 fin hpY
      rw [if_neg hn1] at e4
      have hdW2 : cwd_ W2 r.2.2.2.1 = true := by rw [u3.2.1]; exact hmd
      have hEW2 : cwe_ W2 r.2.2.2.1 = ze_ Z r.2.2.2.1 := by rw [u3.2.2.1]; rfl
      have hdel : zk_b l (500 + 3 * c + 3) (z_deliver Z a b).1 := zdeliver_w hl.1 ⟨b2, hA0, hph⟩ ha4 hb4
      have hoo := fun a b ha hb => (hx r.2.2.2.1 w5).2 a b ha hb
      have fin2 : ∀ (Y : zz_S) (st3 : st_S) (W3 : cw_W), (z_deliver Z a b).1 = Y → xP_takeMessage gl (some (ad (0, 0))) (some y) (nI a) (nI b) st2 = some ((), st3, 0, 0) → CW gl fx ad W3 st3 → RW Y W3 50 → pf_ W2 W3 → bk_ W3 = bk_ W2 → Y.1 = Z.1 → (∀ e, zh_ Y e = zh_ Z e) → zr_ Y = zr_ Z → zl_ Y = m →
          ∃ st' W' i j, xP_deliver gl (some (ad (0, 0))) (nI a) (nI b) st = some ((z_deliver Z a b).2, st', i, j) ∧ CW gl fx ad W' st' ∧ RW (z_deliver Z a b).1 W' 50 ∧ lr_ ad W' [] ∧ i + (bk_ W + (zl_ Z).length) ≤ bk_ W' + (zl_ (z_deliver Z a b).1).length + 1 ∧ j + (4 * bk_ W + 5 * (zl_ Z).length) ≤ 4 * bk_ W' + 5 * (zl_ (z_deliver Z a b).1).length + 5 := by
        intro Y st3 W3 hY t1 t2 t3 t4 t5 t6 t7 t8 t9
        rw [hY] at hdB hdel
        refine fin (Y, []) st3 W3 0 0 hY t1 t2 t3 ?_ t4.2.2.2.2 ⟨by rw [t5, t9]; show 0 + (bk_ W2 + m.length) ≤ _; omega, by rw [t5, t9]; show 0 + (4 * bk_ W2 + 5 * m.length) ≤ _; omega⟩ hdB (zH_s hH t6 t7) hdel.2.1 (fun _ hx => by cases hx) (zW_r hw8 t8) (by have := hdel.2.2; simp only [List.length_nil]; omega) (by show b < zn_ Y; unfold zn_; rw [t6]; exact hb)
        unfold lr_
        rw [t4.2.2.1]
        exact hL2
      by_cases kk3 : r.1 = 3
      · have hst : (z_deliver Z a b).1 = zj_e (zj_l Z m) r.2.2.2.1 (ej_x (ze_ Z r.2.2.2.1) a (-r.2.2.2.2.1.toInt)) := by
          unfold z_deliver
          rw [ho]
          dsimp only
          rw [if_neg hn1, if_neg hn2, if_pos kk3, eu]
          rfl
        obtain ⟨st3, v1, v2, v3⟩ := cu_x (d := -r.2.2.2.2.1.toInt) u2 hdW2 ha4 (y := Int32.ofInt (ex_ (cwe_ W2 r.2.2.2.1) a) - r.2.2.2.2.1) (i_sub _ _)
        rw [hEW2] at v2
        refine fin2 _ st3 _ hst (tm0 _ ?_) v2 (RW_e u3) ⟨rfl, rfl, rfl, fun _ _ => rfl, mf_s rfl rfl rfl⟩ rfl rfl (fun e => ?_) rfl rfl
        · refine ru_f (nI_k w2 (j := 1) (by decide) hn1) (ru_f (nI_k w2 (j := 2) (by decide) hn2) (ru_t (by rw [kk3]; rfl) ?_))
          rw [rf_s ht0]
          refine ru_g _ (re_x u2 hdW2) ?_
          refine ru_g _ (og_li (at_17 u2 hdW2) (show a < 4 by omega) (by decide)) ?_
          refine ru_g _ ((og_i hat2 (by simp) rfl).trans (by rw [e4])) ?_
          exact ru_w _ v1 rfl
        · unfold zh_
          by_cases z : e = r.2.2.2.1
          · subst z
            rw [ze_s]
            rfl
          · rw [ze_n z]
            rfl
      · have pairh : ∀ a' b' (n : Int), (z_pair (zj_l Z m) a' b' r.2.2.2.1 n).1 = Z.1 ∧ (∀ e, zh_ (z_pair (zj_l Z m) a' b' r.2.2.2.1 n) e = zh_ Z e) ∧ zr_ (z_pair (zj_l Z m) a' b' r.2.2.2.1 n) = zr_ Z ∧ zl_ (z_pair (zj_l Z m) a' b' r.2.2.2.1 n) = m := by
          intro a' b' n
          refine ⟨rfl, fun e => ?_, rfl, rfl⟩
          unfold z_pair zh_
          dsimp only
          by_cases z : e = r.2.2.2.1
          · subst z
            rw [ze_s]
            split <;> rfl
          · rw [ze_n z]
            rfl
        by_cases kk4 : r.1 = 4
        · obtain ⟨cc, hcc, hvv⟩ := c3 (Or.inl kk4)
          have hst : (z_deliver Z a b).1 = z_pair (zj_l Z m) a cc r.2.2.2.1 1 := by
            unfold z_deliver
            rw [ho]
            dsimp only
            rw [if_neg hn1, if_neg hn2, if_neg kk3, if_pos kk4, eu, hvv, nI_clamp (by omega)]
          obtain ⟨st3, W3, v1, v2, v3, v4, v5⟩ := xP_gift_ok u2 u3 (e := r.2.2.2.1) hmd ha4 hcc (hoo a cc ha4 hcc)
          obtain ⟨p1, p2, p3, p4⟩ := pairh a cc 1
          refine fin2 _ st3 W3 hst (tm0 _ ?_) v2 v3 v4 v5 p1 p2 p3 p4
          refine ru_f (nI_k w2 (j := 1) (by decide) hn1) (ru_f (nI_k w2 (j := 2) (by decide) hn2) (ru_f (nI_k w2 (j := 3) (by decide) kk3) (ru_t (by rw [kk4]; rfl) ?_)))
          rw [rf_s ht0]
          refine ru_g _ ((og_i hat2 (by simp) rfl).trans (by rw [e4, hvv])) ?_
          exact ru_b v1 rfl rfl rfl
        · have kk5 : r.1 = 5 := by omega
          obtain ⟨cc, hcc, hvv⟩ := c3 (Or.inr kk5)
          have hst : (z_deliver Z a b).1 = z_pair (zj_l Z m) cc a r.2.2.2.1 (-1) := by
            unfold z_deliver
            rw [ho]
            dsimp only
            rw [if_neg hn1, if_neg hn2, if_neg kk3, if_neg kk4, eu, hvv, nI_clamp (by omega)]
          obtain ⟨st3, W3, v1, v2, v3, v4, v5⟩ := xP_redeem_ok u2 u3 (e := r.2.2.2.1) hmd hcc ha4 (hoo cc a hcc ha4)
          obtain ⟨p1, p2, p3, p4⟩ := pairh cc a (-1)
          refine fin2 _ st3 W3 hst (tm0 _ ?_) v2 v3 v4 v5 p1 p2 p3 p4
          refine ru_f (nI_k w2 (j := 1) (by decide) hn1) (ru_f (nI_k w2 (j := 2) (by decide) hn2) (ru_f (nI_k w2 (j := 3) (by decide) kk3) (ru_f (nI_k w2 (j := 4) (by decide) kk4) ?_)))
          rw [rf_s ht0]
          refine ru_g _ ((og_i hat2 (by simp) rfl).trans (by rw [e4, hvv])) ?_
          exact ru_b v1 rfl rfl rfl
end CDN
