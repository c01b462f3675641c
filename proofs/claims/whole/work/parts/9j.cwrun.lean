/-! The class: a turn's loop. -/
/-- between two instructions -/
def tv_ (gl : gl_T) (fx : fx_T) (l : List Nat) (n v o q y : Nat) (ad : Nat × Nat → Nat) (W : cw_W) (st : st_S) (Z : zz_S) (x : Int32) (r k : Nat) : Prop :=
  CW gl fx ad W st ∧ RW Z W 50 ∧ lr_ ad W [] ∧ zB Z ∧ zH Z ∧ zW Z ∧ zi_ l n Z ∧ zpk Z ∧ cwT_ W = (o, x, r, nI k) ∧ (1 ≤ o ∧ o ≤ zo_ Z) ∧ zh_ Z o = v ∧ eg_ (ze_ Z o) = false ∧ v < zn_ Z ∧ zk_K Z r ∧ okr Z v r ∧ ∃ c, cwC_ W y = some c ∧ c.2.2.2 = q ∧ zk_K Z c.1 ∧ zk_K Z c.2.2.1 ∧ zk_K Z q
section CRU
variable {gl : gl_T} {fx : fx_T} {ad : Nat × Nat → Nat} {W W' : cw_W} {st st' : st_S} {Z X : zz_S} {e a b s v L g u q t h p w ref c n f o r y k pos : Nat} {x op : Int32} {lost l : List Nat} {prog : List (Int32 × Int32)}
theorem ag_t {ad1 ad2 : Nat × Nat → Nat} (h1 : ag_ ad ad1 W) (h2 : ag_ ad1 ad2 W') (hd : ∀ f, cwd_ W f = true → cwd_ W' f = true) : ag_ ad ad2 W := ⟨fun k hk => (h2.1 k hk).trans (h1.1 k hk), fun f hf => (h2.2 f (hd f hf)).trans (h1.2 f hf)⟩
theorem zsend_n : zn_ (z_send Z v t x r).1 = zn_ Z := by
  by_cases h0 : t = 0 ∨ 100 ≤ zp_ Z
  · rw [zsend_0 h0]
  · rw [zsend_e (by omega) (by omega)]
    split
    · have hf := zf_t (zf_go (Z := z_prom Z (zh_ Z t)) (lost := []) (w := v) (u := t) (v := x) (e := r) (q := 101 + zp_ Z)) (zf_done (w := v))
      unfold zn_
      rw [hf.1]
      rfl
    · have hf2 : zf_ (z_prom Z (zh_ Z t)) (z_post (z_pack (z_prom Z (zh_ Z t)) v (zh_ Z t) r) 1 v (zh_ Z t) t x r (101 + zp_ Z)) := zf_t zf_pack zf_l
      show (z_post (z_pack (z_prom Z (zh_ Z t)) v (zh_ Z t) r) 1 v (zh_ Z t) t x r (101 + zp_ Z)).1.1 = _
      rw [hf2.1]
      rfl
theorem zact_n {z : Int32} : zn_ (z_act v o (Z, x, r) op z).1.1 = zn_ Z := by
  unfold z_act
  by_cases k0 : op = 0
  · rw [if_pos k0]
  rw [if_neg k0]
  by_cases k1 : op = 1
  · rw [if_pos k1]
  rw [if_neg k1]
  by_cases k2 : op = 2
  · rw [if_pos k2]; rfl
  rw [if_neg k2]
  by_cases k3 : op = 3
  · rw [if_pos k3]; rfl
  rw [if_neg k3]
  by_cases k4 : op = 4
  · rw [if_pos k4]
  rw [if_neg k4]
  by_cases k5 : op = 5
  · rw [if_pos k5]
  rw [if_neg k5]
  by_cases k6 : op = 6
  · rw [if_pos k6]
    show zn_ (z_fresh Z v z.toNatClampNeg x r).1 = _
    unfold z_fresh
    split <;> rfl
  rw [if_neg k6]
  by_cases k7 : op = 7
  · rw [if_pos k7]
    exact zsend_n
  rw [if_neg k7]
  by_cases k8 : op = 8
  · rw [if_pos k8]
  rw [if_neg k8]
  by_cases k9 : op = 9
  · rw [if_pos k9]; rfl
  rw [if_neg k9]
theorem zact_k8 {z : Int32} (hop : zo_i (op, z)) : (z_act v o (Z, x, r) op z).2 ≤ 8 := by
  by_cases k8 : op = 8
  · obtain ⟨g, hg, hz⟩ := hop.2.2.2 (Or.inr k8)
    have hz : z = nI g := hz
    subst k8 hz
    show (if x = 0 then (nI g).toNatClampNeg else 0) ≤ 8
    rw [nI_clamp (by omega)]
    split <;> omega
  · have : (z_act v o (Z, x, r) op z).2 = 0 := by
      unfold z_act
      by_cases k0 : op = 0
      · rw [if_pos k0]
      rw [if_neg k0]
      by_cases k1 : op = 1
      · rw [if_pos k1]
      rw [if_neg k1]
      by_cases k2 : op = 2
      · rw [if_pos k2]
      rw [if_neg k2]
      by_cases k3 : op = 3
      · rw [if_pos k3]
      rw [if_neg k3]
      by_cases k4 : op = 4
      · rw [if_pos k4]
      rw [if_neg k4]
      by_cases k5 : op = 5
      · rw [if_pos k5]
      rw [if_neg k5]
      by_cases k6 : op = 6
      · rw [if_pos k6]
      rw [if_neg k6]
      by_cases k7 : op = 7
      · rw [if_pos k7]
      rw [if_neg k7, if_neg k8]
      by_cases k9 : op = 9
      · rw [if_pos k9]
      rw [if_neg k9]
    omega
theorem xP_turn_end (hq : q = 0 ∨ 100 < q) (hn2 : n ≤ 2080) (h : tv_ gl fx l n v o q y ad W st Z x r k) (hg : g < 8) (hpr : (zg_ Z g).length ≤ pos) (hpos : pos ≤ 100) {rec85 : Option Nat × Int32 × Option Nat × Option Nat × Option Nat × Int32 → st_M Int32} :
    ∃ st' W' i j, xP_turn_b85 gl rec85 (some (ad (0, 0))) (nI v) (some y) (some (ad (16, o))) (some (ad (13, g))) (nI pos) st = some (nI o, st', i, j) ∧ CW gl fx ad W' st' ∧ RW (z_done v (z_settle Z [] v q r)) W' 50 ∧ lr_ ad W' [] ∧ cst_ W Z i j W' (z_done v (z_settle Z [] v q r)) := by
  obtain ⟨hW, hR, hL, hB, hH, hw8, hi, hpk, hT, ho, hov, hog, hvn, hr, hro, c, hc, hcq, hk1, hk2, hk3⟩ := h
  have z1 := hB.1
  have hn4 := z1.2.1
  have h60 := z1.2.2.2.1
  have o0 : o ≠ 0 := by omega
  have hom : zk_made Z o = true := (zk_K4 (Z := Z) (Or.inr (Or.inl ho))).resolve_left o0
  have hod : cwd_ W o = true := by rw [hR.2.1 o]; exact hom
  obtain ⟨p1, p2⟩ := hR.2.2.2.2.1 g hg
  have hph := hi.2.1.2.2
  have hzl : (zl_ Z).length ≤ 2080 := by
    have h2 := zphi_l (Z := Z)
    unfold zphi_n at hph
    omega
  have front : ∀ z, (st_g (so_gq (some y) [8] 3) fun t52 =>
  if t52 = none then
  (xP_turn_b184 gl (some (ad (16, o))))
  else
  (st_g (so_gq (some y) [8] 3) fun t53 =>
  st_g (so_gq (some (ad (0, 0))) [0] 5) fun t54 =>
  st_g (so_gq t54 [1] 2) fun t55 =>
  st_g (so_cm (some (ad (0, 0))) [0]) fun _ =>
  st_b (xP_resolveIn gl (some (ad (0, 0))) (nI v) t53 t55) fun _ =>
  st_g (so_cm (some (ad (0, 0))) [0]) fun _ =>
  st_b (xP_settleLost gl (some (ad (0, 0))) (nI v)) fun _ =>
  xP_turn_b184 gl (some (ad (16, o))))) st = some z → xP_turn_b85 gl rec85 (some (ad (0, 0))) (nI v) (some y) (some (ad (16, o))) (some (ad (13, g))) (nI pos) st = some z := by
    intro z hz
    unfold xP_turn_b85
    refine ru_g _ (og_i (at_13 hW hg) (by simp) rfl) ?_
    exact ru_t (nI_le (by rw [p1]; exact hpr) (by omega)) hz
  by_cases q0 : q = 0
  · have ez : z_settle Z [] v q r = (Z, []) := by unfold z_settle; rw [if_pos q0]
    rw [ez, zdone_nil]
    refine ⟨st, W, 0, 0, front _ ?_, hW, hR, hL, cst_i⟩
    refine ru_g none ((rC_3 hW hc).trans (by rw [hcq, q0]; rfl)) ?_
    refine ru_t rfl ?_
    unfold xP_turn_b184
    exact ru_g _ (og_i (ro_at hW hod (by omega)) (by simp) rfl) rfl
  · have hq1 : 100 < q := by omega
    have hqm : zk_made Z q = true := hk3.resolve_left q0
    have hrf : rf_ ad q = some (ad (16, q)) := rf_s q0
    have at4 := at_4 hW
    rw [hT] at at4
    obtain ⟨st3, W3, i3, j3, v1, v2, v3, v4, v5, v6⟩ := xP_resolve_ok (w := v) hW hR hL hB hH hi.2.1.2.1 hvn hqm hq1 hr hro (fun _ hx => by cases hx) (hw8 q hq1) (by omega)
    obtain ⟨y1, y2⟩ := zB_settle (lost := []) (p := q) (ref := r) hB (show v < 4 by omega) (Or.inr hq1) hk3 hro hr (fun _ hx => by cases hx)
    have hf : zf_ Z (z_settle Z [] v q r).1 := zf_settle
    obtain ⟨w1, w2, w3⟩ := zsettle_w (l := l) (lost := []) hB.2.1 (show v < 4 by omega) (p := q) (ref := r) (Or.inr hq1) (zk_K2 z1 hk3) (zk_K2 z1 hr)
    simp only [List.length_nil] at w3
    obtain ⟨st4, W4, i4, j4, d1, d2, d3, d4, d5, d6⟩ := xP_mourn_ok (l := l) (show v < 4 by omega) v2 v3 v4 y1 (zH_s hH hf.1 (fun e => (hf.2.2.2 e).1)) (by unfold zn_; rw [hf.1]; exact hvn) (za_okp hi.2.1.2.1 w2) (fun y' hy' => by rw [zk_KZ hf.1]; exact y2 y' hy') (zW_settle hw8 (by omega)) (by split at w3 <;> omega)
    have hf2 := zf_t hf (zf_done (w := v) (s := z_settle Z [] v q r))
    have hod4 : cwd_ W4 o = true := by
      rw [d5.2.2.1, v5.2.2.1]
      exact hod
    refine ⟨st4, W4, i3 + i4, j3 + j4, front _ ?_, d2, d3, d4, cst_t v6 d6⟩
    refine ru_g (some (ad (16, q))) ((rC_3 hW hc).trans (by rw [hcq, hrf])) ?_
    refine ru_f (fun z => by cases z) ?_
    refine ru_g (some (ad (16, q))) ((rC_3 hW hc).trans (by rw [hcq, hrf])) ?_
    refine ru_g _ (r0_5 hW) ?_
    refine ru_g (rf_ ad r) (og_q at4 (by simp) rfl) ?_
    refine ru_g _ (r0_m hW) ?_
    refine ru_b v1 ?_ rfl rfl
    refine ru_g _ (r0_m v2) ?_
    refine ru_b (i2 := 0) (j2 := 0) d1 ?_ rfl rfl
    unfold xP_turn_b184
    exact ru_g _ (og_i (ro_at d2 hod4 (by omega)) (by simp) rfl) rfl
theorem xP_turn_it (hl : l.Nodup) (hq : q = 0 ∨ 100 < q) (hn2 : n ≤ 2080) (hg : g < 8) (hops : ∀ i ∈ prog, zo_i i) (hp8 : prog.length ≤ 8) :
    ∀ (d pos fuel k : Nat) (ad : Nat × Nat → Nat) (W : cw_W) (st : st_S) (Z : zz_S) (x : Int32) (r : Nat), prog.length - pos = d → pos ≤ prog.length → d < fuel → k ≤ 8 → zg_ Z g = prog → (zt_ Z v).length + d < 1000000 → tv_ gl fx l n v o q y ad W st Z x r k →
    ∃ ad' st' W' i j, st_it (fun rec85 => (fun x : Option Nat × Int32 × Option Nat × Option Nat × Option Nat × Int32 => xP_turn_b85 gl rec85 x.1 x.2.1 x.2.2.1 x.2.2.2.1 x.2.2.2.2.1 x.2.2.2.2.2)) fuel (some (ad (0, 0)), nI v, some y, some (ad (16, o)), some (ad (13, g)), nI pos) st = some (nI o, st', i, j) ∧ CW gl fx ad' W' st' ∧ RW (z_done v (z_settle (z_run v o (prog.drop pos) k (Z, x, r)).1 [] v q (z_run v o (prog.drop pos) k (Z, x, r)).2.2)) W' 50 ∧ lr_ ad' W' [] ∧ ag_ ad ad' W ∧
    i + (bk_ W + (zl_ Z).length) ≤ bk_ W' + (zl_ (z_done v (z_settle (z_run v o (prog.drop pos) k (Z, x, r)).1 [] v q (z_run v o (prog.drop pos) k (Z, x, r)).2.2))).length + 6 * d ∧ j + (4 * bk_ W + 5 * (zl_ Z).length) ≤ 4 * bk_ W' + 5 * (zl_ (z_done v (z_settle (z_run v o (prog.drop pos) k (Z, x, r)).1 [] v q (z_run v o (prog.drop pos) k (Z, x, r)).2.2))).length + 41 * d := by
  intro d
  induction d with
  | zero =>
    intro pos fuel k ad W st Z x r hd hpp hf hk hgp hlen h
    obtain ⟨m, rfl⟩ : ∃ m, fuel = m + 1 := ⟨fuel - 1, by omega⟩
    rw [List.drop_eq_nil_of_le (by omega), show z_run v o [] k (Z, x, r) = (Z, x, r) from by cases k <;> rfl]
    obtain ⟨st', W', i, j, e1, e2, e3, e4, e5⟩ := xP_turn_end hq hn2 h hg (pos := pos) (by rw [hgp]; omega) (by omega) (rec85 := st_it (fun rec85 => (fun x : Option Nat × Int32 × Option Nat × Option Nat × Option Nat × Int32 => xP_turn_b85 gl rec85 x.1 x.2.1 x.2.2.1 x.2.2.2.1 x.2.2.2.2.1 x.2.2.2.2.2)) m)
    exact ⟨ad, st', W', i, j, e1, e2, e3, e4, ag_i, by have := e5.1; dsimp only; omega, by have := e5.2; dsimp only; omega⟩
  | succ d ih =>
    intro pos fuel k ad W st Z x r hd hpp hf hk hgp hlen h
    obtain ⟨m, rfl⟩ : ∃ m, fuel = m + 1 := ⟨fuel - 1, by omega⟩
    have hlt : pos < prog.length := by omega
    have hget : prog[pos]? = some prog[pos] := List.getElem?_eq_getElem hlt
    have hdr : prog.drop pos = prog[pos] :: prog.drop (pos + 1) := List.drop_eq_getElem_cons hlt
    have h0 := h
    obtain ⟨hW, hR, hL, hB, hH, hw8, hi, hpk, hT, ho, hov, hog, hvn, hr, hro, c, hc, hcq, hk1, hk2, hk3⟩ := h
    have z1 := hB.1
    have hn4 := z1.2.1
    obtain ⟨p1, p2⟩ := hR.2.2.2.2.1 g hg
    rw [hgp] at p1 p2
    obtain ⟨pa, pb⟩ := p2 pos prog[pos] hget
    have at4 := at_4 hW
    rw [hT] at at4
    rw [hdr]
    have front : ∀ z, (st_g (so_gq (some (ad (0, 0))) [0] 5) fun t74 =>
  st_g (so_gi t74 [1] 3) fun t75 =>
  if t75 ≤ 0 then
  (st_g (so_gq (some (ad (0, 0))) [0] 5) fun t76 =>
  st_g (so_gq (some (ad (13, g))) [2] 0) fun t77 =>
  st_g (so_li t77 0 (nI pos)) fun t78 =>
  st_g (so_gq (some (ad (13, g))) [2] 1) fun t79 =>
  st_g (so_li t79 0 (nI pos)) fun t80 =>
  st_g (so_cm (some (ad (0, 0))) [0]) fun _ =>
  st_b (xP_perform gl (some (ad (0, 0))) t76 t78 t80) fun _ =>
  st_g (so_cm (some (ad (0, 0))) [0]) fun _ =>
  st_b (xP_settleLost gl (some (ad (0, 0))) (nI v)) fun _ =>
  xP_turn_b150 gl (st_it (fun rec85 => (fun x : Option Nat × Int32 × Option Nat × Option Nat × Option Nat × Int32 => xP_turn_b85 gl rec85 x.1 x.2.1 x.2.2.1 x.2.2.2.1 x.2.2.2.2.1 x.2.2.2.2.2)) m) (some (ad (0, 0))) (nI v) (some y) (some (ad (16, o))) (some (ad (13, g))) (nI pos))
  else
  (st_g (so_gq (some (ad (0, 0))) [0] 5) fun t99 =>
  st_g (so_gi t99 [1] 3) fun t100 =>
  st_w (so_p t99 [1] 3 (.int (t100 - (1 : Int32)))) (
  xP_turn_b150 gl (st_it (fun rec85 => (fun x : Option Nat × Int32 × Option Nat × Option Nat × Option Nat × Int32 => xP_turn_b85 gl rec85 x.1 x.2.1 x.2.2.1 x.2.2.2.1 x.2.2.2.2.1 x.2.2.2.2.2)) m) (some (ad (0, 0))) (nI v) (some y) (some (ad (16, o))) (some (ad (13, g))) (nI pos)))) st = some z → st_it (fun rec85 => (fun x : Option Nat × Int32 × Option Nat × Option Nat × Option Nat × Int32 => xP_turn_b85 gl rec85 x.1 x.2.1 x.2.2.1 x.2.2.2.1 x.2.2.2.2.1 x.2.2.2.2.2)) (m + 1) (some (ad (0, 0)), nI v, some y, some (ad (16, o)), some (ad (13, g)), nI pos) st = some z := by
      intro z hz
      show xP_turn_b85 gl _ (some (ad (0, 0))) (nI v) (some y) (some (ad (16, o))) (some (ad (13, g))) (nI pos) st = _
      unfold xP_turn_b85
      refine ru_g _ (og_i (at_13 hW hg) (by simp) rfl) ?_
      exact ru_f (nI_ge (by rw [p1]; exact hlt) (by omega)) hz
    by_cases hk0 : k = 0
    · subst hk0
      have hop := hops _ (List.getElem_mem hlt)
      have hiA := zi_act (x := x) hl hi (show v < 4 by omega) ho hr (op := prog[pos].1) (y := prog[pos].2) hop
      have hBA := zB_act (x := x) hB hi.2.1.2.1 hpk (show v < 4 by omega) ho hov hog hro hr (op := prog[pos].1) (y := prog[pos].2) hop
      obtain ⟨ad1, st1, W1, i1, j1, S, m1, m2, m3, m4, m5, m6, m7, m8, m9, m10, m11, m12⟩ := xP_perform_ok (op := prog[pos].1) (y := prog[pos].2) hl hW hR hL hB hH hw8 hi hpk hn2 hT ho hov hog hvn hr hro hop (by omega)
      obtain ⟨q1, q2, q3, q4, q5, q6⟩ := m7
      have hsk := zact_k8 (Z := Z) (v := v) (o := o) (x := x) (r := r) hop
      have hzn := zact_n (Z := Z) (v := v) (o := o) (x := x) (r := r) (op := prog[pos].1) (z := prog[pos].2)
      have hrun : z_run v o (prog[pos] :: prog.drop (pos + 1)) 0 (Z, x, r) = z_run v o (prog.drop (pos + 1)) (z_act v o (Z, x, r) prog[pos].1 prog[pos].2).2 (z_act v o (Z, x, r) prog[pos].1 prog[pos].2).1 := rfl
      rw [hrun]
      generalize z_act v o (Z, x, r) prog[pos].1 prog[pos].2 = A at hiA hBA m5 m6 m8 hsk hzn
      obtain ⟨⟨Z', x', r'⟩, k'⟩ := A
      dsimp only at hiA hBA m5 m6 m8 hsk hzn ⊢
      have hn1 : zn_ S.1 = zn_ Z := by
        unfold zn_ at hzn ⊢
        rw [m6]
        exact hzn
      have h00 : ad1 (0, 0) = ad (0, 0) := m9.1 (0, 0) (by decide)
      have h13 : ad1 (13, g) = ad (13, g) := m9.1 (13, g) (by show 13 < 16; decide)
      have o0 : o ≠ 0 := by omega
      have hoK : zk_K Z o := zk_K4 (Or.inr (Or.inl ho))
      have h16 : ad1 (16, o) = ad (16, o) := m9.2 o (by rw [hR.2.1 o]; exact hoK.resolve_left o0)
      obtain ⟨st2, W2, i2, j2, d1, d2, d3, d4, d5, d6⟩ := xP_mourn_ok (l := l) (w := v) (by omega) m2 m3 m4 q1 q2 (by omega) q3 q4 q5 q6
      have d3 : RW (z_done v S) W2 50 := d3
      have d6 : cst_ W1 S.1 i2 j2 W2 (z_done v S) := d6
      have hfd : zf_ S.1 (z_done v S) := zf_done
      have hHd : zH (z_done v S) := zH_s q2 hfd.1 (fun e => (hfd.2.2.2 e).1)
      have hWd : zW (z_done v S) := zW_done (by omega) q5
      have hKd : zk_K (z_done v S) = zk_K S.1 := zk_KZ hfd.1
      rw [← m5] at d3 d6 hHd hWd hKd
      rw [h00] at d1
      have hov' := (hBA.2.2.2.2 o hoK).trans hov
      have hog' := okr_live (hBA.2.2.2.1 v o hoK (Or.inr (Or.inl ⟨hov, hog⟩))) o0 hov'
      obtain ⟨t, t1, t2⟩ := m10 y c hc hk1 hk2 (by rw [hcq]; exact hk3)
      obtain ⟨t3, t4, t5⟩ := d5.2.2.2 y _ t1
      have ht3 : zk_K Z' t3 := by
        rcases t5 with t5 | t5
        · rw [t5, hKd]
          exact t2
        · rw [d3.2.1] at t5
          exact Or.inr t5
      have hdm : ∀ f, cwd_ W f = true → cwd_ W2 f = true := fun f hf => by
        rw [hR.2.1] at hf
        rw [d3.2.1]
        exact (hiA.2.2.1 f (Or.inr hf)).resolve_left (made_n0 hf)
      obtain ⟨ad2, st3, W3, i3, j3, f1, f2, f3, f4, f5, f6, f7⟩ := ih (pos + 1) m k' ad1 W2 st2 Z' x' r' (by omega) (by omega) (by omega) hsk (by rw [hiA.2.2.2.1]; exact hgp) (by have : (zt_ Z' v).length ≤ _ := hiA.2.2.2.2.1 v; omega)
        ⟨d2, d3, d4, hBA.1, hHd, hWd, hiA.1, hBA.2.1, d5.1.trans m8, ⟨ho.1, Nat.le_trans ho.2 hiA.2.2.2.2.2⟩, hov', hog', by omega, hiA.2.1, hBA.2.2.1, (t3, c.2), t4, hcq, ht3, hiA.2.2.1 _ hk2, hiA.2.2.1 _ hk3⟩
      rw [h00, h13, h16] at f1
      obtain ⟨x1, x2⟩ := d6
      refine ⟨ad2, st3, W3, i1 + (i2 + i3), j1 + (j2 + j3), front _ ?_, f2, f3, f4, ag_t m9 f5 hdm, by omega, by omega⟩
      refine ru_g _ (r0_5 hW) ?_
      refine ru_g (nI 0) (og_i at4 (by simp) rfl) ?_
      refine ru_t (by decide) ?_
      refine ru_g _ (r0_5 hW) ?_
      refine ru_g _ (og_q (q := some (ad (14, g))) (at_13 hW hg) (by simp) rfl) ?_
      refine ru_g prog[pos].1 ((og_li (at_14 hW hg) (show pos < 8 by omega) (by decide)).trans (by rw [pa])) ?_
      refine ru_g _ (og_q (q := some (ad (15, g))) (at_13 hW hg) (by simp) rfl) ?_
      refine ru_g prog[pos].2 ((og_li (at_15 hW hg) (show pos < 8 by omega) (by decide)).trans (by rw [pb])) ?_
      refine ru_g _ (r0_m hW) ?_
      refine ru_b m1 ?_ rfl rfl
      refine ru_g _ (by rw [← h00]; exact r0_m m2) ?_
      refine ru_b d1 ?_ rfl rfl
      unfold xP_turn_b150
      rw [nI_1]
      exact f1
    · obtain ⟨k', rfl⟩ : ∃ k', k = k' + 1 := ⟨k - 1, by omega⟩
      have hrun : z_run v o (prog[pos] :: prog.drop (pos + 1)) (k' + 1) (Z, x, r) = z_run v o (prog.drop (pos + 1)) k' (Z, x, r) := rfl
      rw [hrun]
      obtain ⟨st1, a1, a2⟩ := cu_T3 (x := nI k') hW
      rw [hT] at a2
      obtain ⟨ad2, st3, W3, i3, j3, f1, f2, f3, f4, f5, f6, f7⟩ := ih (pos + 1) m k' ad _ st1 Z x r (by omega) (by omega) (by omega) (by omega) hgp (by omega)
        ⟨a2, RW_T hR, hL, hB, hH, hw8, hi, hpk, rfl, ho, hov, hog, hvn, hr, hro, c, hc, hcq, hk1, hk2, hk3⟩
      have hb1 : bk_ (cj_T W (o, x, r, nI k')) = bk_ W := rfl
      dsimp only at f6 f7
      rw [hb1] at f6 f7
      refine ⟨ad2, st3, W3, i3, j3, front _ ?_, f2, f3, f4, f5, by omega, by omega⟩
      refine ru_g _ (r0_5 hW) ?_
      refine ru_g (nI (k' + 1)) (og_i at4 (by simp) rfl) ?_
      refine ru_f (nI_nle (by omega) (by omega)) ?_
      refine ru_g _ (r0_5 hW) ?_
      refine ru_g (nI (k' + 1)) (og_i at4 (by simp) rfl) ?_
      rw [nI_pred]
      refine ru_w _ a1 ?_
      unfold xP_turn_b150
      rw [nI_1]
      exact f1
end CRU
