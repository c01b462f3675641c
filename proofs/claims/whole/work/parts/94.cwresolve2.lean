/-! The class: resolveIn does settle. -/
section CRT
variable {gl : gl_T} {fx : fx_T} {ad : Nat × Nat → Nat} {W W' : cw_W} {st : st_S} {Z X : zz_S} {e a b s v L g u q t h p w ref : Nat} {x : Int32} {lost : List Nat}
/-- a promise is settled, the calls at it taken out -/
theorem zB_s1 (hB : zB Z) (hp : zk_made Z p = true) (hp1 : 100 < p) (hh : zh_ Z p = w) (hg : eg_ (ze_ Z p) = false) (hs : es_ (ze_ Z p) = false) (hu : okr Z w u) (huK : zk_K Z u) (hm : z_meet Z w p 101 u = false) : zB (zj_r (zj_e Z p (ej_s (ze_ Z p) u)) ((zr_ Z).filter (fun r => !(r.1 == p)))) := by
  obtain ⟨h1, h2, h3, g1, g2, g3, g4⟩ := hB
  have hp2 : zk_K Z p := Or.inr hp
  have hu1 : okr Z w u ∧ zk_K Z u ∧ z_meet Z w p 101 u = false := ⟨hu, huK, hm⟩
  have hgo : eg_ (ze_ Z p) = false ∧ es_ (ze_ Z p) = false := ⟨hg, hs⟩
  have hE : zf_ Z (zj_r (zj_e Z p (ej_s (ze_ Z p) u)) ((zr_ Z).filter (fun r => !(r.1 == p)))) := zf_t (zf_j (f := p) (E := ej_s (ze_ Z p) u) rfl rfl rfl rfl rfl rfl rfl) zf_r
  refine ⟨h1, ?_, ?_, gG_j (E := ej_s (ze_ Z p) u) g1 rfl rfl rfl rfl rfl, ?_, ?_, fun x hx => ?_⟩
  · obtain ⟨a1, a2, a3, a4, a5, a6⟩ := h2
    refine ⟨fun f hfz => ?_, fun r hr => a2 r (List.mem_filter.mp hr).1, a3, fun r hr => a4 r (List.mem_filter.mp hr).1, a5, ?_⟩
    · show eh_ (ze_ (zj_e Z p (ej_s (ze_ Z p) u)) f) < 4 ∧ et_ (ze_ (zj_e Z p (ej_s (ze_ Z p) u)) f) ≤ 200
      by_cases hfp : f = p
      · subst hfp
        rw [ze_s]
        exact ⟨(a1 f hfz).1, zk_K2 h1 hu1.2.1⟩
      · rw [ze_n hfp]
        exact a1 f hfz
    · show (((zr_ Z).filter _).filter _).length ≤ 80
      exact Nat.le_trans (List.Sublist.length_le (List.Sublist.filter _ List.filter_sublist)) a6
  · exact zd_r (zd_j (E := ej_s (ze_ Z p) u) h3 hp2 (by omega) ⟨hu1.2.1, (h3.1 p).2⟩) (fun r hr => h3.2.2.1 r (List.mem_filter.mp hr).1)
  · refine ⟨fun f hl => ?_, fun r hr => ?_⟩
    · rw [live_f hE] at hl
      obtain ⟨k1, k2⟩ := g2.1 f hl
      rw [(hE.2.2.2 f).1, (hE.2.2.2 f).2.2.2.2.1]
      refine ⟨fun c d => (okr_f hE).mpr ?_, fun c s hs => (okr_f hE).mpr (k2 c s hs)⟩
      have d : es_ (ze_ (zj_e Z p (ej_s (ze_ Z p) u)) f) = true := d
      show okr Z (zh_ Z f) (et_ (ze_ (zj_e Z p (ej_s (ze_ Z p) u)) f))
      by_cases hfp : f = p
      · subst hfp
        rw [ze_s, hh]
        exact hu1.1
      · rw [ze_n hfp] at d ⊢
        exact k1 c d
    · obtain ⟨k1, k2, k3⟩ := g2.2 r (List.mem_filter.mp hr).1
      have e1 : zr_w (zj_r (zj_e Z p (ej_s (ze_ Z p) u)) ((zr_ Z).filter (fun r => !(r.1 == p)))) r = zr_w Z r := by
        unfold zr_w
        rw [(hE.2.2.2 r.1).1]
      rw [e1, (hE.2.2.2 _).1, (hE.2.2.2 _).2.1]
      exact ⟨k1, k2, (okr_f hE).mpr k3⟩
  · exact zn_zs zs_r (zn_settle g3 h2.1 (zk_K2 h1 hu1.2.1) hh hgo.2 hu1.2.2)
  · rw [(hE.2.2.2 _).1, (hE.2.2.2 _).2.1]
    exact g4 x hx
theorem xP_resolve_it (hw4 : w < 4) (hp1 : 100 < p) (hu : zk_K X u) : ∀ (rs : List zr_R) (i fuel : Nat) (Z : zz_S) (lost : List Nat) (st : st_S) (W : cw_W), rs.length < fuel → X.1 = Z.1 → w < zn_ Z → zk_made Z p = true → CW gl fx ad W st → RW Z W p → lr_ ad W lost → zB Z → zH Z → za_ok Z (lost ++ rs.map (fun r => r.2.2.2.2)) → zk_pass Z w p = true → et_ (ze_ Z p) = u → (∀ r ∈ zr_ Z, r.1 ≠ p) → okr Z w u →
    (cwl_ W p).length = i + rs.length → i + rs.length ≤ 8 → ((cwl_ W p).drop i).map (cwC_ W) = rs.map (fun r => some r.2) → (∀ r ∈ rs, r.2.1 = p ∧ zk_K Z r.2.2.2.1 ∧ zk_K Z r.2.2.2.2 ∧ 0 < r.2.2.2.2 ∧ okr Z w r.2.2.2.1) → (∀ q ∈ lost, zk_K Z q) → (zl_ Z).length + 2 * rs.length ≤ 2300 →
    ∃ st' W' i2 j2, st_it (fun rec79 => (fun y : Option Nat × Int32 × Option Nat × Int32 => xP_resolveIn_b79 gl rec79 y.1 y.2.1 y.2.2.1 y.2.2.2)) fuel (some (ad (0, 0)), nI w, some (ad (16, p)), nI i) st = some ((), st', i2, j2) ∧ CW gl fx ad W' st' ∧ RW (rs.foldl (fun s r => z_go s.1 s.2 w u r.2.2.1 r.2.2.2.1 r.2.2.2.2) (Z, lost)).1 W' 50 ∧ lr_ ad W' (rs.foldl (fun s r => z_go s.1 s.2 w u r.2.2.1 r.2.2.2.1 r.2.2.2.2) (Z, lost)).2 ∧ tm_ W W' ∧ cst_ W Z i2 j2 W' (rs.foldl (fun s r => z_go s.1 s.2 w u r.2.2.1 r.2.2.2.1 r.2.2.2.2) (Z, lost)).1 := by
  intro rs
  induction rs with
  | nil =>
    intro i fuel Z lost st W hfu hX hwn hpm hW hR hL hB hH ha hpass het hnp hok hlen h8 hcs hrs hlk hzl
    obtain ⟨n, rfl⟩ : ∃ n, fuel = n + 1 := ⟨fuel - 1, by omega⟩
    have hd : cwd_ W p = true := by rw [hR.2.1 p]; exact hpm
    have hat := rp_at hW hd hp1
    have hv := cwv_p (W := W) hp1 hd
    have hwf := hR.2.2.2.2.2.2.2
    have hwl : so_gq (some (ad (16, p))) [4] 2 st = some (some (ad (lk_ p))) := by
      rw [lk_p hp1]
      exact og_q (q := some (ad (20, p))) hat (by simp) rfl
    rw [List.length_nil, Nat.add_zero] at hlen h8
    obtain ⟨st', ea', c1, c2, c3⟩ := cu_clear hW hv hwf (by omega)
    have hb := bk_k (W := W) (L := p) (y := ((cwk_ W p).1, (cwk_ W p).2.1 + 1, ea')) (xs := []) hv (by have := zk_K2 hB.1 (Or.inr hpm); omega)
    refine ⟨st', _, 0, 0, ?_, c2, RW_clear hR hB.1 hp1 hnp, hL, ⟨rfl, mf_s rfl rfl rfl⟩, cst_b (by dsimp only at hb; omega)⟩
    have hend : xP_resolveIn_b121 gl (some (ad (16, p))) st = some ((), st', 0, 0) := by
      unfold xP_resolveIn_b121
      refine ru_g _ hwl ?_
      refine ru_g _ (cu_lm hW hv) ?_
      exact ru_b c1 rfl rfl rfl
    show xP_resolveIn_b79 gl _ (some (ad (0, 0))) (nI w) (some (ad (16, p))) (nI i) st = _
    unfold xP_resolveIn_b79
    by_cases c : 8 ≤ i
    · exact ru_t (show nI 8 ≤ nI i from nI_le c (by omega)) hend
    · refine ru_f (show ¬ nI 8 ≤ nI i from nI_ge (by omega) (by decide)) ?_
      refine ru_g _ hwl ?_
      refine ru_g _ (cu_lm hW hv) ?_
      refine ru_b (i2 := 0) (j2 := 0) (cu_size hW hv hwf) ?_ rfl rfl
      exact ru_t (nI_le (by omega) (by omega)) hend
  | cons r rs ih =>
    intro i fuel Z lost st W hfu hX hwn hpm hW hR hL hB hH ha hpass het hnp hok hlen h8 hcs hrs hlk hzl
    obtain ⟨n, rfl⟩ : ∃ n, fuel = n + 1 := ⟨fuel - 1, by omega⟩
    rw [List.length_cons] at hlen h8 hfu hzl
    have hd : cwd_ W p = true := by rw [hR.2.1 p]; exact hpm
    have hat := rp_at hW hd hp1
    have hv := cwv_p (W := W) hp1 hd
    have hwf := hR.2.2.2.2.2.2.2
    have hwl : so_gq (some (ad (16, p))) [4] 2 st = some (some (ad (lk_ p))) := by
      rw [lk_p hp1]
      exact og_q (q := some (ad (20, p))) hat (by simp) rfl
    obtain ⟨r1, r2, r3, r4, r5⟩ := hrs r List.mem_cons_self
    have hlt : i < (cwl_ W p).length := by omega
    have hg : (cwl_ W p)[i]? = some (cwl_ W p)[i] := List.getElem?_eq_getElem hlt
    rw [dr_s hg, List.map_cons, List.map_cons] at hcs
    have hc0 := (List.cons.inj hcs).1
    have hcs1 := (List.cons.inj hcs).2
    have hne : (cwl_ W p)[i] ∉ (cwl_ W p).drop (i + 1) := fun hm => by
      have h1 : cwC_ W (cwl_ W p)[i] ∈ ((cwl_ W p).drop (i + 1)).map (cwC_ W) := List.mem_map.mpr ⟨_, hm, rfl⟩
      rw [hcs1, hc0] at h1
      obtain ⟨r', hr', h2⟩ := List.mem_map.mp h1
      have h3 : r'.2.2.2.2 = r.2.2.2.2 := congrArg (fun z => z.2.2.2) (Option.some.inj h2)
      have hn1 := ha.1
      rw [List.map_cons] at hn1
      have hn2 := (List.nodup_append.mp (List.nodup_append.mp hn1).1).2.1
      refine (List.nodup_cons.mp hn2).1 (List.mem_map.mpr ⟨r', hr', h3⟩)
    generalize (cwl_ W p)[i] = a at hg hc0 hne
    have hc : cwC_ W a = some (p, r.2.2.1, r.2.2.2.1, r.2.2.2.2) := by
      rw [hc0, ← r1]
    have hqn : r.2.2.2.2 ∉ za_ Z := fun z => by
      have hn1 := ha.1
      rw [List.map_cons] at hn1
      exact (List.nodup_append.mp hn1).2.2 r.2.2.2.2 (List.mem_append_right _ List.mem_cons_self) r.2.2.2.2 z rfl
    have hq100 := (ha.2 r.2.2.2.2 (List.mem_append_left _ (List.mem_append_right _ (by rw [List.map_cons]; exact List.mem_cons_self)))).1
    have hll : lost.length < 100 := by
      have := za_len ha
      rw [List.length_append, List.map_cons, List.length_cons] at this
      omega
    have hrl := zr_len ha hB.2.1
    have hKp : zk_K Z p := Or.inr hpm
    have hpz := hpass
    unfold zk_pass at hpz
    simp only [Bool.and_eq_true, decide_eq_true_eq] at hpz
    obtain ⟨st1, W1, i1, j1, a1, a2, a3, a4, a5, a6⟩ := xP_arrive_ok hW hR hL hB hH hwn hc hKp (by omega) hpz.1.2 r2 r3 (Or.inr hq100) (fa_of hR hc r4 hqn) (Or.inr ⟨hp1, hpass⟩) hll (by omega) (by omega)
    have hgp : z_go Z lost w p r.2.2.1 r.2.2.2.1 r.2.2.2.2 = z_go Z lost w u r.2.2.1 r.2.2.2.1 r.2.2.2.2 := by
      rw [zgo_p hB.2.2.2.2.2.1 hB.2.1.1 (zk_K2 hB.1 hKp) hpass, het]
    rw [hgp] at a3 a4 a6
    have huZ : zk_K Z u := by rw [← zk_KZ hX]; exact hu
    obtain ⟨g1, g2⟩ := zB_go (v := r.2.2.1) (lost := lost) hB hw4 hok huZ r5 r2 r3 r4 hlk
    have hf : zf_ Z (z_go Z lost w u r.2.2.1 r.2.2.2.1 r.2.2.2.2).1 := zf_go
    have hs : zs_ Z (z_go Z lost w u r.2.2.1 r.2.2.2.1 r.2.2.2.2).1 := zgo_s
    have hnp1 := zgo_np (lost := lost) (x := r.2.2.1) (e := r.2.2.2.1) (q := r.2.2.2.2) hB.2.2.2.2.2.1 hB.2.1.1 (zk_K2 hB.1 huZ) hw4 hp1 hpass hnp
    have ha1 := za_pend (w := w) (u := u) (x := r.2.2.1) (e := r.2.2.2.1) (qs := rs.map (fun r => r.2.2.2.2)) r4 ha
    have hzl1 : (zl_ (z_go Z lost w u r.2.2.1 r.2.2.2.1 r.2.2.2.2).1).length ≤ (zl_ Z).length + 2 := zgo_l
    have eK := zk_KZ hf.1
    have en : zn_ (z_go Z lost w u r.2.2.1 r.2.2.2.1 r.2.2.2.2).1 = zn_ Z := by unfold zn_; rw [hf.1]
    have em : zk_made (z_go Z lost w u r.2.2.1 r.2.2.2.1 r.2.2.2.2).1 p = true := by
      have := hpm
      unfold zk_made zo_ zp_ at this ⊢
      rw [hf.1]
      exact this
    rw [List.foldl_cons]
    generalize z_go Z lost w u r.2.2.1 r.2.2.2.1 r.2.2.2.2 = S at a3 a4 a6 g1 g2 hf hs hnp1 ha1 hzl1 eK en em
    have hcs2 : ((cwl_ W1 p).drop (i + 1)).map (cwC_ W1) = rs.map (fun r => some r.2) := by
      rw [a5.2.2.1, ← hcs1]
      exact List.map_congr_left (fun y hy => a5.2.1 y (fun z => hne (by rw [← z]; exact hy)))
    obtain ⟨st', W', i2, j2, k1, k2, k3, k4, k5, k6⟩ := ih (i + 1) n S.1 S.2 st1 W1 (by omega) (by rw [hf.1]; exact hX) (by omega) em a2 a3 a4 g1 (zH_s hH hf.1 (fun e => (hs e).1)) ha1 (by rw [zs_pass hs]; exact hpass) (by rw [(hs p).2.2.2]; exact het) hnp1 ((okr_f hf).mpr hok) (by rw [a5.2.2.1]; omega) (by omega) hcs2 (fun r' hr' => by
      obtain ⟨y1, y2, y3, y4, y5⟩ := hrs r' (List.mem_cons_of_mem _ hr')
      rw [eK]
      exact ⟨y1, y2, y3, y4, (okr_f hf).mpr y5⟩) (by rw [eK]; exact g2) (by omega)
    refine ⟨st', W', i1 + i2, j1 + j2, ?_, k2, k3, k4, tm_t ⟨a5.1, a5.2.2.2⟩ k5, cst_t a6 k6⟩
    show xP_resolveIn_b79 gl _ (some (ad (0, 0))) (nI w) (some (ad (16, p))) (nI i) st = _
    unfold xP_resolveIn_b79
    refine ru_f (show ¬ nI 8 ≤ nI i from nI_ge (by omega) (by decide)) ?_
    refine ru_g _ hwl ?_
    refine ru_g _ (cu_lm hW hv) ?_
    refine ru_b (i2 := i1 + i2) (j2 := j1 + j2) (cu_size hW hv hwf) ?_ (by omega) (by omega)
    refine ru_f (nI_ge hlt (by omega)) ?_
    refine ru_g _ hwl ?_
    refine ru_g _ (cu_lm hW hv) ?_
    refine ru_b (i2 := i1 + i2) (j2 := j1 + j2) ((cu_get hW hv hwf hlt).trans (by rw [hg])) ?_ (by omega) (by omega)
    refine ru_g _ (og_k (rd_C hW hc) (by simp)) ?_
    refine ru_g _ (r0_m hW) ?_
    refine ru_b a1 ?_ rfl rfl
    rw [nI_1]
    exact k1
theorem xP_resolve_ok (hW : CW gl fx ad W st) (hR : RW Z W 50) (hL : lr_ ad W lost) (hB : zB Z) (hH : zH Z) (ha : za_ok Z lost) (hw : w < zn_ Z) (hp : zk_made Z p = true) (hp1 : 100 < p) (href : zk_K Z ref) (hok : okr Z w ref) (hlk : ∀ q ∈ lost, zk_K Z q) (h8 : z_waits Z p ≤ 8) (hlen : (zl_ Z).length ≤ 2200) :
    ∃ st' W' i j, xP_resolveIn gl (some (ad (0, 0))) (nI w) (some (ad (16, p))) (rf_ ad ref) st = some ((), st', i, j) ∧ CW gl fx ad W' st' ∧ RW (z_settle Z lost w p ref).1 W' 50 ∧ lr_ ad W' (z_settle Z lost w p ref).2 ∧ tm_ W W' ∧ cst_ W Z i j W' (z_settle Z lost w p ref).1 := by
  obtain ⟨b1, b2, b3, b4, b5, b6, b7⟩ := hB
  have hB : zB Z := ⟨b1, b2, b3, b4, b5, b6, b7⟩
  have hn4 := b1.2.1
  have hp0 : p ≠ 0 := by omega
  have hd : cwd_ W p = true := by rw [hR.2.1 p]; exact hp
  have hE : cwe_ W p = ze_ Z p := by rw [hR.2.2.1]
  have hat := rp_at hW hd hp1
  have hpn := hH p hp
  have hhp : so_gi (some (ad (16, p))) [4] 4 st = some (nI (zh_ Z p)) := by
    rw [og_i hat (by simp) rfl, hE]
    rfl
  unfold xP_resolveIn
  by_cases hh : zh_ Z p ≠ w
  · have ez : z_settle Z lost w p ref = (z_post (z_pack Z w (zh_ Z p) ref) 2 w (zh_ Z p) p 0 ref 0, lost) := by unfold z_settle; rw [if_neg hp0, if_pos hh]
    rw [ez]
    obtain ⟨st1, W1, i1, j1, p1, p2, p3, p4, p5⟩ := xP_pack_ok hW hR b1 b2 hH hw hpn href (by omega)
    have hf : zf_ Z (z_pack Z w (zh_ Z p) ref) := zf_pack
    have hz1 : zw_n (z_pack Z w (zh_ Z p) ref) := zw_f b1 hf.1 hf.2.1
    have hn1 : zn_ (z_pack Z w (zh_ Z p) ref) = zn_ Z := by unfold zn_; rw [hf.1]
    have hl1 := zl_pack (Z := Z) (a := w) (b := zh_ Z p) (e := ref)
    have hE1 : ∀ e, zh_ (z_pack Z w (zh_ Z p) ref) e = zh_ Z e := fun e => zh_pack
    have hm1 : ∀ e, zk_made (z_pack Z w (zh_ Z p) ref) e = zk_made Z e := fun e => by unfold zk_made zo_ zp_; rw [hf.1]
    generalize z_pack Z w (zh_ Z p) ref = Z1 at p3 p5 hz1 hn1 hl1 hE1 hm1
    obtain ⟨st', W', i, j, m1, m2, m3, m4, m5⟩ := x_mail (q := 0) (x := 0) p2 p3 hz1 (a := w) (b := zh_ Z p) (by omega) (by omega) (kind := 2) (by decide) (by omega) (what := p) (arg := ref) rfl rfl rfl (st_r ())
    have hd1 : cwd_ W1 p = true := by rw [p3.2.1 p, hm1]; exact hp
    have hhp1 : so_gi (some (ad (16, p))) [4] 4 st1 = some (nI (zh_ Z p)) := by
      rw [og_i (rp_at p2 hd1 hp1) (by simp) rfl, p3.2.2.1]
      rw [show eh_ (ze_ Z1 p) = zh_ Z p from hE1 p]
    refine ⟨st', W', i1 + i, j1 + j, ?_, m1, m2, ?_, tm_t ⟨p4.2.1, p4.2.2.2.2⟩ ⟨m3.2.1, m3.2.2.2.2⟩, cst_t p5 m4⟩
    · refine ru_g _ hhp ?_
      refine ru_f (fun z => hh ((nI_eq (by omega) (by omega)).mp z)) ?_
      refine ru_g _ hhp ?_
      refine ru_g _ (r0_m hW) ?_
      refine ru_b (i2 := i) (j2 := j) p1 ?_ rfl rfl
      refine ru_g _ hhp1 ?_
      have := m5 () st' 0 0 rfl
      rw [rf_s hp0] at this
      exact this
    · unfold lr_
      rw [m3.2.2.1, p4.2.2.1]
      exact hL
  · have hh : zh_ Z p = w := Classical.byContradiction hh
    by_cases hg : eg_ (ze_ Z p) = true
    · have ez : z_settle Z lost w p ref = (Z, lost) := by unfold z_settle; rw [if_neg hp0, if_neg (fun c => c hh), if_pos (Or.inl hg)]
      rw [ez]
      refine ⟨st, W, 0, 0, ?_, hW, hR, hL, ⟨rfl, mf_s rfl rfl rfl⟩, cst_i⟩
      refine ru_g _ hhp ?_
      refine ru_t (by rw [hh]) ?_
      refine ru_g _ (og_i hat (by simp) rfl) ?_
      rw [hE, hg]
      exact ru_f (by decide) rfl
    · have hg : eg_ (ze_ Z p) = false := by simpa using hg
      have front : ∀ y, (st_g (so_gi (some (ad (16, p))) [4] 0) fun t3 => if t3 = 0 then (st_r ()) else (st_b (xP_leadsTo gl (rf_ ad ref) (some (ad (16, p)))) fun t4 => if t4 = 0 then (xP_resolveIn_b68 gl (some (ad (0, 0))) (nI w) (some (ad (16, p))) (rf_ ad ref) (some (ad (16, p)))) else (xP_resolveIn_b68 gl (some (ad (0, 0))) (nI w) (some (ad (16, p))) none (some (ad (16, p)))))) st = some y →
          (st_g (so_gi (some (ad (16, p))) [4] 4) fun t1 => if t1 = nI w then (st_g (so_gi (some (ad (16, p))) [4] 5) fun t2 => if t2 = 0 then (st_g (so_gi (some (ad (16, p))) [4] 0) fun t3 => if t3 = 0 then (st_r ()) else (st_b (xP_leadsTo gl (rf_ ad ref) (some (ad (16, p)))) fun t4 => if t4 = 0 then (xP_resolveIn_b68 gl (some (ad (0, 0))) (nI w) (some (ad (16, p))) (rf_ ad ref) (some (ad (16, p)))) else (xP_resolveIn_b68 gl (some (ad (0, 0))) (nI w) (some (ad (16, p))) none (some (ad (16, p)))))) else (st_r ())) else (st_g (so_gi (some (ad (16, p))) [4] 4) fun t12 => st_g (so_cm (some (ad (0, 0))) [0]) fun _ => st_b (xP_packArgument gl (some (ad (0, 0))) (rf_ ad ref) (nI w) t12) fun _ => st_g (so_gi (some (ad (16, p))) [4] 4) fun t21 => st_n (.inr (.inr (9, cd_9))) 5 fun t22 => st_b (xM_init gl (some t22) (2 : Int32) (some (ad (16, p))) (rf_ ad ref) (0 : Int32)) fun _ => st_g (so_cm (some (ad (0, 0))) [0]) fun _ => st_b (xP_post gl (some (ad (0, 0))) (nI w) t21 (some t22)) fun _ => st_r ())) st = some y := by
        intro y hy
        refine ru_g _ hhp ?_
        refine ru_t (by rw [hh]) ?_
        refine ru_g _ (og_i hat (by simp) rfl) ?_
        rw [hE, hg]
        exact ru_t rfl hy
      by_cases hs : es_ (ze_ Z p) = true
      · have ez : z_settle Z lost w p ref = (Z, lost) := by unfold z_settle; rw [if_neg hp0, if_neg (fun c => c hh), if_pos (Or.inr hs)]
        rw [ez]
        refine ⟨st, W, 0, 0, front _ ?_, hW, hR, hL, ⟨rfl, mf_s rfl rfl rfl⟩, cst_i⟩
        refine ru_g _ (og_i hat (by simp) rfl) ?_
        rw [hE, hs]
        exact ru_t rfl rfl
      · have hs : es_ (ze_ Z p) = false := by simpa using hs
        obtain ⟨u, hu⟩ : ∃ u, u = if z_meet Z w p 101 ref = true then 0 else ref := ⟨_, rfl⟩
        have hu1 : okr Z w u ∧ zk_K Z u ∧ z_meet Z w p 101 u = false := by
          rw [hu]
          cases hm : z_meet Z w p 101 ref with
          | true =>
            rw [if_pos rfl]
            exact ⟨Or.inl rfl, zk_K0, zmeet_0 hp0 101⟩
          | false =>
            rw [if_neg (by decide)]
            exact ⟨hok, href, hm⟩
        have ez : z_settle Z lost w p ref = ((zr_ Z).filter (fun r => r.1 == p)).foldl (fun s r => z_go s.1 s.2 w u r.2.2.1 r.2.2.2.1 r.2.2.2.2) (zj_r (zj_e Z p (ej_s (ze_ Z p) u)) ((zr_ Z).filter (fun r => !(r.1 == p))), lost) := by
          unfold z_settle
          rw [if_neg hp0, if_neg (fun c => c hh), if_neg (fun c => by rw [hg, hs] at c; simp at c)]
          dsimp only
          rw [← hu]
        rw [ez]
        have front2 : ∀ (sF : st_S) (iF jF : Nat), xP_resolveIn_b68 gl (some (ad (0, 0))) (nI w) (some (ad (16, p))) (rf_ ad u) (some (ad (16, p))) st = some ((), sF, iF, jF) → (st_g (so_gi (some (ad (16, p))) [4] 4) fun t1 => if t1 = nI w then (st_g (so_gi (some (ad (16, p))) [4] 5) fun t2 => if t2 = 0 then (st_g (so_gi (some (ad (16, p))) [4] 0) fun t3 => if t3 = 0 then (st_r ()) else (st_b (xP_leadsTo gl (rf_ ad ref) (some (ad (16, p)))) fun t4 => if t4 = 0 then (xP_resolveIn_b68 gl (some (ad (0, 0))) (nI w) (some (ad (16, p))) (rf_ ad ref) (some (ad (16, p)))) else (xP_resolveIn_b68 gl (some (ad (0, 0))) (nI w) (some (ad (16, p))) none (some (ad (16, p)))))) else (st_r ())) else (st_g (so_gi (some (ad (16, p))) [4] 4) fun t12 => st_g (so_cm (some (ad (0, 0))) [0]) fun _ => st_b (xP_packArgument gl (some (ad (0, 0))) (rf_ ad ref) (nI w) t12) fun _ => st_g (so_gi (some (ad (16, p))) [4] 4) fun t21 => st_n (.inr (.inr (9, cd_9))) 5 fun t22 => st_b (xM_init gl (some t22) (2 : Int32) (some (ad (16, p))) (rf_ ad ref) (0 : Int32)) fun _ => st_g (so_cm (some (ad (0, 0))) [0]) fun _ => st_b (xP_post gl (some (ad (0, 0))) (nI w) t21 (some t22)) fun _ => st_r ())) st = some ((), sF, iF, jF) := by
          intro sF iF jF hy
          refine front _ ?_
          refine ru_g _ (og_i hat (by simp) rfl) ?_
          rw [hE, hs]
          refine ru_f (by decide) ?_
          have hle := xP_leads_ok hW hR hB hp hp1 hh href
          refine ru_b (i2 := iF) (j2 := jF) hle ?_ (by omega) (by omega)
          cases hm : z_meet Z w p 101 ref with
          | true =>
            rw [hm, if_pos rfl] at hu
            rw [hu, rf_0] at hy
            exact ru_f (by decide) hy
          | false =>
            rw [hm, if_neg (by decide)] at hu
            rw [hu] at hy
            exact ru_t rfl hy
        obtain ⟨st1, st2, c1, c2, c3, c4⟩ := cu_s (u := u) hW hd hp1
        rw [hE] at c3
        have hR1 := RW_sus (p := p) (RW_e (e := p) (E := ej_s (ze_ Z p) u) hR)
        have hEf : zf_ Z (zj_r (zj_e Z p (ej_s (ze_ Z p) u)) ((zr_ Z).filter (fun r => !(r.1 == p)))) := zf_t (zf_j (f := p) (E := ej_s (ze_ Z p) u) rfl rfl rfl rfl rfl rfl rfl) zf_r
        have hv := cwv_p (W := W) hp1 hd
        have hrw := hR.2.2.2.2.2.1 p hv (Or.inr hp1) (by omega)
        have hlp := len_L hR hv (Or.inr hp1) (by omega)
        have hlf : ((zr_ Z).filter (fun r => r.1 == p)).length = z_waits Z p := rfl
        have hZ1 : zB (zj_r (zj_e Z p (ej_s (ze_ Z p) u)) ((zr_ Z).filter (fun r => !(r.1 == p)))) := zB_s1 hB hp hp1 hh hg hs hu1.1 hu1.2.1 hu1.2.2
        have hpass1 : zk_pass (zj_r (zj_e Z p (ej_s (ze_ Z p) u)) ((zr_ Z).filter (fun r => !(r.1 == p)))) w p = true := by
          unfold zk_pass zh_
          show (decide (100 < p) && decide (eh_ (ze_ (zj_e Z p (ej_s (ze_ Z p) u)) p) = w) && es_ (ze_ (zj_e Z p (ej_s (ze_ Z p) u)) p)) = true
          rw [ze_s, decide_eq_true hp1]
          show (true && decide (eh_ (ze_ Z p) = w) && true) = true
          rw [decide_eq_true (show eh_ (ze_ Z p) = w from hh)]
          rfl
        have het1 : et_ (ze_ (zj_r (zj_e Z p (ej_s (ze_ Z p) u)) ((zr_ Z).filter (fun r => !(r.1 == p)))) p) = u := by
          show et_ (ze_ (zj_e Z p (ej_s (ze_ Z p) u)) p) = u
          rw [ze_s]
          rfl
        have ha1 : za_ok (zj_r (zj_e Z p (ej_s (ze_ Z p) u)) ((zr_ Z).filter (fun r => !(r.1 == p)))) (lost ++ ((zr_ Z).filter (fun r => r.1 == p)).map (fun r => r.2.2.2.2)) := by
          have hqs : ((zr_ Z).filter (fun r => r.1 == p)).map (fun r => r.2.2.2.2) = za_r ((zr_ Z).filter (fun r => r.1 == p)) := by
            unfold za_r
            refine (List.filter_eq_self.mpr (fun q hq => ?_)).symm
            obtain ⟨r, hr, e1⟩ := List.mem_map.mp hq
            obtain ⟨m1, m2⟩ := List.mem_filter.mp hr
            have m3 : r.1 = p := by simpa using m2
            have := b2.2.2.2.1 r m1 (by omega)
            rw [← e1]
            exact decide_eq_true this
          rw [hqs]
          refine za_okp ha ?_
          show ((lost ++ za_r _) ++ (za_r ((zr_ Z).filter _) ++ za_l (zl_ Z))).Perm (lost ++ (za_r (zr_ Z) ++ za_l (zl_ Z)))
          rw [List.append_assoc, ← List.append_assoc (za_r _) (za_r _)]
          refine List.Perm.append_left _ (List.Perm.append_right _ ?_)
          rw [← za_ra]
          exact za_rp (List.filter_append_perm _ _)
        obtain ⟨st', W', i, j, k1, k2, k3, k4, k5, k6⟩ := xP_resolve_it (X := Z) (show w < 4 by omega) hp1 hu1.2.1 ((zr_ Z).filter (fun r => r.1 == p)) 0 fu_ (zj_r (zj_e Z p (ej_s (ze_ Z p) u)) ((zr_ Z).filter (fun r => !(r.1 == p)))) lost st2 _ (by rw [hlf]; unfold fu_; omega) rfl hw hp c3 hR1 hL hZ1 (zH_s hH rfl (fun e => (hEf.2.2.2 e).1)) ha1 hpass1 het1 (fun r hr => by simpa using (List.mem_filter.mp hr).2) ((okr_f hEf).mpr hu1.1) (by show (cwl_ W p).length = _; rw [hlp, Nat.zero_add]; rfl) (by rw [hlf]; omega) (by rw [List.drop_zero]; exact hrw) (fun r hr => by
          obtain ⟨m1, m2⟩ := List.mem_filter.mp hr
          have m3 : r.1 = p := by simpa using m2
          obtain ⟨y1, y2, y3, y4⟩ := b3.2.2.1 r m1
          obtain ⟨t1, t2, t3⟩ := b5.2 r m1
          have hwr : zr_w Z r = w := by
            unfold zr_w
            rw [if_neg (by omega), m3]
            exact hh
          rw [hwr] at t3
          refine ⟨?_, y2, y3, b2.2.2.2.1 r m1 (by omega), (okr_f hEf).mpr t3⟩
          rcases y4 with y4 | y4
          · omega
          · rw [y4.2, m3]) hlk (by rw [hlf]; show (zl_ Z).length + _ ≤ _; omega)
        refine ⟨st', W', i, j, front2 _ _ _ ?_, k2, k3, k4, k5, ?_⟩
        · unfold xP_resolveIn_b68
          refine ru_w _ c1 ?_
          refine ru_w _ c2 ?_
          exact k1
        · exact k6
end CRT
