/-! The class: arguments are packed and unpacked. -/
/-- what a program makes is paid by capacities and messages -/
def cst_ (W : cw_W) (Z : zz_S) (i j : Nat) (W' : cw_W) (Z' : zz_S) : Prop := i + (bk_ W + (zl_ Z).length) ≤ bk_ W' + (zl_ Z').length ∧ j + (4 * bk_ W + 5 * (zl_ Z).length) ≤ 4 * bk_ W' + 5 * (zl_ Z').length
/-- calls, their lists, the turn and the lost answers as they were -/
def pf_ (W W' : cw_W) : Prop := cwC_ W' = cwC_ W ∧ cwT_ W' = cwT_ W ∧ cwL_ W' = cwL_ W ∧ (∀ L, L < 4 ∨ 20 ≤ L → cwl_ W' L = cwl_ W L) ∧ mf_ W W'
/-- homes are vats -/
def zH (Z : zz_S) : Prop := ∀ e, zk_made Z e = true → zh_ Z e < zn_ Z
section CPK
variable {gl : gl_T} {fx : fx_T} {ad : Nat × Nat → Nat} {W W' : cw_W} {st : st_S} {Z X : zz_S} {e a b s v L g u q kind what arg : Nat} {x : Int32} {d : Int}
theorem cst_i {W : cw_W} {Z : zz_S} : cst_ W Z 0 0 W Z := ⟨by omega, by omega⟩
theorem cst_t {W1 W2 W3 : cw_W} {Z1 Z2 Z3 : zz_S} {i1 j1 i2 j2 : Nat} (h1 : cst_ W1 Z1 i1 j1 W2 Z2) (h2 : cst_ W2 Z2 i2 j2 W3 Z3) : cst_ W1 Z1 (i1 + i2) (j1 + j2) W3 Z3 := by
  obtain ⟨a1, a2⟩ := h1
  obtain ⟨b1, b2⟩ := h2
  exact ⟨by omega, by omega⟩
theorem cst_b (h : bk_ W' = bk_ W) : cst_ W Z 0 0 W' Z := ⟨by rw [h]; omega, by rw [h]; omega⟩
theorem pf_i : pf_ W W := ⟨rfl, rfl, rfl, fun _ _ => rfl, mf_s rfl rfl rfl⟩
theorem pf_t {W2 : cw_W} (h1 : pf_ W W') (h2 : pf_ W' W2) : pf_ W W2 := ⟨h2.1.trans h1.1, h2.2.1.trans h1.2.1, h2.2.2.1.trans h1.2.2.1, fun L hL => (h2.2.2.2.1 L hL).trans (h1.2.2.2.1 L hL), mf_t h1.2.2.2.2 h2.2.2.2.2⟩
theorem RW_e (h : RW Z W s) {E : ze_E} : RW (zj_e Z e E) (cj_e W e E) s := by
  obtain ⟨h1, h2, h3, h4, h5, h6, h7, h8⟩ := h
  refine ⟨h1, h2, ?_, h4, h5, h6, h7, h8⟩
  show va_up (cwe_ W) e E = va_up (ze_ Z) e E
  rw [h3]
theorem RW_K (h : RW Z W s) (he : zk_K Z e) : e = 0 ∨ cwd_ W e = true := by
  rcases he with c | c
  · exact Or.inl c
  · exact Or.inr (by rw [h.2.1 e]; exact c)
theorem rf_s (h : u ≠ 0) : rf_ ad u = some (ad (16, u)) := if_neg h
theorem rf_0 : rf_ ad 0 = none := rfl
/-- a message without a call is made and posted -/
theorem x_mail (h : CW gl fx ad W st) (hR : RW Z W s) (hz : zw_n Z) (ha : a < zn_ Z) (hb : b < zn_ Z) (hk : kind ≠ 1) (hlen : (zl_ Z).length ≤ 2400) {r1 r2 : Option Nat} (hr1 : r1 = rf_ ad what) (hr2 : r2 = rf_ ad arg) {kk : Int32} (hkk : kk = nI kind) {α : Type} (k : st_M α) :
    ∃ st' W' i j, CW gl fx ad W' st' ∧ RW (z_post Z kind a b what x arg q) W' s ∧ pf_ W W' ∧ cst_ W Z i j W' (z_post Z kind a b what x arg q) ∧ ∀ (r : α) (st2 : st_S) (i2 j2 : Nat), k st' = some (r, st2, i2, j2) →
      (st_n (.inr (.inr (9, cd_9))) 5 fun t7 => st_b (xM_init gl (some t7) kk r1 r2 x) fun _ => st_g (so_cm (some (ad (0, 0))) [0]) fun _ => st_b (xP_post gl (some (ad (0, 0))) (nI a) (nI b) (some t7)) fun _ => k) st = some (r, st2, i + i2, j + j2) := by
  subst hr1 hr2 hkk
  have hn := RW_n hR
  have hM := cu_newM h (m := (kind, what, arg, x, none))
  have hRM := RW_newM hR (new_M h) (m := (kind, what, arg, x, none))
  have hmm : cwM_ (cj_M W st.2 (some (kind, what, arg, x, none))) st.2 = some (kind, what, arg, x, none) := va_up_self _ _ _
  obtain ⟨st', W', i, j, a1, a2, a3, a4, a5, a6⟩ := xP_post_ok hM hRM.2.2.2.2.2.2.2 (RW_d hRM hz) (show a < cwn_ (cj_M W st.2 (some (kind, what, arg, x, none))) by have := hn.1; show a < cwn_ W; omega) (show b < cwn_ (cj_M W st.2 (some (kind, what, arg, x, none))) by have := hn.1; show b < cwn_ W; omega) (by show cwn_ W ≤ 4; rw [hn.1]; exact hz.2.1) (q := st.2) (by rw [hmm]; exact fun c => by cases c)
  have hn4 := hz.2.1
  have hRP := RW_post hRM (by omega) (by omega) a3 (r := (kind, a, b, what, x, arg, q)) ⟨rfl, rfl⟩ (by
    unfold mwv_ mzv_
    rw [hmm]
    show some (kind, what, arg, x, none) = some (kind, what, arg, if kind = 1 then 0 else x, if kind = 1 then _ else none)
    rw [if_neg hk, if_neg hk]) hlen ha hb hn4
  obtain ⟨e1, e2, e3, e4, e5, e6, e7, e8, e9, e10, e11⟩ := wad_e a3
  have hb0 : bk_ (cj_M W st.2 (some (kind, what, arg, x, none))) = bk_ W := rfl
  rw [hb0] at a4 a5
  have hzl : (zl_ (z_post Z kind a b what x arg q)).length = (zl_ Z).length + 1 := by
    show (zl_ Z ++ [_]).length = _
    rw [List.length_append]
    rfl
  refine ⟨st', W', 1 + i, 5 + j, a2, hRP, ⟨by rw [e6]; rfl, by rw [e9]; rfl, by rw [e10]; rfl, fun L hL => (wad_n a3 (by omega)).trans rfl, mf_new (new_M h) e7 e2 e6⟩, ⟨by rw [hzl]; omega, by rw [hzl]; omega⟩, fun r st2 i2 j2 hkk => ?_⟩
  refine ru_n (i2 := i + i2) (j2 := j + j2) ?_ (by omega) (by omega)
  refine ru_b (i2 := i + i2) (j2 := j + j2) xM_ok ?_ (by omega) (by omega)
  refine ru_g _ (r0_m hM) ?_
  exact ru_b a1 hkk rfl rfl
theorem xP_pack_ok (h : CW gl fx ad W st) (hR : RW Z W s) (hz : zw_n Z) (hk : zk_w Z) (hH : zH Z) (ha : a < zn_ Z) (hb : b < zn_ Z) (he : zk_K Z e) (hlen : (zl_ Z).length ≤ 2400) :
    ∃ st' W' i j, xP_packArgument gl (some (ad (0, 0))) (rf_ ad e) (nI a) (nI b) st = some ((), st', i, j) ∧ CW gl fx ad W' st' ∧ RW (z_pack Z a b e) W' s ∧ pf_ W W' ∧ cst_ W Z i j W' (z_pack Z a b e) := by
  have hn4 := hz.2.1
  unfold xP_packArgument
  by_cases h0 : e = 0
  · subst h0
    have ez : z_pack Z a b 0 = Z := by unfold z_pack; rw [if_pos rfl]
    rw [rf_0, ez]
    exact ⟨st, W, 0, 0, rfl, h, hR, pf_i, cst_i⟩
  · rw [rf_s h0]
    have hmd : zk_made Z e = true := he.resolve_left h0
    have hd : cwd_ W e = true := by rw [hR.2.1 e]; exact hmd
    have hE : cwe_ W e = ze_ Z e := by rw [hR.2.2.1]
    have hhn := hH e hmd
    have hh := re_h h hd
    rw [hE] at hh
    have e0 : eh_ (ze_ Z e) = zh_ Z e := rfl
    rw [e0] at hh
    by_cases hha : zh_ Z e = a
    · have ez : z_pack Z a b e = zj_e Z e (ej_x (ze_ Z e) b 1) := by unfold z_pack; rw [if_neg h0, if_pos hha]
      rw [ez]
      obtain ⟨st', c1, c2, c3⟩ := cu_x (d := 1) h hd (show b < 4 by omega) (y := Int32.ofInt (ex_ (cwe_ W e) b) + 1) (oi_1 _)
      refine ⟨st', _, 0, 0, ?_, c2, by rw [← hE]; exact RW_e hR, ⟨rfl, rfl, rfl, fun _ _ => rfl, mf_s rfl rfl rfl⟩, ⟨Nat.le_of_eq (Nat.zero_add _), Nat.le_of_eq (Nat.zero_add _)⟩⟩
      refine ru_f (fun z => by cases z) ?_
      refine ru_g _ hh ?_
      refine ru_t (by rw [hha]) ?_
      refine ru_g _ (re_x h hd) ?_
      refine ru_g _ (og_li (at_17 h hd) (show b < 4 by omega) (by decide)) ?_
      exact ru_w _ c1 ru_r
    · have hna : ¬ nI (zh_ Z e) = nI a := fun z => hha ((nI_eq (by omega) (by omega)).mp z)
      by_cases hhb : zh_ Z e ≠ b
      · have ez : z_pack Z a b e = z_post Z 4 a (zh_ Z e) e (nI b) 0 0 := by unfold z_pack; rw [if_neg h0, if_neg hha, if_pos hhb]
        rw [ez]
        obtain ⟨st', W', i, j, m1, m2, m3, m4, m5⟩ := x_mail (q := 0) (x := nI b) h hR hz ha hhn (kind := 4) (by decide) hlen (what := e) (arg := 0) rfl rfl rfl (st_r ())
        refine ⟨st', W', i, j, ?_, m1, m2, m3, m4⟩
        refine ru_f (fun z => by cases z) ?_
        refine ru_g _ hh ?_
        refine ru_f hna ?_
        refine ru_g _ hh ?_
        refine ru_f (fun z => hhb ((nI_eq (by omega) (by omega)).mp z)) ?_
        refine ru_g _ hh ?_
        have := m5 () st' 0 0 rfl
        rw [rf_s h0, rf_0] at this
        exact this
      · have hhb : zh_ Z e = b := Classical.byContradiction hhb
        have ez : z_pack Z a b e = Z := by unfold z_pack; rw [if_neg h0, if_neg hha, if_neg (fun c => c hhb)]
        rw [ez]
        refine ⟨st, W, 0, 0, ?_, h, hR, pf_i, cst_i⟩
        refine ru_f (fun z => by cases z) ?_
        refine ru_g _ hh ?_
        refine ru_f hna ?_
        refine ru_g _ hh ?_
        exact ru_t (by rw [hhb]) rfl
theorem xP_unpack_ok (h : CW gl fx ad W st) (hR : RW Z W s) (hz : zw_n Z) (hH : zH Z) (ha : a < zn_ Z) (hb : b < zn_ Z) (he : zk_K Z e) (hlen : (zl_ Z).length ≤ 2400) :
    ∃ st' W' i j, xP_unpackArgument gl (some (ad (0, 0))) (rf_ ad e) (nI a) (nI b) st = some ((), st', i, j) ∧ CW gl fx ad W' st' ∧ RW (z_unpack Z a b e) W' s ∧ pf_ W W' ∧ cst_ W Z i j W' (z_unpack Z a b e) := by
  have hn4 := hz.2.1
  unfold xP_unpackArgument
  by_cases h0 : e = 0
  · subst h0
    have ez : z_unpack Z a b 0 = Z := by unfold z_unpack; rw [if_pos (Or.inl rfl)]
    rw [rf_0, ez]
    exact ⟨st, W, 0, 0, rfl, h, hR, pf_i, cst_i⟩
  · rw [rf_s h0]
    have hmd : zk_made Z e = true := he.resolve_left h0
    have hd : cwd_ W e = true := by rw [hR.2.1 e]; exact hmd
    have hE : cwe_ W e = ze_ Z e := by rw [hR.2.2.1]
    have hhn := hH e hmd
    have hh := re_h h hd
    rw [hE] at hh
    have e0 : eh_ (ze_ Z e) = zh_ Z e := rfl
    rw [e0] at hh
    by_cases hhb : zh_ Z e = b
    · have ez : z_unpack Z a b e = Z := by unfold z_unpack; rw [if_pos (Or.inr hhb)]
      rw [ez]
      refine ⟨st, W, 0, 0, ?_, h, hR, pf_i, cst_i⟩
      refine ru_f (fun z => by cases z) ?_
      refine ru_g _ hh ?_
      exact ru_t (by rw [hhb]) rfl
    · have hnb : ¬ nI (zh_ Z e) = nI b := fun z => hhb ((nI_eq (by omega) (by omega)).mp z)
      obtain ⟨st1, c1, c2, c3⟩ := cu_i (d := ei_ (cwe_ W e) b + 1) h hd (show b < 4 by omega) (y := Int32.ofInt (ei_ (cwe_ W e) b) + 1) (oi_1 _)
      rw [hE] at c2
      have hR1 := RW_e (e := e) (E := ej_i (ze_ Z e) b (ei_ (ze_ Z e) b + 1)) hR
      have hh1 : so_gi (some (ad (16, e))) [3, 4] 4 st1 = some (nI (zh_ Z e)) := by
        have := re_h c2 (show cwd_ (cj_e W e (ej_i (ze_ Z e) b (ei_ (ze_ Z e) b + 1))) e = true from hd)
        rw [cwe_s] at this
        exact this
      have front : ∀ r, (if nI (zh_ Z e) = nI a then (st_r ()) else (st_g (so_gi (some (ad (16, e))) [3, 4] 4) fun t6 => st_n (.inr (.inr (9, cd_9))) 5 fun t7 => st_b (xM_init gl (some t7) (5 : Int32) (some (ad (16, e))) none (nI a)) fun _ => st_g (so_cm (some (ad (0, 0))) [0]) fun _ => st_b (xP_post gl (some (ad (0, 0))) (nI b) t6 (some t7)) fun _ => st_r ())) st1 = some r →
          (if (some (ad (16, e)) : Option Nat) = none then (st_r ()) else (st_g (so_gi (some (ad (16, e))) [3, 4] 4) fun t1 => if t1 = nI b then (st_r ()) else (st_g (so_gq (some (ad (16, e))) [3, 4] 8) fun t2 => st_g (so_li t2 0 (nI b)) fun t3 => st_w (so_si t2 0 (nI b) (t3 + (1 : Int32))) (st_g (so_gi (some (ad (16, e))) [3, 4] 4) fun t5 => if t5 = nI a then (st_r ()) else (st_g (so_gi (some (ad (16, e))) [3, 4] 4) fun t6 => st_n (.inr (.inr (9, cd_9))) 5 fun t7 => st_b (xM_init gl (some t7) (5 : Int32) (some (ad (16, e))) none (nI a)) fun _ => st_g (so_cm (some (ad (0, 0))) [0]) fun _ => st_b (xP_post gl (some (ad (0, 0))) (nI b) t6 (some t7)) fun _ => st_r ()))))) st = some r := by
        intro r hr
        refine ru_f (fun z => by cases z) ?_
        refine ru_g _ hh ?_
        refine ru_f hnb ?_
        refine ru_g _ (re_i h hd) ?_
        refine ru_g _ (og_li (at_18 h hd) (show b < 4 by omega) (by decide)) ?_
        refine ru_w _ c1 ?_
        refine ru_g _ hh1 ?_
        exact hr
      by_cases hha : zh_ Z e ≠ a
      · have ez : z_unpack Z a b e = z_post (zj_e Z e (ej_i (ze_ Z e) b (ei_ (ze_ Z e) b + 1))) 5 b (zh_ Z e) e (nI a) 0 0 := by unfold z_unpack; rw [if_neg (fun z => z.elim h0 hhb)]; dsimp only; rw [if_pos hha]
        rw [ez]
        obtain ⟨st', W', i, j, m1, m2, m3, m4, m5⟩ := x_mail (q := 0) (x := nI a) c2 hR1 hz hb hhn (kind := 5) (by decide) hlen (what := e) (arg := 0) rfl rfl rfl (st_r ())
        refine ⟨st', W', i, j, front _ (ru_f (fun z => hha ((nI_eq (by omega) (by omega)).mp z)) ?_), m1, m2, pf_t ⟨rfl, rfl, rfl, fun _ _ => rfl, mf_s rfl rfl rfl⟩ m3, ?_⟩
        · refine ru_g _ hh1 ?_
          have := m5 () st' 0 0 rfl
          rw [rf_s h0, rf_0] at this
          exact this
        · obtain ⟨b1, b2⟩ := m4
          exact ⟨b1, b2⟩
      · have hha : zh_ Z e = a := Classical.byContradiction hha
        have ez : z_unpack Z a b e = zj_e Z e (ej_i (ze_ Z e) b (ei_ (ze_ Z e) b + 1)) := by unfold z_unpack; rw [if_neg (fun z => z.elim h0 hhb)]; dsimp only; rw [if_neg (fun c => c hha)]
        rw [ez]
        exact ⟨st1, _, 0, 0, front _ (ru_t (by rw [hha]) rfl), c2, hR1, ⟨rfl, rfl, rfl, fun _ _ => rfl, mf_s rfl rfl rfl⟩, ⟨Nat.le_of_eq (Nat.zero_add _), Nat.le_of_eq (Nat.zero_add _)⟩⟩
end CPK
