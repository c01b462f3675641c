/-! The reference's sweep: what it lets go. -/
/-- a program that leaves the row k alone -/
def pkr_ {α : Type} (k : Nat) (f : pm_M α) : Prop := ∀ M r M', f M = some (r, M') → M'.2 k = M.2 k
theorem pkr_r {α : Type} {k : Nat} {a : α} : pkr_ k (pr_ a) := fun M r M' h => by cases h; rfl
theorem pkr_g {α β : Type} {k : Nat} {f : ms_S → Option α} {g : α → pm_M β} (h : ∀ a, pkr_ k (g a)) : pkr_ k (pg_ f g) := fun M r M' hx => by
  unfold pg_ at hx
  cases hf : f M with
  | none => rw [hf] at hx; cases hx
  | some a => rw [hf] at hx; exact h a M r M' hx
theorem pkr_ws {β : Type} {k j : Nat} {x y : Int32} {g : pm_M β} (hj : k ≠ j) (h : pkr_ k g) : pkr_ k (pw_ (ps_ j x y) g) := fun M r M' hx => by
  unfold pw_ ps_ at hx
  split at hx
  · exact (show M'.2 k = (pu_a M j x.toNatClampNeg y).2 k from h _ r M' hx).trans (pa_q hj)
  · cases hx
theorem pkr_wp {β : Type} {k j : Nat} {y : Int32} {g : pm_M β} (h : pkr_ k g) : pkr_ k (pw_ (pp_ j y) g) := fun M r M' hx => by
  unfold pw_ pp_ at hx
  exact (show M'.2 k = (pu_s M j y).2 k from h _ r M' hx)
theorem pkr_post {k : Nat} (hk : k < 24) (v1 v2 v3 v4 v5 v6 : Int32) : pkr_ k (pm_post v1 v2 v3 v4 v5 v6) := by
  unfold pm_post
  repeat' with_reducible (first | exact pkr_r | refine pkr_g (fun _ => ?_) | refine pkr_ws (by omega) ?_ | refine pkr_wp ?_)
section RSY
variable {Z X : zz_S} {M M' : ms_S} {D : Nat → Bool} {v n : Nat} {l : List Nat}
theorem zdrop_f : ∀ (k : Nat), (z_drop D v X k).1 = X.1 ∧ zg_ (z_drop D v X k) = zg_ X ∧ zr_ (z_drop D v X k) = zr_ X ∧ zt_ (z_drop D v X k) = zt_ X ∧ ∀ e, zh_ (z_drop D v X k) e = zh_ X e ∧ eg_ (ze_ (z_drop D v X k) e) = eg_ (ze_ X e) ∧ es_ (ze_ (z_drop D v X k) e) = es_ (ze_ X e) ∧ et_ (ze_ (z_drop D v X k) e) = et_ (ze_ X e) ∧ ep_ (ze_ (z_drop D v X k) e) = ep_ (ze_ X e) ∧ en_ (ze_ (z_drop D v X k) e) = en_ (ze_ X e) ∧ el_ (ze_ (z_drop D v X k) e) = el_ (ze_ X e) ∧ ex_ (ze_ (z_drop D v X k) e) = ex_ (ze_ X e) ∧ eo_ (ze_ (z_drop D v X k) e) = eo_ (ze_ X e)
  | 0 => ⟨rfl, rfl, rfl, rfl, fun _ => ⟨rfl, rfl, rfl, rfl, rfl, rfl, rfl, rfl, rfl⟩⟩
  | k + 1 => by
    have ih := zdrop_f k
    rw [zdrop_s]
    split
    · refine ⟨ih.1, ih.2.1, ih.2.2.1, ih.2.2.2.1, fun e => ?_⟩
      have h := ih.2.2.2.2 e
      show eh_ (ze_ (zj_e (z_drop D v X k) k (ej_i (ze_ (z_drop D v X k) k) v 0)) e) = _ ∧ eg_ (ze_ (zj_e (z_drop D v X k) k (ej_i (ze_ (z_drop D v X k) k) v 0)) e) = _ ∧ es_ (ze_ (zj_e (z_drop D v X k) k (ej_i (ze_ (z_drop D v X k) k) v 0)) e) = _ ∧ et_ (ze_ (zj_e (z_drop D v X k) k (ej_i (ze_ (z_drop D v X k) k) v 0)) e) = _ ∧ ep_ (ze_ (zj_e (z_drop D v X k) k (ej_i (ze_ (z_drop D v X k) k) v 0)) e) = _ ∧ en_ (ze_ (zj_e (z_drop D v X k) k (ej_i (ze_ (z_drop D v X k) k) v 0)) e) = _ ∧ el_ (ze_ (zj_e (z_drop D v X k) k (ej_i (ze_ (z_drop D v X k) k) v 0)) e) = _ ∧ ex_ (ze_ (zj_e (z_drop D v X k) k (ej_i (ze_ (z_drop D v X k) k) v 0)) e) = _ ∧ eo_ (ze_ (zj_e (z_drop D v X k) k (ej_i (ze_ (z_drop D v X k) k) v 0)) e) = _
      by_cases he : e = k
      · subst he
        rw [ze_s]
        exact h
      · rw [ze_n he]
        exact h
    · exact ih
/-- imports that are let go pay for the message -/
theorem zphi_i0 (hl : l.Nodup) {e : Nat} (hv : v < 4) (hin : 4 * e + v ∈ l) (h : 0 < ei_ (ze_ Z e) v) : zphi_n l (zj_e Z e (ej_i (ze_ Z e) v 0)) + 1 ≤ zphi_n l Z := by
  have key : zc_n l (ze_ (zj_e Z e (ej_i (ze_ Z e) v 0))) < zc_n l (ze_ Z) := by
    unfold zc_n
    have d1 : (4 * e + v) / 4 = e := by omega
    have d2 : (4 * e + v) % 4 = v := by omega
    refine fl_lt (e := 4 * e + v) (fun k hk => ?_) ?_ ?_ l hin
    · rw [decide_eq_true_eq] at hk ⊢
      by_cases hke : k / 4 = e
      · rw [hke, ze_s] at hk
        rw [hke]
        have hk : 0 < va_up (ei_ (ze_ Z e)) v 0 (k % 4) := hk
        unfold va_up at hk
        split at hk
        · omega
        · exact hk
      · rw [ze_n hke] at hk
        exact hk
    · rw [d1, d2, ze_s]
      show decide (0 < va_up (ei_ (ze_ Z e)) v 0 v) = false
      rw [va_up_self]
      rfl
    · rw [d1, d2]
      exact decide_eq_true h
  have e1 : zphi_n l (zj_e Z e (ej_i (ze_ Z e) v 0)) = ((zr_ Z).map zc_r).sum + ((zl_ Z).map zc_l).sum + zc_n l (ze_ (zj_e Z e (ej_i (ze_ Z e) v 0))) + 5 * (100 - zp_ Z) := rfl
  rw [e1]
  unfold zphi_n
  omega
/-- all the numbers of imports -/
def zl_all (l : List Nat) : Prop := l.Nodup ∧ ∀ k, k < 804 → k ∈ l
theorem zi_free (h : zi_ l n Z) : ∀ (k : Nat), k ≤ 201 → zi_ l n (z_free Z v D k)
  | 0, _ => h
  | k + 1, hk => by
    have ih := zi_free h k (by omega)
    have ff := zfree_f (Z := Z) (v := v) (D := D) k
    rw [zfree_s]
    split
    · rename_i hfr
      unfold zk_fr at hfr
      rw [Bool.and_eq_true, Bool.and_eq_true] at hfr
      have hl := live_le h.1 hfr.1.1
      have hm : zk_K (z_free Z v D k) k := by
        rw [zk_KZ ff.1]
        have := hfr.1.1
        unfold zk_live at this
        rw [Bool.and_eq_true] at this
        exact Or.inr this.1
      obtain ⟨k1, ⟨k2, k3, k4⟩, k5, k6⟩ := ih
      refine ⟨k1, ⟨⟨fun e he => ?_, k2.2⟩, k3, ?_⟩, zd_j k5 hm hl.1 (k5.1 k), k6⟩
      · unfold zh_
        by_cases hek : e = k
        · subst hek
          rw [ze_s]
          exact k2.1 e he
        · rw [ze_n hek]
          exact k2.1 e he
      · rw [zphi_j (E := ej_g (ze_ (z_free Z v D k) k)) rfl]
        exact k4
    · exact ih
theorem zi_drop (ha : zl_all l) (h : zi_ l n X) (hv : v < 4) : ∀ (k : Nat), k ≤ 201 → zi_ l n (z_drop D v X k)
  | 0, _ => h
  | k + 1, hk => by
    have ih := zi_drop ha h hv k (by omega)
    rw [zdrop_s]
    split
    · rename_i hc
      obtain ⟨k1, ⟨k2, k3, k4⟩, k5, k6⟩ := ih
      have hKk : zk_K (z_drop D v X k) k := Classical.byContradiction (fun c => by
        have := k5.2.1 k (Or.inr c)
        rw [this] at hc
        exact absurd hc.1 (show ¬ (0 : Int) < 0 by decide))
      have hk0 : 0 < k := Nat.pos_of_ne_zero (fun c => by
        have := k5.2.1 k (Or.inl c)
        rw [this] at hc
        exact absurd hc.1 (show ¬ (0 : Int) < 0 by decide))
      have hh := (k2.1 k (by omega)).1
      have hph := zphi_i0 ha.1 hv (ha.2 (4 * k + v) (by omega)) hc.1
      refine ⟨k1, ⟨zwp_post (zwp_i k2) (by decide) (by decide) hv hh (by omega) (by decide) (by decide) ⟨fun z => absurd (show (3:Nat) = 1 from z) (by decide), fun z => absurd (show (3:Nat) = 2 from z) (by decide), fun z => absurd (show (3:Nat) = 4 ∨ (3:Nat) = 5 from z) (by decide)⟩, ?_, ?_⟩, ?_, k6⟩
      · refine za_okp k3 ?_
        show (za_r (zr_ (z_drop D v X k)) ++ za_l (zl_ (z_drop D v X k) ++ [_])).Perm (za_ (z_drop D v X k))
        rw [za_la, za_l1, if_neg (show ¬ (3 = 1) by decide), List.append_nil]
        exact List.Perm.refl _
      · rw [zphi_post, if_neg (by decide)]
        omega
      · exact zd_post (K := zk_K (z_drop D v X k)) (zd_j (E := ej_i (ze_ (z_drop D v X k) k) v 0) k5 hKk hk0 (k5.1 k)) hk0 hKk zk_K0 zk_K0
    · exact ih
theorem zi_sweep (ha : zl_all l) (h : zi_ l n Z) (hv : v < 4) : zi_ l n (z_sweep Z v D).1 := by
  have h1 := zi_free (v := v) (D := D) h 201 (by omega)
  have h2 := zi_drop (D := D) ha h1 hv 201 (by omega)
  have e1 : (z_sweep Z v D).1 = z_drop D v (z_free Z v D 201) 201 := by unfold z_sweep; with_reducible rfl
  rw [e1]
  exact h2
theorem pm_sweep_d (ha : zl_all l) (h : zi_ l 2080 X) (hx : ∀ e, e ≤ 200 → ei_ (ze_ X e) v < 1000000 ∧ -1000000 < ei_ (ze_ X e) v) (hv : v < 4) {c : Int32} : ∀ (d k fuel : Nat) (M1 : ms_S), 201 - k = d → 1 ≤ k → k ≤ 201 → d < fuel → rm_ (z_drop D v X k) M1 → rk_ D M1 →
    ∃ M2, rm_ (z_drop D v X 201) M2 ∧ pt_ (fun rec241 => (fun x : Int32 × Int32 × Int32 => pm_sweep_b241 rec241 x.1 x.2.1 x.2.2)) fuel (nI v, c, nI k) M1 = some (c, M2) := by
  intro d
  induction d with
  | zero =>
    intro k fuel M1 hdk hk1 hk2 hfu hm hk
    obtain ⟨m, rfl⟩ : ∃ m, fuel = m + 1 := ⟨fuel - 1, by omega⟩
    have : k = 201 := by omega
    subst this
    refine ⟨M1, hm, ?_⟩
    show pm_sweep_b241 _ (nI v) c (nI 201) M1 = _
    unfold pm_sweep_b241
    exact pn_t (show nI 200 < nI 201 from nI_lt (by omega) (by omega)) rfl
  | succ d ih =>
    intro k fuel M1 hdk hk1 hk2 hfu hm hk
    obtain ⟨m, rfl⟩ : ∃ m, fuel = m + 1 := ⟨fuel - 1, by omega⟩
    have hk200 : k ≤ 200 := by omega
    have hs := zdrop_s (X := X) (D := D) (v := v) k
    have hzi := zi_drop (D := D) ha h hv k (by omega)
    have hei : ei_ (ze_ (z_drop D v X k) k) v = ei_ (ze_ X k) v := by
      have : ∀ j, j ≤ k → ei_ (ze_ (z_drop D v X j) k) v = ei_ (ze_ X k) v := by
        intro j
        induction j with
        | zero => exact fun _ => rfl
        | succ j ihj =>
          intro hj
          rw [zdrop_s]
          split
          · show ei_ (ze_ (zj_e (z_drop D v X j) j _) k) v = _
            rw [ze_n (by omega)]
            exact ihj (by omega)
          · exact ihj (by omega)
      exact this k (Nat.le_refl _)
    have hb := hx k hk200
    rw [← hei] at hb
    have hrow := (hm.2.2.1 k hk200).2.2.2.2.1 v hv
    have hrow6 := (hm.2.2.1 k hk200).1
    have hmr := hk k hk1 hk200
    have hlen : (zl_ (z_drop D v X k)).length ≤ 2080 := by
      have e1 := zphi_l (Z := z_drop D v X k)
      have e2 := hzi.2.1.2.2
      unfold zphi_n at e2
      omega
    have hh := (hzi.2.1.1.1 k hk200).1
    have j10 : k < (mr_ 10).2 := by show k < 201; omega
    have j6 : k < (mr_ 6).2 := by show k < 201; omega
    have j16 : 4 * k + v < (mr_ 16).2 := by show _ < 804; omega
    have skip : z_drop D v X (k + 1) = z_drop D v X k → ∃ M2, rm_ (z_drop D v X 201) M2 ∧ pm_sweep_b305 (pt_ (fun rec241 => (fun x : Int32 × Int32 × Int32 => pm_sweep_b241 rec241 x.1 x.2.1 x.2.2)) m) (nI v) c (nI k) M1 = some (c, M2) := by
      intro he
      obtain ⟨M2, b1, b2⟩ := ih (k + 1) m M1 (by omega) (by omega) (by omega) (by omega) (by rw [he]; exact hm) hk
      refine ⟨M2, b1, ?_⟩
      unfold pm_sweep_b305
      rw [nI_1]
      exact b2
    have front : ∀ y, (if Int32.ofInt (ei_ (ze_ (z_drop D v X k) k) v) ≤ 0 then (pm_sweep_b305 (pt_ (fun rec241 => (fun x : Int32 × Int32 × Int32 => pm_sweep_b241 rec241 x.1 x.2.1 x.2.2)) m) (nI v) c (nI k)) else (pg_ (pl_ 10 (nI k)) fun t22 => if t22 = 0 then (pw_ (ps_ 16 (nI (4 * k + v)) (0 : Int32)) (pg_ (pl_ 6 (nI k)) fun t23 => pb_ (pm_post (3 : Int32) (((4 : Int32) * nI v) + t23) (nI k) (Int32.ofInt (ei_ (ze_ (z_drop D v X k) k) v)) (0 : Int32) (0 : Int32)) fun _ => pm_sweep_b305 (pt_ (fun rec241 => (fun x : Int32 × Int32 × Int32 => pm_sweep_b241 rec241 x.1 x.2.1 x.2.2)) m) (nI v) c (nI k))) else (pm_sweep_b305 (pt_ (fun rec241 => (fun x : Int32 × Int32 × Int32 => pm_sweep_b241 rec241 x.1 x.2.1 x.2.2)) m) (nI v) c (nI k)))) M1 = some y →
        pt_ (fun rec241 => (fun x : Int32 × Int32 × Int32 => pm_sweep_b241 rec241 x.1 x.2.1 x.2.2)) (m + 1) (nI v, c, nI k) M1 = some y := by
      intro y hy
      show pm_sweep_b241 _ (nI v) c (nI k) M1 = _
      unfold pm_sweep_b241
      refine pn_f (show ¬ nI 200 < nI k from nI_nlt hk200 (by omega)) ?_
      rw [e4_]
      refine pn_g _ (po_l j16) ?_
      rw [hrow.2]
      exact hy
    by_cases hc : ei_ (ze_ (z_drop D v X k) k) v ≤ 0
    · rw [if_neg (by omega)] at hs
      obtain ⟨M2, b1, b2⟩ := skip hs
      exact ⟨M2, b1, front _ (pn_t ((oi_le0 hb.2 hb.1).mpr hc) b2)⟩
    · have hn : ¬ Int32.ofInt (ei_ (ze_ (z_drop D v X k) k) v) ≤ 0 := fun z => hc ((oi_le0 hb.2 hb.1).mp z)
      cases hD : D k with
      | true =>
        rw [if_neg (fun z => by rw [hD] at z; cases z.2)] at hs
        obtain ⟨M2, b1, b2⟩ := skip hs
        refine ⟨M2, b1, front _ (pn_f hn ?_)⟩
        refine pn_g _ (po_l j10) ?_
        rw [hmr, hD]
        exact pn_f (by decide) b2
      | false =>
        rw [if_pos ⟨by omega, hD⟩] at hs
        have hM2 := ri_u (rm_i hm) (by decide) (ue_i hm.2.2.1 hk200 hv 0)
        obtain ⟨M3, p1, p2, p3, p4⟩ := pm_post_ok hM2 (kind := 3) (a := v) (b := zh_ (z_drop D v X k) k) (what := k) (v := Int32.ofInt (ei_ (ze_ (z_drop D v X k) k) v)) (e := 0) (q := 0) (by decide) hv hh hk200 (by decide) (by decide) (show (zl_ (z_drop D v X k)).length < 2100 by omega)
        have hr10 : M3.2 10 = M1.2 10 := (pkr_post (by decide) _ _ _ _ _ _ _ _ _ p1).trans (pa_q (by decide))
        obtain ⟨M2, b1, b2⟩ := ih (k + 1) m M3 (by omega) (by omega) (by omega) (by omega) (by rw [hs]; exact rm_m p2 (by rw [p3]; exact hm.2.2.2.2.2.2)) (fun e e1 e2 => by rw [hr10]; exact hk e e1 e2)
        refine ⟨M2, b1, front _ (pn_f hn ?_)⟩
        refine pn_g _ (po_l j10) ?_
        rw [hmr, hD]
        refine pn_t rfl ?_
        refine pn_w _ (po_s j16) ?_
        refine pn_g _ (po_l j6) ?_
        rw [pa_q (by decide), hrow6, e4_]
        refine pn_b _ p1 ?_
        unfold pm_sweep_b305
        rw [nI_1]
        exact b2
theorem pm_sweep_ok (ha : zl_all l) (h : rm_ Z M) (hi : zi_ l 2080 Z) (hx : zx_b Z 1000000) (hv : v < zn_ Z) : ∃ M' D, zk_isR Z v D ∧ pm_sweep (nI v) M = some ((z_sweep Z v D).2, M') ∧ rm_ (z_sweep Z v D).1 M' := by
  have h4 := hi.1.2.1
  have hv4 : v < 4 := by omega
  have hlen := zr_len hi.2.1.2.1 hi.2.1.1
  obtain ⟨M2, D, a1, a2, a3, a4⟩ := pm_sweep_m h hi.1 hi.2.2.1 hi.2.1.1 hx hv (by omega)
  have hz0 : zk_fr Z v D 0 = false := by
    unfold zk_fr zk_live zk_made
    simp
  have e1 : z_free Z v D 1 = Z := by
    rw [zfree_s, hz0]
    rfl
  have e2 : ((List.range 1).filter (zk_fr Z v D)).length = 0 := by
    rw [show List.range 1 = [0] from rfl, List.filter_cons, hz0]
    rfl
  obtain ⟨M3, b1, b2, b3⟩ := pm_sweep_f (Z := Z) (D := D) hi.1 hi.2.1.1.1 hv4 200 1 fu_ M2 rfl (by omega) (by omega) (by unfold fu_; omega) (by rw [e1]; exact rq_m h a1) a2
  have ff := zfree_f (Z := Z) (v := v) (D := D) 201
  have hfi := zi_free (v := v) (D := D) hi 201 (by omega)
  have hfx : ∀ e, e ≤ 200 → ei_ (ze_ (z_free Z v D 201) e) v < 1000000 ∧ -1000000 < ei_ (ze_ (z_free Z v D 201) e) v := fun e he => by
    have k1 : ei_ (ze_ (z_free Z v D 201) e) = ei_ (ze_ Z e) := by
      unfold ei_
      rw [(ff.2.2.2.2.2 e).2]
    rw [k1]
    have := (hx e he).1 v hv4
    exact ⟨this.2.2.2, this.2.2.1⟩
  have e3 : z_drop D v (z_free Z v D 201) 1 = z_free Z v D 201 := by
    rw [zdrop_s, if_neg]
    · rfl
    · intro c
      have := hfi.2.2.1.2.1 0 (Or.inl rfl)
      have c1 : 0 < ei_ (ze_ (z_free Z v D 201) 0) v := c.1
      rw [this] at c1
      exact absurd c1 (show ¬ (0 : Int) < 0 by decide)
  obtain ⟨M4, c1, c2⟩ := pm_sweep_d (D := D) (c := nI ((List.range 201).filter (zk_fr Z v D)).length) ha hfi hfx hv4 200 1 fu_ M3 rfl (by omega) (by omega) (by unfold fu_; omega) (by rw [e3]; exact b1) b2
  have e5 : (z_sweep Z v D).1 = z_drop D v (z_free Z v D 201) 201 := by unfold z_sweep; with_reducible rfl
  have e6 : (z_sweep Z v D).2 = nI ((List.range 201).filter (zk_fr Z v D)).length := by unfold z_sweep; with_reducible rfl
  refine ⟨M4, D, a3, ?_, ?_⟩
  rotate_left
  · rw [e5]
    exact c1
  rw [e6]
  refine a4 _ ?_
  · have := b3 _ c2
    rw [e2] at this
    exact this
theorem pm_sweep_n {x : Int32} (h0 : pm_vat x M = some (0, M)) : pm_sweep x M = some (-1, M) := pn_b _ h0 (pn_t rfl rfl)
end RSY
