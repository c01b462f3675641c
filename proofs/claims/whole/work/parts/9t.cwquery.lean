/-! What is asked of the class. -/
/-- the live entity that x names; 0 for none -/
def ql_ (Z : zz_S) (x : Int32) : Nat := if zk_live Z (zq_e Z x) = true then zq_e Z x else 0
section CQY
variable {gl : gl_T} {fx : fx_T} {ad : Nat × Nat → Nat} {W : cw_W} {st : st_S} {Z : zz_S} {v e : Nat} {x y : Int32}
theorem xP_made_ok (hW : CW gl fx ad W st) (hR : RW Z W 50) (hz : zw_n Z) : xP_madeEntity gl (some (ad (0, 0))) x st = some (rf_ ad (zq_e Z x), st, 0, 0) := by
  unfold xP_madeEntity xP_madeEntity_b22
  rcases zq_or hz x with ⟨h1, h2, h3, h4⟩ | ⟨h1, h2, h3⟩
  · generalize zq_e Z x = e at h1 h2 h3 h4
    subst h2
    refine ru_f (fun c => n_lt0.mp c (nI_pos' (by omega))) ?_
    refine ru_g _ (r0_2 hW) (ru_g _ (r3_n hW) ?_)
    refine ru_f (nI_ge (by omega) (by decide)) ?_
    refine ru_g _ (r0_2 hW) (ru_g _ (r3_l hW (by omega)) ?_)
    rw [if_pos (by rw [hR.2.1]; exact h1), rf_s (by omega)]
    rfl
  · rw [h1]
    by_cases h0 : x < 0
    · exact ru_t h0 rfl
    · refine ru_f h0 ?_
      obtain ⟨j, hj, rfl⟩ := nI_of h0
      refine ru_g _ (r0_2 hW) (ru_g _ (r3_n hW) ?_)
      by_cases hj2 : 201 ≤ j
      · exact ru_t (nI_le hj2 hj) rfl
      · refine ru_f (nI_ge (by omega) (by decide)) ?_
        refine ru_g _ (r0_2 hW) (ru_g _ (r3_l hW (by omega)) ?_)
        rw [if_neg (by rw [hR.2.1, h3 j rfl (by omega)]; decide)]
        rfl
theorem qe_made (hz : zw_n Z) (h : zq_e Z x ≠ 0) : zk_made Z (zq_e Z x) = true := by
  rcases zq_or hz x with ⟨h1, -⟩ | ⟨h1, -⟩
  · exact h1
  · exact absurd h1 h
theorem qe_0 (hz : zw_n Z) (h : zq_e Z x = 0) : zk_made Z (zq_e Z x) = false := by
  rcases zq_or hz x with ⟨-, -, h1, -⟩ | ⟨-, h1, -⟩
  · omega
  · exact h1
theorem xP_live_ok (hW : CW gl fx ad W st) (hR : RW Z W 50) (hz : zw_n Z) : xP_liveEntity gl (some (ad (0, 0))) x st = some (rf_ ad (ql_ Z x), st, 0, 0) := by
  unfold xP_liveEntity xP_liveEntity_b17 ql_
  refine ru_g _ (r0_m hW) ?_
  refine ru_b (i2 := 0) (j2 := 0) (xP_made_ok hW hR hz) ?_ rfl rfl
  by_cases h0 : zq_e Z x = 0
  · have hl : zk_live Z (zq_e Z x) = false := live0 (qe_0 hz h0)
    have ez : (if zk_live Z (zq_e Z x) = true then zq_e Z x else 0) = 0 := if_neg (by rw [hl]; decide)
    rw [ez, h0]
    exact ru_t rfl rfl
  · have hm := qe_made hz h0
    have hd : cwd_ W (zq_e Z x) = true := by rw [hR.2.1]; exact hm
    have hg := re_g hW hd
    rw [hR.2.2.1] at hg
    rw [rf_s h0]
    refine ru_f (fun c => by cases c) ?_
    refine ru_g _ hg ?_
    unfold zk_live
    rw [hm]
    cases eg_ (ze_ Z (zq_e Z x)) with
    | false =>
      refine ru_t rfl ?_
      show some (some (ad (16, zq_e Z x)), st, 0, 0) = some (rf_ ad (zq_e Z x), st, 0, 0)
      rw [rf_s h0]
    | true => exact ru_f (by decide) rfl
theorem ql_or (hz : zw_n Z) (x : Int32) : (zk_live Z (zq_e Z x) = false ∧ ql_ Z x = 0) ∨ (zk_live Z (zq_e Z x) = true ∧ ql_ Z x = zq_e Z x ∧ zq_e Z x ≠ 0 ∧ zk_made Z (zq_e Z x) = true ∧ eg_ (ze_ Z (zq_e Z x)) = false) := by
  unfold ql_
  cases hl : zk_live Z (zq_e Z x) with
  | false => exact Or.inl ⟨rfl, if_neg (by decide)⟩
  | true =>
    have h0 := live_n0 hl
    refine Or.inr ⟨rfl, if_pos rfl, h0, qe_made hz h0, ?_⟩
    unfold zk_live at hl
    rw [Bool.and_eq_true] at hl
    simpa using hl.2
theorem xP_home_ok (hW : CW gl fx ad W st) (hR : RW Z W 50) (hz : zw_n Z) : xP_home gl (some (ad (0, 0))) x st = some (zq_home Z x, st, 0, 0) := by
  unfold xP_home zq_home
  refine ru_g _ (r0_m hW) ?_
  refine ru_b (i2 := 0) (j2 := 0) (xP_live_ok hW hR hz) ?_ rfl rfl
  rcases ql_or hz x with ⟨h1, h2⟩ | ⟨h1, h2, h3, h4, h5⟩
  · rw [h1, h2]
    exact ru_t rfl rfl
  · rw [h1, h2, if_pos rfl, rf_s h3]
    refine ru_f (fun c => by cases c) ?_
    refine ru_g _ ((re_h hW (by rw [hR.2.1]; exact h4)).trans (by rw [hR.2.2.1])) ?_
    rfl
theorem xP_ref_ok (hW : CW gl fx ad W st) (h : e = 0 ∨ cwd_ W e = true) : xP_referenceTo gl (rf_ ad e) st = some (nI e, st, 0, 0) := by
  unfold xP_referenceTo
  by_cases h0 : e = 0
  · subst h0
    exact ru_t rfl rfl
  · rw [rf_s h0]
    refine ru_f (fun c => by cases c) ?_
    exact ru_g _ (re_i3 hW (h.resolve_left h0)) rfl
theorem so_i_0 {yes no : List Nat} : so_i none yes no st = some 0 := rfl
theorem xP_number_ok (hW : CW gl fx ad W st) (hR : RW Z W 50) (hz : zw_n Z) : xP_number gl (some (ad (0, 0))) x st = some (zq_number Z x, st, 0, 0) := by
  unfold xP_number zq_number
  refine ru_g _ (r0_m hW) ?_
  refine ru_b (i2 := 0) (j2 := 0) (xP_live_ok hW hR hz) ?_ rfl rfl
  rcases ql_or hz x with ⟨h1, h2⟩ | ⟨h1, h2, h3, h4, h5⟩
  · rw [h1, h2, if_neg (fun z => by cases z.1)]
    exact ru_g _ so_i_0 (ru_t rfl rfl)
  · rw [h1, h2, rf_s h3]
    have hd : cwd_ W (zq_e Z x) = true := by rw [hR.2.1]; exact h4
    have h6 := zk_K3 (Z := Z) (Or.inr h4)
    have h60 := hz.2.2.2.1
    by_cases h7 : zq_e Z x ≤ 60
    · rw [if_pos ⟨rfl, h7⟩]
      have hro := ro_at hW hd (by omega)
      rw [hR.2.2.1] at hro
      refine ru_g _ (og_i1 hro (by simp)) ?_
      refine ru_f (by decide) ?_
      refine ru_g _ (og_k hro (by simp)) ?_
      exact ru_g _ (og_i hro (by simp) rfl) rfl
    · rw [if_neg (fun z => h7 z.2)]
      have hro := rp_at hW hd (by omega)
      refine ru_g _ (og_i0 hro (by simp) (by simp)) ?_
      exact ru_t rfl rfl
theorem xP_slot_ok (hW : CW gl fx ad W st) (hR : RW Z W 50) (hz : zw_n Z) (hd0 : zd_ (zk_K Z) Z) : xP_slot gl (some (ad (0, 0))) x y st = some (zq_slot Z x y, st, 0, 0) := by
  unfold xP_slot zq_slot xP_slot_b38
  refine ru_b (i2 := 0) (j2 := 0) xP_isSlot_ok ?_ rfl rfl
  by_cases hy : 0 ≤ y ∧ y < 4
  · rw [decide_eq_true hy]
    refine ru_f (by decide) ?_
    refine ru_g _ (r0_m hW) ?_
    refine ru_b (i2 := 0) (j2 := 0) (xP_live_ok hW hR hz) ?_ rfl rfl
    rcases ql_or hz x with ⟨h1, h2⟩ | ⟨h1, h2, h3, h4, h5⟩
    · rw [h1, h2, if_neg (fun z => by cases z.1)]
      exact ru_g _ so_i_0 (ru_t rfl rfl)
    · rw [h1, h2, rf_s h3]
      have hd : cwd_ W (zq_e Z x) = true := by rw [hR.2.1]; exact h4
      have h6 := zk_K3 (Z := Z) (Or.inr h4)
      have h60 := hz.2.2.2.1
      by_cases h7 : zq_e Z x ≤ 60
      · rw [if_pos ⟨rfl, h7, hy⟩]
        obtain ⟨j, hj, rfl⟩ := nI_of (fun c => n_lt0.mp c hy.1)
        have hj4 : j < 4 := (nI_ltI hj (by decide)).mp (show nI j < nI 4 from hy.2)
        rw [nI_clamp hj]
        have hro := ro_at hW hd (by omega)
        refine ru_g _ (og_i1 hro (by simp)) ?_
        refine ru_f (by decide) ?_
        refine ru_g _ (og_k hro (by simp)) ?_
        refine ru_g _ (og_q (q := some (ad (20, zq_e Z x))) hro (by simp) rfl) ?_
        refine ru_g (rf_ ad (el_ (ze_ Z (zq_e Z x)) j)) ((og_lq (at_20 hW hd (by omega)) (by simp) hj4 (by decide)).trans (by rw [hR.2.2.1])) ?_
        refine ru_b (i2 := 0) (j2 := 0) (xP_ref_ok hW ?_) rfl rfl rfl
        exact RW_K hR ((hd0.1 _).2.1 j)
      · rw [if_neg (fun z => h7 z.2.1)]
        have hro := rp_at hW hd (by omega)
        refine ru_g _ (og_i0 hro (by simp) (by simp)) ?_
        exact ru_t rfl rfl
  · rw [decide_eq_false hy]
    have ez : (if zk_live Z (zq_e Z x) = true ∧ zq_e Z x ≤ 60 ∧ 0 ≤ y ∧ y < 4 then nI (el_ (ze_ Z (zq_e Z x)) y.toNatClampNeg) else 0) = 0 := if_neg (fun z => hy z.2.2)
    rw [ez]
    exact ru_t rfl rfl
theorem xP_resolved_ok (hW : CW gl fx ad W st) (hR : RW Z W 50) (hz : zw_n Z) (hd0 : zd_ (zk_K Z) Z) : xP_resolved gl (some (ad (0, 0))) x st = some (zq_resolved Z x, st, 0, 0) := by
  unfold xP_resolved zq_resolved xP_resolved_b33
  refine ru_g _ (r0_m hW) ?_
  refine ru_b (i2 := 0) (j2 := 0) (xP_live_ok hW hR hz) ?_ rfl rfl
  rcases ql_or hz x with ⟨h1, h2⟩ | ⟨h1, h2, h3, h4, h5⟩
  · rw [h1, h2, if_neg (fun z => by cases z.1)]
    exact ru_g _ so_i_0 (ru_t rfl rfl)
  · rw [h1, h2, rf_s h3]
    have hd : cwd_ W (zq_e Z x) = true := by rw [hR.2.1]; exact h4
    have h6 := zk_K3 (Z := Z) (Or.inr h4)
    have h60 := hz.2.2.2.1
    by_cases h7 : zq_e Z x ≤ 60
    · rw [if_neg (fun z => by have := z.2.1; omega)]
      have hro := ro_at hW hd (by omega)
      refine ru_g _ (og_i0 hro (by simp) (by simp)) ?_
      exact ru_t rfl rfl
    · have hro := rp_at hW hd (by omega)
      rw [hR.2.2.1] at hro
      refine ru_g _ (og_i1 hro (by simp)) ?_
      refine ru_f (by decide) ?_
      refine ru_g _ (og_k hro (by simp)) ?_
      refine ru_g _ (og_i hro (by simp) rfl) ?_
      have h8 : 100 < zq_e Z x := by omega
      cases hs : es_ (ze_ Z (zq_e Z x)) with
      | false => exact ru_f (by decide) (by rw [if_neg (fun z => by cases z.2.2)]; rfl)
      | true =>
        refine ru_t rfl ?_
        rw [if_pos ⟨rfl, h8, rfl⟩]
        refine ru_g (rf_ ad (et_ (ze_ Z (zq_e Z x)))) (og_q hro (by simp) (by rw [hs]; rfl)) ?_
        exact ru_b (i2 := 0) (j2 := 0) (xP_ref_ok hW (RW_K hR (hd0.1 _).1)) rfl rfl rfl
theorem xP_imported_ok (hW : CW gl fx ad W st) (hR : RW Z W 50) (hz : zw_n Z) (hv : v < zn_ Z) : xP_imported gl (some (ad (0, 0))) (nI v) x st = some (zq_imported Z v x, st, 0, 0) := by
  have h4 := hz.2.1
  unfold xP_imported zq_imported xP_imported_b27
  refine ru_g _ (r0_m hW) ?_
  refine ru_b (i2 := 0) (j2 := 0) (xP_made_ok hW hR hz) ?_ rfl rfl
  refine ru_g _ (r0_m hW) ?_
  refine ru_b (i2 := 0) (j2 := 0) (xP_isVat_y hW hR hz hv) ?_ rfl rfl
  refine ru_f (by decide) ?_
  by_cases h0 : zq_e Z x = 0
  · have hq := qe_0 hz h0
    have ez : (if zk_made Z (zq_e Z x) = true then Int32.ofInt (ei_ (ze_ Z (zq_e Z x)) v) else 0) = 0 := if_neg (by rw [hq]; decide)
    rw [ez, h0]
    exact ru_t rfl rfl
  · have hm := qe_made hz h0
    have hd : cwd_ W (zq_e Z x) = true := by rw [hR.2.1]; exact hm
    have ez : (if zk_made Z (zq_e Z x) = true then Int32.ofInt (ei_ (ze_ Z (zq_e Z x)) v) else 0) = Int32.ofInt (ei_ (ze_ Z (zq_e Z x)) v) := if_pos hm
    rw [ez, rf_s h0]
    refine ru_f (fun c => by cases c) ?_
    refine ru_g _ (re_i hW hd) ?_
    have hli := og_li (at_18 hW hd) (show v < 4 by omega) (by decide)
    rw [hR.2.2.1] at hli
    exact ru_g _ hli rfl
theorem xP_imported_n (hW : CW gl fx ad W st) (hR : RW Z W 50) (hz : zw_n Z) (hv : ∀ j, j < zn_ Z → y ≠ nI j) : xP_imported gl (some (ad (0, 0))) y x st = some (0, st, 0, 0) := by
  unfold xP_imported xP_imported_b27
  refine ru_g _ (r0_m hW) ?_
  refine ru_b (i2 := 0) (j2 := 0) (xP_made_ok hW hR hz) ?_ rfl rfl
  refine ru_g _ (r0_m hW) ?_
  refine ru_b (i2 := 0) (j2 := 0) (xP_isVat_n hW hR hz hv) ?_ rfl rfl
  exact ru_t rfl rfl
theorem xP_exported_ok (hW : CW gl fx ad W st) (hR : RW Z W 50) (hB : zB Z) (hv : v < zn_ Z) : xP_exported gl (some (ad (0, 0))) x (nI v) st = some (zq_exported Z x v, st, 0, 0) := by
  have hz := hB.1
  have h4 := hz.2.1
  unfold xP_exported zq_exported xP_exported_b27
  refine ru_g _ (r0_m hW) ?_
  refine ru_b (i2 := 0) (j2 := 0) (xP_live_ok hW hR hz) ?_ rfl rfl
  refine ru_g _ (r0_m hW) ?_
  refine ru_b (i2 := 0) (j2 := 0) (xP_isVat_y hW hR hz hv) ?_ rfl rfl
  refine ru_f (by decide) ?_
  rcases ql_or hz x with ⟨h1, h2⟩ | ⟨h1, h2, h3, h5, h6⟩
  · rw [h2]
    exact ru_t rfl (by rw [if_neg (fun z => by rw [h1] at z; cases z.1)]; rfl)
  · have hd : cwd_ W (zq_e Z x) = true := by rw [hR.2.1]; exact h5
    rw [h1, h2, rf_s h3]
    refine ru_f (fun c => by cases c) ?_
    refine ru_g _ (re_x hW hd) ?_
    have hli := og_li (at_17 hW hd) (show v < 4 by omega) (by decide)
    rw [hR.2.2.1] at hli
    refine ru_g _ hli ?_
    by_cases h7 : zh_ Z (zq_e Z x) = v
    · rw [if_neg (fun z => z.2 h7)]
      have := (hB.2.2.2.1.1 _ h5).2.2.2.2.1
      have h8 : eh_ (ze_ Z (zq_e Z x)) = v := h7
      rw [h8] at this
      rw [this]
      rfl
    · rw [if_pos ⟨rfl, h7⟩]
      rfl
theorem xP_exported_n (hW : CW gl fx ad W st) (hR : RW Z W 50) (hz : zw_n Z) (hv : ∀ j, j < zn_ Z → y ≠ nI j) : xP_exported gl (some (ad (0, 0))) x y st = some (0, st, 0, 0) := by
  unfold xP_exported xP_exported_b27
  refine ru_g _ (r0_m hW) ?_
  refine ru_b (i2 := 0) (j2 := 0) (xP_live_ok hW hR hz) ?_ rfl rfl
  refine ru_g _ (r0_m hW) ?_
  refine ru_b (i2 := 0) (j2 := 0) (xP_isVat_n hW hR hz hv) ?_ rfl rfl
  exact ru_t rfl rfl
theorem xP_output_ok (hW : CW gl fx ad W st) (hR : RW Z W 50) (hz : zw_n Z) (hv : v < zn_ Z) : xP_output gl (some (ad (0, 0))) (nI v) x st = some (zq_output Z v x, st, 0, 0) := by
  have h4 := hz.2.1
  have hn := RW_n hR
  unfold xP_output zq_output xP_output_b32
  refine ru_g _ (r0_m hW) ?_
  refine ru_b (i2 := 0) (j2 := 0) (xP_isVat_y hW hR hz hv) ?_ rfl rfl
  refine ru_f (by decide) ?_
  by_cases h0 : x < 0
  · exact ru_t h0 (by rw [if_neg (fun z => n_lt0.mp h0 z.1)]; rfl)
  · refine ru_f h0 ?_
    by_cases h10 : (10 : Int32) ≤ x
    · exact ru_t h10 (by rw [if_neg (fun z => Int32.not_lt.mpr h10 z.2)]; rfl)
    · refine ru_f h10 ?_
      have hx0 : 0 ≤ x := Classical.not_not.mp (fun q => h0 (n_lt0.mpr q))
      have hx1 : x < 10 := Int32.not_le.mp h10
      rw [if_pos ⟨hx0, hx1⟩]
      obtain ⟨j, hj, rfl⟩ := nI_of h0
      have hj10 : j < 10 := (nI_ltI hj (by decide)).mp (show nI j < nI 10 from hx1)
      rw [nI_clamp hj]
      refine ru_g _ (r0_0 hW) ?_
      refine ru_g _ (r1_l hW (by omega) (by omega)) ?_
      refine ru_g _ (r7_3 hW (by omega) (by omega)) ?_
      refine ru_g _ (og_li (at_10 hW ⟨by omega, by omega⟩) hj10 (by decide)) ?_
      rw [if_pos hj10, hR.2.2.2.1]
      rfl
theorem xP_output_n (hW : CW gl fx ad W st) (hR : RW Z W 50) (hz : zw_n Z) (hv : ∀ j, j < zn_ Z → y ≠ nI j) : xP_output gl (some (ad (0, 0))) y x st = some (0, st, 0, 0) := by
  unfold xP_output xP_output_b32
  refine ru_g _ (r0_m hW) ?_
  refine ru_b (i2 := 0) (j2 := 0) (xP_isVat_n hW hR hz hv) ?_ rfl rfl
  exact ru_t rfl rfl
end CQY
