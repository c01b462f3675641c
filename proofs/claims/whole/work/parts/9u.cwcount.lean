/-! The class's counts. -/
/-- what an entity is: 0 an object, 1 a promise, 2 a resolved one -/
def kd_ (Z : zz_S) (e : Nat) : Int32 := if e ≤ 100 then 0 else if es_ (ze_ Z e) = true then 2 else 1
/-- what an entity brings to a count -/
def si_ (Z : zz_S) (v : Nat) (x : Int32) (e : Nat) : Int :=
  if x = 3 then (if 0 < ei_ (ze_ Z e) v then 1 else 0) else if zh_ Z e = v then (if x = 4 then ((List.range' 0 16).map (uo_ (ze_ Z e) 1)).sum else if x = 5 then ((List.range' 0 16).map (uo_ (ze_ Z e) (-1))).sum else if x = 6 then (if 100 < e then (z_waits Z e : Int) else 0) else if eg_ (ze_ Z e) = false ∧ x = kd_ Z e then 1 else 0) else 0
section CCT
variable {gl : gl_T} {fx : fx_T} {ad : Nat × Nat → Nat} {W : cw_W} {st : st_S} {Z : zz_S} {v e : Nat} {x y : Int32}
theorem nI_oi (n : Nat) : nI n = Int32.ofInt (n : Int) := rfl
theorem xP_wait_ok (hW : CW gl fx ad W st) (hR : RW Z W 50) (hm : zk_made Z e = true) : xP_waitingAt gl (some (ad (16, e))) st = some (Int32.ofInt (if 100 < e then (z_waits Z e : Int) else 0), st, 0, 0) := by
  have hd : cwd_ W e = true := by rw [hR.2.1]; exact hm
  unfold xP_waitingAt
  by_cases h : 100 < e
  · have hro := rp_at hW hd h
    have hvl := cwv_p (W := W) h hd
    have hsz := cu_size hW hvl hR.2.2.2.2.2.2.2
    rw [len_L hR hvl (Or.inr h) (by omega)] at hsz
    have ez : (if 100 < e then (z_waits Z e : Int) else 0) = (z_waits Z e : Int) := if_pos h
    rw [ez]
    refine ru_g _ (og_i1 hro (by simp)) ?_
    refine ru_f (by decide) ?_
    refine ru_g _ (og_k hro (by simp)) ?_
    refine ru_g (some (ad (lk_ e))) ?_ ?_
    · rw [lk_p h]
      exact og_q (q := some (ad (20, e))) hro (by simp) rfl
    · refine ru_g _ (cu_lm hW hvl) ?_
      exact ru_b (i2 := 0) (j2 := 0) hsz rfl rfl rfl
  · have hro := ro_at hW hd (by omega)
    have ez : (if 100 < e then (z_waits Z e : Int) else 0) = 0 := if_neg h
    rw [ez]
    refine ru_g _ (og_i0 hro (by simp) (by simp)) ?_
    exact ru_t rfl rfl
theorem xP_kind_ok (hW : CW gl fx ad W st) (hR : RW Z W 50) (hm : zk_made Z e = true) : xP_kindOf gl (some (ad (16, e))) st = some (kd_ Z e, st, 0, 0) := by
  have hd : cwd_ W e = true := by rw [hR.2.1]; exact hm
  unfold xP_kindOf kd_
  by_cases h : e ≤ 100
  · have hro := ro_at hW hd h
    refine ru_g _ (og_i0 hro (by simp) (by simp)) ?_
    refine ru_t rfl ?_
    rw [if_pos h]
    rfl
  · have hro := rp_at hW hd (by omega)
    rw [hR.2.2.1] at hro
    refine ru_g _ (og_i1 hro (by simp)) ?_
    refine ru_f (by decide) ?_
    refine ru_g _ (og_k hro (by simp)) ?_
    refine ru_g _ (og_i hro (by simp) rfl) ?_
    cases es_ (ze_ Z e) with
    | false => exact ru_f (by decide) (by rw [if_neg h]; rfl)
    | true => exact ru_t rfl (by rw [if_neg h]; rfl)
theorem xP_share_ok (hW : CW gl fx ad W st) (hR : RW Z W 50) (hz : zw_n Z) (hH : zH Z) (hx : zx_b Z 1000000) (hv : v < zn_ Z) (hm : zk_made Z e = true) : xP_shareInCount gl (some (ad (16, e))) (nI v) x st = some (Int32.ofInt (si_ Z v x e), st, 0, 0) := by
  have h4 := hz.2.1
  have hd : cwd_ W e = true := by rw [hR.2.1]; exact hm
  have hE : cwe_ W e = ze_ Z e := by rw [hR.2.2.1]
  have hb := hx e (zk_K2 hz (Or.inr hm))
  have hhn := hH e hm
  unfold xP_shareInCount
  by_cases h3 : x = 3
  · have ez : si_ Z v x e = if 0 < ei_ (ze_ Z e) v then 1 else 0 := if_pos h3
    refine ru_t h3 ?_
    have hli := og_li (at_18 hW hd) (show v < 4 by omega) (by decide)
    rw [hE] at hli
    have hb2 := hb.1 v (by omega)
    refine ru_g _ (re_i hW hd) (ru_g _ hli ?_)
    by_cases hle : ei_ (ze_ Z e) v ≤ 0
    · exact ru_t ((oi_le0 hb2.2.2.1 hb2.2.2.2).mpr hle) (by rw [ez, if_neg (by omega)]; rfl)
    · exact ru_f (fun z => hle ((oi_le0 hb2.2.2.1 hb2.2.2.2).mp z)) (by rw [ez, if_pos (by omega)]; rfl)
  · refine ru_f h3 ?_
    have hh := re_h hW hd
    rw [hE] at hh
    refine ru_g _ hh ?_
    by_cases hhv : zh_ Z e = v
    · refine ru_t (by show nI (zh_ Z e) = nI v; rw [hhv]) ?_
      have e1 : si_ Z v x e = if x = 4 then ((List.range' 0 16).map (uo_ (ze_ Z e) 1)).sum else if x = 5 then ((List.range' 0 16).map (uo_ (ze_ Z e) (-1))).sum else if x = 6 then (if 100 < e then (z_waits Z e : Int) else 0) else if eg_ (ze_ Z e) = false ∧ x = kd_ Z e then 1 else 0 := (if_neg h3).trans (if_pos hhv)
      rw [e1]
      have hy : ∀ a b, a < 4 → b < 4 → -1000000 < eo_ (cwe_ W e) a b ∧ eo_ (cwe_ W e) a b < 1000000 := fun a b ha hb4 => by
        rw [hE]
        exact hb.2 a b ha hb4
      by_cases x4 : x = 4
      · refine ru_t x4 ?_
        rw [if_pos x4]
        have := xE_unp_ok (z := 1) (Or.inl rfl) rfl hW hd hy
        rw [hE] at this
        have hcm : so_cm (some (ad (16, e))) [3, 4] st = so_cm (some (ad (16, e))) [3, 4] st := rfl
        obtain ⟨ci, fs, k1, k2, -⟩ := he_any (ad := ad) (W := W) (e := e)
        refine ru_g _ (og_m ((at_16 hW hd).trans (by rw [k1])) k2) ?_
        exact ru_b (i2 := 0) (j2 := 0) this rfl rfl rfl
      · refine ru_f x4 ?_
        rw [if_neg x4]
        by_cases x5 : x = 5
        · refine ru_t x5 ?_
          rw [if_pos x5]
          have := xE_unp_ok (z := -1) (Or.inr rfl) rfl hW hd hy
          rw [hE] at this
          obtain ⟨ci, fs, k1, k2, -⟩ := he_any (ad := ad) (W := W) (e := e)
          refine ru_g _ (og_m ((at_16 hW hd).trans (by rw [k1])) k2) ?_
          exact ru_b (i2 := 0) (j2 := 0) this rfl rfl rfl
        · refine ru_f x5 ?_
          rw [if_neg x5]
          by_cases x6 : x = 6
          · refine ru_t x6 ?_
            rw [if_pos x6]
            exact ru_b (i2 := 0) (j2 := 0) (xP_wait_ok hW hR hm) rfl rfl rfl
          · refine ru_f x6 ?_
            rw [if_neg x6]
            have hg := re_g hW hd
            rw [hE] at hg
            refine ru_g _ hg ?_
            unfold xP_shareInCount_b92
            cases eg_ (ze_ Z e) with
            | true => exact ru_f (by decide) (by rw [if_neg (fun z => by cases z.1)]; rfl)
            | false =>
              refine ru_t rfl ?_
              refine ru_b (i2 := 0) (j2 := 0) (xP_kind_ok hW hR hm) ?_ rfl rfl
              by_cases hk : x = kd_ Z e
              · exact ru_t hk (by rw [if_pos ⟨rfl, hk⟩]; rfl)
              · exact ru_f hk (by rw [if_neg (fun z => hk z.2)]; rfl)
    · refine ru_f (fun z => hhv ((nI_eq (show zh_ Z e < _ by omega) (by omega)).mp z)) ?_
      have e1 : si_ Z v x e = 0 := (if_neg h3).trans (if_neg hhv)
      rw [e1]
      rfl
/-- what is not made brings nothing -/
theorem si_0 (hd : zd_ (zk_K Z) Z) (e1 : 1 ≤ e) (hm : zk_made Z e ≠ true) (hx : x = 3 ∨ x = 4 ∨ x = 5 ∨ x = 6) : si_ Z v x e = 0 := by
  have h0 := hd.2.1 e (Or.inr (fun z => z.elim (by omega) hm))
  unfold si_
  rw [h0]
  rcases hx with rfl | rfl | rfl | rfl
  · rfl
  · split
    · exact absurd ‹(4 : Int32) = 3› (by decide)
    · split
      · rfl
      · rfl
  · split
    · exact absurd ‹(5 : Int32) = 3› (by decide)
    · split
      · rfl
      · rfl
  · have : (if 100 < e then (z_waits Z e : Int) else 0) = 0 := by
      by_cases h100 : 100 < e
      · have h0 : z_waits Z e = 0 := by
          refine Classical.byContradiction (fun c => ?_)
          obtain ⟨r, hr, hr1⟩ := waits_mem c
          have k := hd.2.2.1 r hr
          rcases k.2.2.2 with k2 | k2
          · omega
          · rcases k.1 with k1 | k1
            · omega
            · rw [k2.2, hr1] at k1
              exact hm k1
        rw [if_pos h100, h0]
        rfl
      · exact if_neg h100
    rw [this]
    split
    · exact absurd ‹(6 : Int32) = 3› (by decide)
    · split
      · rw [if_neg (by decide), if_neg (by decide), if_pos rfl]
      · rfl
theorem xP_count_it (hW : CW gl fx ad W st) (hR : RW Z W 50) (hz : zw_n Z) (hH : zH Z) (hx : zx_b Z 1000000) (hv : v < zn_ Z) {s : Nat → Int} (hs1 : ∀ e, zk_made Z e = true → s e = si_ Z v x e) (hs0 : ∀ e, 1 ≤ e → zk_made Z e ≠ true → s e = 0) : ∀ (d i fuel : Nat) (c : Int), 201 - i = d → 1 ≤ i → i ≤ 201 → d < fuel →
    st_it (fun rec31 => (fun x : Option Nat × Int32 × Int32 × Int32 × Int32 => xP_count_b31 gl rec31 x.1 x.2.1 x.2.2.1 x.2.2.2.1 x.2.2.2.2)) fuel (some (ad (0, 0)), nI v, x, Int32.ofInt c, nI i) st = some (Int32.ofInt (c + ((List.range' i d).map s).sum), st, 0, 0) := by
  intro d
  induction d with
  | zero =>
    intro i fuel c hd0 h1 hi hf
    obtain ⟨m, rfl⟩ : ∃ m, fuel = m + 1 := ⟨fuel - 1, by omega⟩
    show xP_count_b31 gl _ (some (ad (0, 0))) (nI v) x (Int32.ofInt c) (nI i) st = _
    unfold xP_count_b31
    refine ru_g _ (r0_2 hW) (ru_g _ (r3_n hW) ?_)
    refine ru_t (nI_le (by omega) (by omega)) ?_
    show some (Int32.ofInt c, st, 0, 0) = some (Int32.ofInt (c + 0), st, 0, 0)
    rw [Int.add_zero]
  | succ d ih =>
    intro i fuel c hd0 h1 hi hf
    obtain ⟨m, rfl⟩ : ∃ m, fuel = m + 1 := ⟨fuel - 1, by omega⟩
    have e1 : c + ((List.range' i (d + 1)).map s).sum = (c + s i) + ((List.range' (i + 1) d).map s).sum := by
      rw [List.range'_succ, List.map_cons, List.sum_cons]
      omega
    have hih := ih (i + 1) m (c + s i) (by omega) (by omega) (by omega) (by omega)
    rw [e1]
    show xP_count_b31 gl _ (some (ad (0, 0))) (nI v) x (Int32.ofInt c) (nI i) st = _
    unfold xP_count_b31 xP_count_b66
    refine ru_g _ (r0_2 hW) (ru_g _ (r3_n hW) ?_)
    refine ru_f (nI_ge (by omega) (by decide)) ?_
    refine ru_g _ (r0_2 hW) (ru_g _ (r3_l hW (by omega)) ?_)
    by_cases hm : zk_made Z i = true
    · have hd : cwd_ W i = true := by rw [hR.2.1]; exact hm
      rw [if_pos hd]
      refine ru_f (fun z => by cases z) ?_
      refine ru_g _ (r0_2 hW) (ru_g _ (r3_l hW (by omega)) ?_)
      rw [if_pos hd]
      refine ru_b (i2 := 0) (j2 := 0) (xP_share_ok hW hR hz hH hx hv hm) ?_ rfl rfl
      rw [nI_1, oi_add, ← hs1 i hm]
      exact hih
    · have hd : cwd_ W i ≠ true := by rw [hR.2.1]; exact hm
      rw [if_neg hd]
      refine ru_t rfl ?_
      rw [nI_1]
      rw [hs0 i h1 hm, Int.add_zero] at hih ⊢
      exact hih
/-! the sums against the counts -/
theorem si_k {k : Nat} (hk : k < 4) (hz : zw_n Z) (hm : zk_made Z e = true) : si_ Z v (nI k) e = if zq_c Z v k e = true then 1 else 0 := by
  have h3 := zk_K3 (Z := Z) (Or.inr hm)
  have h60 := hz.2.2.2.1
  have h0 := made_n0 hm
  unfold si_ zq_c
  by_cases k3 : k = 3
  · subst k3
    rw [if_pos (show nI 3 = (3 : Int32) from rfl), if_pos rfl]
    simp
  · have e3 : ¬ nI k = (3 : Int32) := fun z => k3 ((nI_eq (by omega) (by decide)).mp (z : nI k = nI 3))
    rw [if_neg e3, if_neg k3]
    have e4 : ¬ nI k = (4 : Int32) := fun z => by have h9 : k = 4 := (nI_eq (by omega) (by decide)).mp (z : nI k = nI 4); omega
    have e5 : ¬ nI k = (5 : Int32) := fun z => by have h9 : k = 5 := (nI_eq (by omega) (by decide)).mp (z : nI k = nI 5); omega
    have e6 : ¬ nI k = (6 : Int32) := fun z => by have h9 : k = 6 := (nI_eq (by omega) (by decide)).mp (z : nI k = nI 6); omega
    rw [if_neg e4, if_neg e5, if_neg e6]
    have hkd : (nI k = kd_ Z e) ↔ ((k = 0 ∧ e ≤ 60) ∨ (k = 1 ∧ 100 < e ∧ es_ (ze_ Z e) = false) ∨ (k = 2 ∧ 100 < e ∧ es_ (ze_ Z e) = true)) := by
      unfold kd_
      by_cases h : e ≤ 100
      · rw [if_pos h]
        constructor
        · intro z
          have := (nI_eq (by omega) (by decide)).mp (z : nI k = nI 0)
          exact Or.inl ⟨this, by omega⟩
        · rintro (⟨z, -⟩ | ⟨-, z, -⟩ | ⟨-, z, -⟩)
          · rw [z]
            rfl
          · omega
          · omega
      · rw [if_neg h]
        cases es_ (ze_ Z e) with
        | false =>
          rw [if_neg (by decide)]
          constructor
          · intro z
            have := (nI_eq (by omega) (by decide)).mp (z : nI k = nI 1)
            exact Or.inr (Or.inl ⟨this, by omega, rfl⟩)
          · rintro (⟨-, z⟩ | ⟨z, -⟩ | ⟨-, -, z⟩)
            · omega
            · rw [z]
              rfl
            · cases z
        | true =>
          rw [if_pos rfl]
          constructor
          · intro z
            have := (nI_eq (by omega) (by decide)).mp (z : nI k = nI 2)
            exact Or.inr (Or.inr ⟨this, by omega, rfl⟩)
          · rintro (⟨-, z⟩ | ⟨-, -, z⟩ | ⟨z, -⟩)
            · omega
            · cases z
            · rw [z]
              rfl
    have hb : (zk_live Z e && decide (zh_ Z e = v) && ((decide (k = 0) && decide (e ≤ 60)) || (decide (k = 1) && decide (100 < e) && !es_ (ze_ Z e)) || (decide (k = 2) && decide (100 < e) && es_ (ze_ Z e)))) = true ↔ (zh_ Z e = v ∧ eg_ (ze_ Z e) = false ∧ nI k = kd_ Z e) := by
      rw [hkd]
      unfold zk_live
      rw [hm]
      simp only [Bool.and_eq_true, Bool.or_eq_true, decide_eq_true_eq, Bool.not_eq_true', Bool.true_and, and_assoc, or_assoc]
      constructor
      · rintro ⟨a, b, c⟩
        exact ⟨b, a, c⟩
      · rintro ⟨a, b, c⟩
        exact ⟨b, a, c⟩
    by_cases hhv : zh_ Z e = v
    · rw [if_pos hhv]
      by_cases c : eg_ (ze_ Z e) = false ∧ nI k = kd_ Z e
      · rw [if_pos c, if_pos (hb.mpr ⟨hhv, c⟩)]
      · rw [if_neg c, if_neg (fun z => c (hb.mp z).2)]
    · rw [if_neg hhv, if_neg (fun z => hhv (hb.mp z).1)]
theorem sum_if {p : Nat → Bool} : ∀ (l : List Nat), (l.map (fun e => if p e = true then (1 : Int) else 0)).sum = ((l.filter p).length : Int)
  | [] => rfl
  | a :: l => by
    rw [List.map_cons, List.sum_cons, sum_if l, List.filter_cons]
    split
    · rw [List.length_cons]
      omega
    · omega
theorem sum_16 {g : Nat → Int} : ∀ (n i : Nat), ((List.range' (16 * i) (16 * n)).map g).sum = ((List.range' i n).map (fun e => ((List.range' (16 * e) 16).map g).sum)).sum
  | 0, i => rfl
  | n + 1, i => by
    rw [show 16 * (n + 1) = 16 + 16 * n by omega, ← List.range'_append_1, List.map_append, List.sum_append, show 16 * i + 16 = 16 * (i + 1) by omega, sum_16 n (i + 1), show List.range' i (n + 1) = i :: List.range' (i + 1) n from List.range'_succ, List.map_cons, List.sum_cons]
theorem sum_o {s : Int} : ((List.range' (16 * e) 16).map (zq_o Z v s)).sum = if zh_ Z e = v then ((List.range' 0 16).map (uo_ (ze_ Z e) s)).sum else 0 := by
  have h1 : ∀ q, q < 16 → zq_o Z v s (16 * e + q) = if zh_ Z e = v then uo_ (ze_ Z e) s q else 0 := by
    intro q hq
    unfold zq_o uo_
    rw [show (16 * e + q) / 16 = e by omega, show (16 * e + q) / 4 % 4 = q / 4 by omega, show (16 * e + q) % 4 = q % 4 by omega]
    by_cases h : zh_ Z e = v
    · rw [if_pos h]
      by_cases h2 : 0 < s * eo_ (ze_ Z e) (q / 4) (q % 4)
      · rw [if_pos ⟨h, h2⟩, if_pos h2]
      · rw [if_neg (fun z => h2 z.2), if_neg h2]
    · rw [if_neg h, if_neg (fun z => h z.1)]
  have h2 : List.range' (16 * e) 16 = (List.range' 0 16).map (fun q => 16 * e + q) := by
    rw [List.map_add_range']
    rfl
  rw [h2, List.map_map]
  have h3 : (List.range' 0 16).map ((zq_o Z v s) ∘ fun q => 16 * e + q) = (List.range' 0 16).map (fun q => if zh_ Z e = v then uo_ (ze_ Z e) s q else 0) := by
    refine List.map_congr_left (fun q hq => ?_)
    have := (List.mem_range'_1.mp hq).2
    exact h1 q (by omega)
  rw [h3]
  by_cases h : zh_ Z e = v
  · rw [if_pos h]
    simp only [if_pos h]
  · rw [if_neg h]
    simp only [if_neg h]
    rfl
theorem sum_zero : ∀ (l : List Nat), (l.map (fun _ => (0 : Int))).sum = 0
  | [] => rfl
  | y :: l => by
    rw [List.map_cons, List.sum_cons, sum_zero l]
    rfl
theorem sum_one {a : Nat} {p : Nat → Prop} [DecidablePred p] : ∀ (l : List Nat), l.Nodup → (p a → a ∈ l) → (l.map (fun e => if p e ∧ e = a then (1 : Int) else 0)).sum = if p a then 1 else 0
  | [], _, h => by
    by_cases c : p a
    · cases h c
    · rw [if_neg c]
      rfl
  | b :: l, hn, h => by
    obtain ⟨n1, n2⟩ := List.nodup_cons.mp hn
    rw [List.map_cons, List.sum_cons]
    by_cases c : p b ∧ b = a
    · obtain ⟨c1, rfl⟩ := c
      have : (l.map (fun e => if p e ∧ e = b then (1 : Int) else 0)).sum = 0 := by
        have : l.map (fun e => if p e ∧ e = b then (1 : Int) else 0) = l.map (fun _ => (0 : Int)) := List.map_congr_left (fun e he => if_neg (fun z => n1 (by rw [← z.2]; exact he)))
        rw [this]
        exact sum_zero l
      rw [this, if_pos ⟨c1, rfl⟩, if_pos c1]
      rfl
    · rw [if_neg c, sum_one l n2 (fun z => ((List.mem_cons.mp (h z)).resolve_left (fun y => c ⟨by rw [← y]; exact z, y.symm⟩))), Int.zero_add]
theorem sum_w {p : Nat → Prop} [DecidablePred p] {l : List Nat} (hl : l.Nodup) : ∀ (L : List zr_R), (∀ r ∈ L, p r.1 → r.1 ∈ l) → (l.map (fun e => if p e then ((L.filter (fun r => r.1 == e)).length : Int) else 0)).sum = ((L.filter (fun r => decide (p r.1))).length : Int)
  | [], _ => by
    have : l.map (fun e => if p e then ((([] : List zr_R).filter (fun r => r.1 == e)).length : Int) else 0) = l.map (fun _ => (0 : Int)) := List.map_congr_left (fun e he => by split <;> rfl)
    rw [this]
    exact sum_zero l
  | r :: L, h => by
    have ih := sum_w hl L (fun x hx => h x (List.mem_cons_of_mem _ hx))
    have h1 := sum_one (p := p) (a := r.1) l hl (h r List.mem_cons_self)
    have h2 : l.map (fun e => if p e then (((r :: L).filter (fun r => r.1 == e)).length : Int) else 0) = l.map (fun e => (if p e ∧ e = r.1 then (1 : Int) else 0) + (if p e then ((L.filter (fun r => r.1 == e)).length : Int) else 0)) := by
      refine List.map_congr_left (fun e he => ?_)
      by_cases c : p e
      · rw [if_pos c, if_pos c, List.filter_cons]
        by_cases c2 : e = r.1
        · rw [if_pos (show p e ∧ e = r.1 from ⟨c, c2⟩), if_pos (show (r.1 == e) = true by simp [c2]), List.length_cons]
          omega
        · rw [if_neg (show ¬ (p e ∧ e = r.1) from fun z => c2 z.2), if_neg (show ¬ (r.1 == e) = true by simp; exact fun z => c2 z.symm)]
          omega
      · rw [if_neg c, if_neg c, if_neg (fun z => c z.1)]
        rfl
    have h3 : ∀ (m : List Nat) (f g : Nat → Int), (m.map (fun e => f e + g e)).sum = (m.map f).sum + (m.map g).sum := by
      intro m f g
      induction m with
      | nil => rfl
      | cons y m ihm =>
        rw [List.map_cons, List.sum_cons, List.map_cons, List.sum_cons, List.map_cons, List.sum_cons, ihm]
        omega
    rw [h2, h3, h1, ih, List.filter_cons]
    by_cases c : p r.1
    · rw [if_pos c, if_pos (decide_eq_true c), List.length_cons]
      omega
    · rw [if_neg c, if_neg (by simp [c])]
      omega
theorem xP_count_ok (hW : CW gl fx ad W st) (hR : RW Z W 50) (hz : zw_n Z) (hd : zd_ (zk_K Z) Z) (hw : zk_w Z) (hH : zH Z) (hx : zx_b Z 1000000) (hv : v < zn_ Z) {k : Nat} (hk : k < 8) : xP_count gl (some (ad (0, 0))) (nI v) (nI k) st = some (zq_count Z v k, st, 0, 0) := by
  have h4 := hz.2.1
  have hn := RW_n hR
  have front : ∀ z, (if nI k = (7 : Int32) then
  (st_g (so_gq (some (ad (0, 0))) [0] 0) fun t9 =>
  st_g (so_lq t9 [4] (nI v)) fun t10 =>
  st_g (so_gi t10 [5] 4) fun t11 =>
  st_r t11)
  else
  (st_it (fun rec31 => (fun x : Option Nat × Int32 × Int32 × Int32 × Int32 => xP_count_b31 gl rec31 x.1 x.2.1 x.2.2.1 x.2.2.2.1 x.2.2.2.2)) fu_ (some (ad (0, 0)), nI v, nI k, (0 : Int32), (1 : Int32)))) st = some z → xP_count gl (some (ad (0, 0))) (nI v) (nI k) st = some z := by
    intro z h
    unfold xP_count
    refine ru_g _ (r0_m hW) ?_
    obtain ⟨r, st2, i, j⟩ := z
    refine ru_b (i2 := i) (j2 := j) (xP_isVat_y hW hR hz hv) ?_ (by omega) (by omega)
    exact ru_f (by decide) h
  by_cases k7 : k = 7
  · subst k7
    refine front _ (ru_t rfl ?_)
    refine ru_g _ (r0_0 hW) ?_
    refine ru_g _ (r1_l hW (by omega) (by omega)) ?_
    refine ru_g _ (r7_4 hW (by omega) (by omega)) ?_
    rw [hR.2.2.2.1]
    rfl
  · refine front _ (ru_f (fun z => k7 ((nI_eq (by omega) (by decide)).mp (z : nI k = nI 7))) ?_)
    have go : ∀ {s : Nat → Int}, (∀ e, zk_made Z e = true → s e = si_ Z v (nI k) e) → (∀ e, 1 ≤ e → zk_made Z e ≠ true → s e = 0) → zq_count Z v k = Int32.ofInt ((List.range' 1 200).map s).sum → st_it (fun rec31 => (fun x : Option Nat × Int32 × Int32 × Int32 × Int32 => xP_count_b31 gl rec31 x.1 x.2.1 x.2.2.1 x.2.2.2.1 x.2.2.2.2)) fu_ (some (ad (0, 0)), nI v, nI k, (0 : Int32), (1 : Int32)) st = some (zq_count Z v k, st, 0, 0) := by
      intro s h1 h0 he
      have := xP_count_it hW hR hz hH hx hv h1 h0 200 1 fu_ 0 rfl (by omega) (by omega) (by unfold fu_; omega)
      rw [Int.zero_add, ← he] at this
      exact this
    by_cases k3 : k < 4
    · refine go (s := fun e => if zq_c Z v k e = true then 1 else 0) (fun e he => (si_k k3 hz he).symm) (fun e h1 he => if_neg (fun z => ?_)) ?_
      · have h0 := hd.2.1 e (Or.inr (fun z => z.elim (by omega) he))
        unfold zq_c zk_live at z
        rw [h0] at z
        have he2 : zk_made Z e = false := by simpa using he
        rw [he2] at z
        split at z
        · exact absurd (of_decide_eq_true z) (show ¬ (0 : Int) < 0 by decide)
        · simp at z
      · unfold zq_count
        rw [if_pos k3, sum_if, nI_oi]
    · have hs0 : ∀ e, 1 ≤ e → zk_made Z e ≠ true → si_ Z v (nI k) e = 0 := fun e h1 he => si_0 hd h1 he (by
        have : k = 4 ∨ k = 5 ∨ k = 6 := by omega
        rcases this with rfl | rfl | rfl
        · exact Or.inr (Or.inl rfl)
        · exact Or.inr (Or.inr (Or.inl rfl))
        · exact Or.inr (Or.inr (Or.inr rfl)))
      refine go (s := si_ Z v (nI k)) (fun e _ => rfl) hs0 ?_
      have : k = 4 ∨ k = 5 ∨ k = 6 := by omega
      rcases this with rfl | rfl | rfl
      · show Int32.ofInt ((List.range' 16 3200).map (zq_o Z v 1)).sum = _
        rw [show List.range' 16 3200 = List.range' (16 * 1) (16 * 200) from rfl, sum_16]
        congr 2
        refine List.map_congr_left (fun e he => ?_)
        rw [sum_o]
        rfl
      · show Int32.ofInt ((List.range' 16 3200).map (zq_o Z v (-1))).sum = _
        rw [show List.range' 16 3200 = List.range' (16 * 1) (16 * 200) from rfl, sum_16]
        congr 2
        refine List.map_congr_left (fun e he => ?_)
        rw [sum_o]
        rfl
      · show nI ((zr_ Z).filter (fun r => decide (100 < r.1) && decide (zh_ Z r.1 = v))).length = _
        have hsw := sum_w (p := fun e => 100 < e ∧ zh_ Z e = v) (l := List.range' 1 200) (List.nodup_range') (zr_ Z) (fun r hr hp => List.mem_range'_1.mpr ⟨by omega, by have := (hw.2.1 r hr).1; omega⟩)
        have e1 : (zr_ Z).filter (fun r => decide (100 < r.1) && decide (zh_ Z r.1 = v)) = (zr_ Z).filter (fun r => decide (100 < r.1 ∧ zh_ Z r.1 = v)) := List.filter_congr (fun r _ => by
          rw [Bool.eq_iff_iff]
          simp)
        rw [e1, nI_oi, ← hsw]
        refine congrArg (fun l : List Int => Int32.ofInt l.sum) ?_
        refine List.map_congr_left (fun e he => ?_)
        show _ = if zh_ Z e = v then (if 100 < e then (z_waits Z e : Int) else 0) else 0
        by_cases c : zh_ Z e = v
        · rw [if_pos c]
          by_cases c2 : 100 < e
          · rw [if_pos c2, if_pos ⟨c2, c⟩]
            rfl
          · rw [if_neg c2, if_neg (fun z => c2 z.1)]
        · rw [if_neg c, if_neg (fun z => c z.2)]
theorem xP_count_n (hW : CW gl fx ad W st) (hR : RW Z W 50) (hz : zw_n Z) (hH : zH Z) (hx : zx_b Z 1000000) (h : (∀ j, j < zn_ Z → y ≠ nI j) ∨ ((∃ j, j < zn_ Z ∧ y = nI j) ∧ (x < 0 ∨ nI 8 ≤ x))) : xP_count gl (some (ad (0, 0))) y x st = some (0, st, 0, 0) := by
  unfold xP_count
  refine ru_g _ (r0_m hW) ?_
  rcases h with h | ⟨⟨v, hv, rfl⟩, h⟩
  · refine ru_b (i2 := 0) (j2 := 0) (xP_isVat_n hW hR hz h) ?_ rfl rfl
    exact ru_t rfl rfl
  · refine ru_b (i2 := 0) (j2 := 0) (xP_isVat_y hW hR hz hv) ?_ rfl rfl
    refine ru_f (by decide) ?_
    have hne : ∀ j, j < 8 → x ≠ nI j := fun j hj c => by
      rw [c] at h
      rcases h with h | h
      · exact n_lt0.mp h (nI_pos' (by omega))
      · exact nI_ge hj (by decide) h
    refine ru_f (hne 7 (by decide)) ?_
    have hkd : ∀ e, x ≠ kd_ Z e := fun e => by
      unfold kd_
      split
      · exact hne 0 (by decide)
      · split
        · exact hne 2 (by decide)
        · exact hne 1 (by decide)
    have := xP_count_it (x := x) (s := fun _ => 0) hW hR hz hH hx hv (fun e he => by
      unfold si_
      rw [if_neg (show ¬ x = (3 : Int32) from hne 3 (by decide)), if_neg (show ¬ x = (4 : Int32) from hne 4 (by decide)), if_neg (show ¬ x = (5 : Int32) from hne 5 (by decide)), if_neg (show ¬ x = (6 : Int32) from hne 6 (by decide)), if_neg (show ¬ (eg_ (ze_ Z e) = false ∧ x = kd_ Z e) from fun z => hkd e z.2)]
      split <;> rfl) (fun _ _ _ => rfl) 200 1 fu_ 0 rfl (by omega) (by omega) (by unfold fu_; omega)
    have e0 : (0 : Int) + ((List.range' 1 200).map (fun _ => (0 : Int))).sum = 0 := by
      rw [Int.zero_add]
      exact sum_zero _
    rw [e0] at this
    exact this
end CCT
