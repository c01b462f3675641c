/-! The reference's mourn. -/
theorem nd_len : ∀ (n : Nat) (l : List Nat), l.Nodup → (∀ q ∈ l, 100 < q ∧ q ≤ 100 + n) → l.length ≤ n
  | 0, l, _, h => by
    cases l with
    | nil => exact Nat.le_refl _
    | cons q l =>
      have := h q List.mem_cons_self
      omega
  | n + 1, l, hn, h => by
    have h2 : ∀ q ∈ l.erase (100 + (n + 1)), 100 < q ∧ q ≤ 100 + n := by
      intro q hq
      obtain ⟨b1, b2⟩ := (List.Nodup.mem_erase_iff hn).mp hq
      have := h q b2
      omega
    have ih := nd_len n _ (hn.erase _) h2
    rw [List.length_erase] at ih
    split at ih <;> omega
/-- answers under way and lost ones: each once, each a promise -/
def za_ok (Z : zz_S) (full : List Nat) : Prop := (full ++ za_ Z).Nodup ∧ ∀ q ∈ full ++ za_ Z, 100 < q ∧ q ≤ 200
section RMP
variable {Z Z' : zz_S} {M M' : ms_S} {full lost : List Nat} {w p : Nat} {l : List Nat}
theorem za_okp {X : zz_S} {f : List Nat} (h : za_ok Z full) (hp : (f ++ za_ X).Perm (full ++ za_ Z)) : za_ok X f := ⟨hp.nodup_iff.mpr h.1, fun q hq => h.2 q (hp.mem_iff.mp hq)⟩
theorem za_r_len : ∀ (m : List zr_R), (za_r m).length + (m.filter (fun r => r.2.2.2.2 == 0)).length = m.length
  | [] => rfl
  | r :: m => by
    have ih := za_r_len m
    have e1 : za_r (r :: m) = za_1 r.2.2.2.2 ++ za_r m := by rw [← za_r1, ← za_ra]; rfl
    rw [e1, List.length_append, List.length_cons]
    unfold za_1
    by_cases h : 0 < r.2.2.2.2
    · rw [if_pos h, List.filter_cons_of_neg (by simp; omega)]
      simp
      omega
    · rw [if_neg h, List.filter_cons_of_pos (by simp; omega), List.length_cons]
      simp
      omega
theorem za_len (h : za_ok Z full) : full.length + (za_r (zr_ Z)).length ≤ 100 := by
  have hs : (full ++ za_r (zr_ Z)).Sublist (full ++ za_ Z) := List.Sublist.append_left (List.sublist_append_left _ _) _
  have := nd_len 100 _ (h.1.sublist hs) (fun q hq => h.2 q (hs.subset hq))
  rw [List.length_append] at this
  exact this
theorem zr_len (h : za_ok Z full) (hk : zk_w Z) : (zr_ Z).length ≤ 180 := by
  have h1 := za_len h
  have h2 := za_r_len (zr_ Z)
  have h3 := hk.2.2.2.2.2
  omega
theorem za_waits (h : za_ok Z full) (hk : zk_w Z) (hp : 100 < p) : full.length + z_waits Z p ≤ 100 := by
  have h1 := za_len h
  have h2 := za_r_len ((zr_ Z).filter (fun r => r.1 == p))
  have h3 : (((zr_ Z).filter (fun r => r.1 == p)).filter (fun r => r.2.2.2.2 == 0)) = [] := by
    rw [List.filter_eq_nil_iff]
    intro r hr
    obtain ⟨b1, b2⟩ := List.mem_filter.mp hr
    have b3 : r.1 = p := by simpa using b2
    have := hk.2.2.2.1 r b1 (by omega)
    simp
    omega
  have h4 : (za_r ((zr_ Z).filter (fun r => r.1 == p))).length ≤ (za_r (zr_ Z)).length := List.Sublist.length_le (List.Sublist.filter _ (List.Sublist.map _ List.filter_sublist))
  rw [h3, List.length_nil] at h2
  unfold z_waits
  omega
theorem zphi_waits (hk : zk_w Z) (hp : 100 < p) : (zl_ Z).length + 4 * z_waits Z p ≤ zphi_n l Z := by
  have h1 := zc_fold hp (zr_ Z) hk.2.2.2.1
  have h2 := zphi_l (Z := Z)
  unfold zphi_n z_waits
  omega
theorem pm_mourn_it (hw : w < 4) : ∀ (k i fuel : Nat) (Z : zz_S) (M : ms_S) (full : List Nat), i + k = 101 → k < fuel → i ≤ full.length → ri_ Z M → rx_ full M → zk_w Z → za_ok Z full → zphi_n l Z + 2 * (full.length - i) ≤ 2090 →
    ∃ M', pt_ (fun rec2 => (fun x : Int32 × Int32 => pm_mourn_b2 rec2 x.1 x.2)) fuel (nI w, nI i) M = some ((), M') ∧ rm_ (z_mourn w k Z (full.drop i)) M' := by
  intro k
  induction k with
  | zero =>
    intro i fuel Z M full hi hf hl h hx hk ha hph
    have := hx.2.1
    omega
  | succ k ih =>
    intro i fuel Z M full hi hf hl h hx hk ha hph
    obtain ⟨m, rfl⟩ : ∃ m, fuel = m + 1 := ⟨fuel - 1, by omega⟩
    have h100 := hx.2.1
    by_cases hil : i = full.length
    · refine ⟨pu_s M 30 0, ?_, ?_⟩
      · show pm_mourn_b2 _ (nI w) (nI i) M = _
        unfold pm_mourn_b2
        refine pn_g _ rfl ?_
        rw [hx.1]
        refine pn_t (nI_le (by omega) (by omega)) ?_
        exact pn_w _ rfl rfl
      · rw [List.drop_eq_nil_of_le (by omega)]
        unfold z_mourn
        obtain ⟨h1, h2, h3, h4, h5, h6⟩ := h
        exact ⟨fr_n h1 rfl (ps_n (by decide)) (ps_n (by decide)) (ps_n (by decide)), h2, h3, fr_r h4 rfl (ps_n (by decide)) rfl rfl rfl rfl rfl, fr_l h5 rfl (ps_n (by decide)) rfl rfl rfl rfl rfl, h6, ps_s⟩
    · have hlt : i < full.length := by omega
      have hg : full[i]? = some full[i] := List.getElem?_eq_getElem hlt
      have hq := ha.2 full[i] (List.mem_append_left _ (List.getElem_mem hlt))
      have hrow := hx.2.2 i _ hg
      generalize full[i] = q at hg hq hrow
      have hwt := za_waits ha hk hq.1
      have hrl := zr_len ha hk
      have hpw := zphi_waits (l := l) hk hq.1
      obtain ⟨M1, s1, s2, s3⟩ := pm_settle_ok h hx hk.1 hk.2.1 hw (Or.inr hq.1) hq.2 (ref := 0) (by decide) (by omega) (by omega) hwt
      obtain ⟨w1, w2, w3⟩ := zsettle_w (l := l) (lost := full) hk hw (p := q) (ref := 0) (Or.inr hq.1) hq.2 (by decide)
      have hsp : full = full.take (i + 1) ++ full.drop (i + 1) := (List.take_append_drop _ _).symm
      have hpre : z_settle Z full w q 0 = ((z_settle Z (full.drop (i + 1)) w q 0).1, full.take (i + 1) ++ (z_settle Z (full.drop (i + 1)) w q 0).2) := by
        conv => lhs; rw [hsp]
        exact zsettle_pre
      have htl : (full.take (i + 1)).length = i + 1 := by rw [List.length_take]; omega
      rw [if_pos rfl] at w3
      rw [dr_s hg]
      unfold z_mourn
      rw [hpre] at s2 s3 w1 w2 w3
      generalize z_settle Z (full.drop (i + 1)) w q 0 = S at s2 s3 w1 w2 w3
      dsimp only at s2 s3 w1 w2 w3
      rw [List.length_append, htl] at w3
      obtain ⟨M', k1, k2⟩ := ih (i + 1) m S.1 M1 (full.take (i + 1) ++ S.2) (by omega) (by omega) (by rw [List.length_append, htl]; omega) s2 s3 w1 (za_okp ha w2) (by rw [List.length_append, htl]; omega)
      rw [List.drop_left' htl] at k2
      refine ⟨M', ?_, k2⟩
      show pm_mourn_b2 _ (nI w) (nI i) M = _
      unfold pm_mourn_b2
      refine pn_g _ rfl ?_
      rw [hx.1]
      refine pn_f (nI_ge hlt (by omega)) ?_
      refine pn_g _ (po_l (show i < (mr_ 31).2 by show i < 101; omega)) ?_
      rw [hrow, nI_1]
      exact pn_b () s1 k1
theorem pm_mourn_ok (hw : w < 4) (h : ri_ Z M) (hx : rx_ lost M) (hk : zk_w Z) (ha : za_ok Z lost) (hph : zphi_n l Z + 2 * lost.length ≤ 2090) :
    ∃ M', pm_mourn (nI w) M = some ((), M') ∧ rm_ (z_done w (Z, lost)) M' := by
  obtain ⟨M', k1, k2⟩ := pm_mourn_it (l := l) hw 101 0 fu_ Z M lost rfl (by unfold fu_; omega) (Nat.zero_le _) h hx hk ha (by omega)
  exact ⟨M', k1, k2⟩
/-- what mourning leaves -/
theorem zmourn_w (hw : w < 4) : ∀ (k : Nat) (Z : zz_S) (pend pre : List Nat), zk_w Z → za_ok Z (pre ++ pend) →
    zk_w (z_mourn w k Z pend) ∧ za_ok (z_mourn w k Z pend) [] ∧ zphi_n l (z_mourn w k Z pend) ≤ zphi_n l Z + 2 * pend.length
  | 0, Z, pend, pre, hk, ha => ⟨hk, ⟨ha.1.sublist (List.sublist_append_right _ _), fun q hq => ha.2 q (List.mem_append_right _ hq)⟩, by unfold z_mourn; omega⟩
  | k + 1, Z, [], pre, hk, ha => ⟨hk, ⟨ha.1.sublist (List.sublist_append_right _ _), fun q hq => ha.2 q (List.mem_append_right _ hq)⟩, by unfold z_mourn; omega⟩
  | k + 1, Z, q :: pend, pre, hk, ha => by
    have hq := ha.2 q (List.mem_append_left _ (List.mem_append_right _ List.mem_cons_self))
    obtain ⟨w1, w2, w3⟩ := zsettle_w (l := l) (lost := pend) hk hw (p := q) (ref := 0) (Or.inr hq.1) hq.2 (by decide)
    rw [if_pos rfl] at w3
    have ha2 : za_ok (z_settle Z pend w q 0).1 ((pre ++ [q]) ++ (z_settle Z pend w q 0).2) := by
      refine za_okp ha ?_
      rw [List.append_assoc, List.append_assoc, List.append_assoc]
      refine List.Perm.append_left pre ?_
      exact List.Perm.append_left [q] w2
    obtain ⟨k1, k2, k3⟩ := zmourn_w hw k _ _ (pre ++ [q]) w1 ha2
    unfold z_mourn
    refine ⟨k1, k2, ?_⟩
    rw [List.length_cons]
    omega
end RMP
