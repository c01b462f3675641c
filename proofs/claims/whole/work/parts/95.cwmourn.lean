/-! The class: the lost answers are settled. -/
/-- few calls wait at a promise -/
def zW (Z : zz_S) : Prop := ∀ p, 100 < p → z_waits Z p ≤ 8
section CMN
variable {gl : gl_T} {fx : fx_T} {ad : Nat × Nat → Nat} {W W' : cw_W} {st : st_S} {Z X : zz_S} {e a b s v L g u q t h p w ref : Nat} {x : Int32} {lost l : List Nat}
theorem zW_r (h : zW Z) (hr : zr_ X = zr_ Z) : zW X := fun p hp => by
  unfold z_waits
  rw [hr]
  exact h p hp
theorem zW_go (h : zW Z) (hw : w < 4) : zW (z_go Z lost w u x e q).1 := by
  unfold z_go
  generalize z_follow Z w 101 u = t
  dsimp only
  split
  · exact h
  · rename_i hc
    split
    · exact zW_r h (show zr_ (z_pack Z w (zh_ Z t) e) = zr_ Z from zpk_r)
    · rename_i hh
      have hh : zh_ Z t = w := Classical.byContradiction hh
      intro p hp
      unfold z_waits
      show ((zr_ Z ++ [_]).filter _).length ≤ 8
      rw [List.filter_append, List.length_append]
      by_cases c : (if 100 < t then t else w) = p
      · rw [List.filter_cons_of_pos (by simp [c]), List.filter_nil, List.length_singleton]
        have ht : 100 < t := by
          split at c <;> omega
        rw [if_pos ht] at c
        subst c
        have : z_waits Z t < 8 := Nat.lt_of_not_le (fun z => hc (Or.inr ⟨ht, hh, z⟩))
        have e1 : ((zr_ Z).filter (fun r => r.1 == t)).length = z_waits Z t := rfl
        omega
      · rw [List.filter_cons_of_neg (by simp [c]), List.filter_nil, List.length_nil]
        exact h p hp
theorem zW_fold (hw : w < 4) : ∀ (m : List zr_R) (s : zz_S × List Nat), zW s.1 → zW (m.foldl (fun s r => z_go s.1 s.2 w u r.2.2.1 r.2.2.2.1 r.2.2.2.2) s).1
  | [], _, h => h
  | r :: m, s, h => zW_fold hw m _ (zW_go h hw)
theorem zW_settle (h : zW Z) (hw : w < 4) : zW (z_settle Z lost w p ref).1 := by
  unfold z_settle
  split
  · exact h
  · split
    · exact zW_r h (show zr_ (z_pack Z w (zh_ Z p) ref) = zr_ Z from zpk_r)
    · split
      · exact h
      · dsimp only
        refine zW_fold hw _ _ (fun p' hp' => ?_)
        exact Nat.le_trans (List.Sublist.length_le (List.Sublist.filter _ List.filter_sublist)) (h p' hp')
theorem zW_mourn (hw : w < 4) : ∀ (k : Nat) (Z : zz_S) (l : List Nat), zW Z → zW (z_mourn w k Z l)
  | 0, _, _, h => h
  | _ + 1, _, [], h => h
  | k + 1, Z, q :: l, h => by
    unfold z_mourn
    exact zW_mourn hw k _ _ (zW_settle h hw)
theorem zW_done (hw : w < 4) {s : zz_S × List Nat} (h : zW s.1) : zW (z_done w s) := zW_mourn hw 101 s.1 s.2 h
theorem RW_L {y : Int32 × (Nat → Option Nat)} (hR : RW Z W s) : RW Z (cj_L W y) s := by
  obtain ⟨h1, h2, h3, h4, h5, h6, h7, h8⟩ := hR
  exact ⟨h1, h2, h3, h4, h5, h6, h7, h8⟩
theorem xP_mourn_it (hw : w < 4) : ∀ (k i fuel : Nat) (Z : zz_S) (st : st_S) (W : cw_W) (full : List Nat), i + k = 101 → k < fuel → i ≤ full.length → CW gl fx ad W st → RW Z W 50 → lr_ ad W full → zB Z → zH Z → w < zn_ Z → za_ok Z full → (∀ q ∈ full, zk_K Z q) → zW Z → zphi_n l Z + 2 * (full.length - i) ≤ 2090 →
    ∃ st' W' i2 j2, st_it (fun rec2 => (fun y : Option Nat × Int32 × Int32 => xP_settleLost_b2 gl rec2 y.1 y.2.1 y.2.2)) fuel (some (ad (0, 0)), nI w, nI i) st = some ((), st', i2, j2) ∧ CW gl fx ad W' st' ∧ RW (z_mourn w k Z (full.drop i)) W' 50 ∧ lr_ ad W' [] ∧ tm_ W W' ∧ cst_ W Z i2 j2 W' (z_mourn w k Z (full.drop i)) := by
  intro k
  induction k with
  | zero =>
    intro i fuel Z st W full hi hf hl hW hR hL hB hH hwn ha hK hw8 hph
    have := hL.2.1
    omega
  | succ k ih =>
    intro i fuel Z st W full hi hf hl hW hR hL hB hH hwn ha hK hw8 hph
    obtain ⟨m, rfl⟩ : ∃ m, fuel = m + 1 := ⟨fuel - 1, by omega⟩
    have h100 := hL.2.1
    have hend : ∃ st' W', xP_settleLost_b37 gl (some (ad (0, 0))) st = some ((), st', 0, 0) ∧ CW gl fx ad W' st' ∧ RW Z W' 50 ∧ lr_ ad W' [] ∧ tm_ W W' ∧ bk_ W' = bk_ W := by
      obtain ⟨st', c1, c2, c3⟩ := cu_L0 hW (y := 0)
      refine ⟨st', _, ?_, c2, RW_L hR, ⟨rfl, Nat.zero_le _, fun i q hq => by simp at hq⟩, ⟨rfl, mf_s rfl rfl rfl⟩, rfl⟩
      unfold xP_settleLost_b37
      exact ru_w _ c1 rfl
    by_cases hil : i = full.length
    · obtain ⟨st', W', c1, c2, c3, c4, c5, c6⟩ := hend
      rw [List.drop_eq_nil_of_le (by omega)]
      refine ⟨st', W', 0, 0, ?_, c2, c3, c4, c5, cst_b c6⟩
      show xP_settleLost_b2 gl _ (some (ad (0, 0))) (nI w) (nI i) st = _
      unfold xP_settleLost_b2
      refine ru_g _ (r0_6 hW) ?_
      refine ru_g _ (og_n (at_5 hW) (by simp)) ?_
      by_cases c : 100 ≤ i
      · exact ru_t (nI_le c (by omega)) c1
      · refine ru_f (nI_ge (by omega) (by decide)) ?_
        refine ru_g _ (r0_7 hW) ?_
        rw [hL.1]
        exact ru_t (nI_le (by omega) (by omega)) c1
    · have hlt : i < full.length := by omega
      have hg : full[i]? = some full[i] := List.getElem?_eq_getElem hlt
      have hmem := List.getElem_mem hlt
      have hq := ha.2 full[i] (List.mem_append_left _ hmem)
      have hKq := hK full[i] hmem
      have hrow := hL.2.2 i _ hg
      generalize full[i] = q at hg hq hKq hrow hmem
      have hmd : zk_made Z q = true := hKq.resolve_left (by omega)
      have hzl := zphi_l (Z := Z)
      have hlen : (zl_ Z).length ≤ 2200 := by
        unfold zphi_n at hph
        omega
      obtain ⟨st1, W1, i1, j1, s1, s2, s3, s4, s5, s6⟩ := xP_resolve_ok hW hR hL hB hH ha hwn hmd hq.1 (ref := 0) zk_K0 (Or.inl rfl) hK (hw8 q hq.1) hlen
      obtain ⟨w1, w2, w3⟩ := zsettle_w (l := l) (lost := full) hB.2.1 hw (p := q) (ref := 0) (Or.inr hq.1) hq.2 (by decide)
      obtain ⟨g1, g2⟩ := zB_settle (lost := full) (p := q) (ref := 0) hB hw (Or.inr hq.1) hKq (Or.inl rfl) zk_K0 hK
      have hf : zf_ Z (z_settle Z full w q 0).1 := zf_settle
      have hw8' := zW_settle (lost := full) (p := q) (ref := 0) hw8 hw
      have hsp : full = full.take (i + 1) ++ full.drop (i + 1) := (List.take_append_drop _ _).symm
      have hpre : z_settle Z full w q 0 = ((z_settle Z (full.drop (i + 1)) w q 0).1, full.take (i + 1) ++ (z_settle Z (full.drop (i + 1)) w q 0).2) := by
        conv => lhs; rw [hsp]
        exact zsettle_pre
      have htl : (full.take (i + 1)).length = i + 1 := by rw [List.length_take]; omega
      rw [if_pos rfl] at w3
      rw [dr_s hg]
      unfold z_mourn
      rw [hpre] at s3 s4 s6 w1 w2 w3 g1 g2 hf hw8'
      generalize z_settle Z (full.drop (i + 1)) w q 0 = S at s3 s4 s6 w1 w2 w3 g1 g2 hf hw8'
      dsimp only at s3 s4 s6 w1 w2 w3 g1 g2 hf hw8'
      rw [List.length_append, htl] at w3
      have en : zn_ S.1 = zn_ Z := by unfold zn_; rw [hf.1]
      obtain ⟨st', W', i2, j2, k1, k2, k3, k4, k5, k6⟩ := ih (i + 1) m S.1 st1 W1 (full.take (i + 1) ++ S.2) (by omega) (by omega) (by rw [List.length_append, htl]; omega) s2 s3 s4 g1 (zH_s hH hf.1 (fun e => (hf.2.2.2 e).1)) (by omega) (za_okp ha w2) (fun y hy => by rw [zk_KZ hf.1]; exact g2 y hy) hw8' (by rw [List.length_append, htl]; omega)
      rw [List.drop_left' htl] at k3 k6
      refine ⟨st', W', i1 + i2, j1 + j2, ?_, k2, k3, k4, tm_t s5 k5, cst_t s6 k6⟩
      show xP_settleLost_b2 gl _ (some (ad (0, 0))) (nI w) (nI i) st = _
      unfold xP_settleLost_b2
      refine ru_g _ (r0_6 hW) ?_
      refine ru_g _ (og_n (at_5 hW) (by simp)) ?_
      refine ru_f (nI_ge (by omega) (by decide)) ?_
      refine ru_g _ (r0_7 hW) ?_
      rw [hL.1]
      refine ru_f (nI_ge hlt (by omega)) ?_
      refine ru_g _ (r0_6 hW) ?_
      refine ru_g _ ((og_lq (at_5 hW) (by simp) (show i < 100 by omega) (by decide)).trans (by rw [hrow])) ?_
      refine ru_g _ (r0_m hW) ?_
      refine ru_b s1 ?_ rfl rfl
      rw [nI_1]
      exact k1
theorem xP_mourn_ok (hw : w < 4) (hW : CW gl fx ad W st) (hR : RW Z W 50) (hL : lr_ ad W lost) (hB : zB Z) (hH : zH Z) (hwn : w < zn_ Z) (ha : za_ok Z lost) (hK : ∀ q ∈ lost, zk_K Z q) (hw8 : zW Z) (hph : zphi_n l Z + 2 * lost.length ≤ 2090) :
    ∃ st' W' i j, xP_settleLost gl (some (ad (0, 0))) (nI w) st = some ((), st', i, j) ∧ CW gl fx ad W' st' ∧ RW (z_done w (Z, lost)) W' 50 ∧ lr_ ad W' [] ∧ tm_ W W' ∧ cst_ W Z i j W' (z_done w (Z, lost)) := by
  obtain ⟨st', W', i, j, k1, k2, k3, k4, k5, k6⟩ := xP_mourn_it (l := l) hw 101 0 fu_ Z st W lost rfl (by unfold fu_; omega) (Nat.zero_le _) hW hR hL hB hH hwn ha hK hw8 (by omega)
  exact ⟨st', W', i, j, k1, k2, k3, k4, k5, k6⟩
end CMN
