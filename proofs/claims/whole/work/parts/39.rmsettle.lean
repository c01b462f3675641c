/-! The reference's settle: the calls that wait at a promise pass on. -/
/-- the calls at p pass on to u -/
def zs_fold (w u p : Nat) (Z : zz_S) (lost : List Nat) : zz_S × List Nat :=
  ((zr_ Z).filter (fun r => r.1 == p)).foldl (fun s r => z_go s.1 s.2 w u r.2.2.1 r.2.2.2.1 r.2.2.2.2) (zj_r Z ((zr_ Z).filter (fun r => !(r.1 == p))), lost)
section RMN
variable {Z Z' : zz_S} {M M' : ms_S} {lost : List Nat}
theorem fp_no {p : Nat} {l : List zr_R} (h : ∀ r ∈ l, r.1 ≠ p) : l.filter (fun r => r.1 == p) = [] := by
  rw [List.filter_eq_nil_iff]
  intro r hr
  simp [h r hr]
theorem fp_all {p : Nat} {l : List zr_R} (h : ∀ r ∈ l, r.1 ≠ p) : l.filter (fun r => !(r.1 == p)) = l := by
  rw [List.filter_eq_self]
  intro r hr
  simp [h r hr]
theorem pm_settle_l {w p u : Nat} (hw : w < 4) (hp : 100 < p) (hp2 : p ≤ 200) (hu : u ≤ 200) : ∀ (d k fuel : Nat) (Z : zz_S) (M : ms_S) (lost : List Nat),
    2 * z_waits Z p + ((zr_ Z).length - k) ≤ d → d < fuel → k ≤ (zr_ Z).length → ri_ Z M → rx_ lost M → zw_e Z → zw_r Z → et_ (ze_ Z p) = u → z_follow Z w 101 u ≠ p → (∀ r ∈ (zr_ Z).take k, r.1 ≠ p) →
    (zr_ Z).length ≤ 200 → (zl_ Z).length + 2 * z_waits Z p < 2100 → lost.length + z_waits Z p ≤ 100 →
    ∃ M', pt_ (fun rec137 => (fun x : Int32 × Int32 × Int32 => pm_settle_b137 rec137 x.1 x.2.1 x.2.2)) fuel (nI w, nI p, nI k) M = some ((), M') ∧ ri_ (zs_fold w u p Z lost).1 M' ∧ rx_ (zs_fold w u p Z lost).2 M' := by
  intro d
  induction d with
  | zero =>
    intro k fuel Z M lost hd hf hk h hx hz hr het hfo hno hlen hzl hlo
    obtain ⟨m, rfl⟩ : ∃ m, fuel = m + 1 := ⟨fuel - 1, by omega⟩
    have hkl : k = (zr_ Z).length := by omega
    subst hkl
    rw [List.take_length] at hno
    refine ⟨M, ?_, ?_, ?_⟩
    · show pm_settle_b137 _ (nI w) (nI p) (nI _) M = _
      unfold pm_settle_b137
      refine pn_g _ rfl ?_
      rw [h.2.2.2.1.1]
      exact pn_t (nI_le (by omega) (by omega)) rfl
    · unfold zs_fold
      rw [fp_no hno, fp_all hno]
      exact h
    · unfold zs_fold
      rw [fp_no hno]
      exact hx
  | succ d ih =>
    intro k fuel Z M lost hd hf hk h hx hz hr het hfo hno hlen hzl hlo
    obtain ⟨m, rfl⟩ : ∃ m, fuel = m + 1 := ⟨fuel - 1, by omega⟩
    have hn := h.2.2.2.1.1
    by_cases hkl : k = (zr_ Z).length
    · subst hkl
      rw [List.take_length] at hno
      refine ⟨M, ?_, ?_, ?_⟩
      · show pm_settle_b137 _ (nI w) (nI p) (nI _) M = _
        unfold pm_settle_b137
        refine pn_g _ rfl ?_
        rw [hn]
        exact pn_t (nI_le (by omega) (by omega)) rfl
      · unfold zs_fold
        rw [fp_no hno, fp_all hno]
        exact h
      · unfold zs_fold
        rw [fp_no hno]
        exact hx
    · have hlt : k < (zr_ Z).length := by omega
      have hg : (zr_ Z)[k]? = some (zr_ Z)[k] := List.getElem?_eq_getElem hlt
      have hrow := h.2.2.2.1.2 k _ hg
      have hwr := hr _ (List.getElem_mem hlt)
      generalize hre : (zr_ Z)[k] = r at hg hrow hwr
      have hnl : ¬ nI (zr_ Z).length ≤ nI k := nI_ge (by omega) (by omega)
      have ik : ∀ c, c = 19 ∨ c = 21 ∨ c = 22 ∨ c = 23 → k < (mr_ c).2 := by
        intro c hc
        rcases hc with rfl | rfl | rfl | rfl <;> (show k < 200; omega)
      have hsp : zr_ Z = (zr_ Z).take k ++ r :: (zr_ Z).drop (k + 1) := by
        rw [← dr_s hg, List.take_append_drop]
      have her : (zr_ Z).eraseIdx k = (zr_ Z).take k ++ (zr_ Z).drop (k + 1) := List.eraseIdx_eq_take_drop_succ _ _
      by_cases hc : r.1 = p
      · have hpt : (r.1 == p) = true := by simp [hc]
        have f1 : (zr_ Z).filter (fun r => r.1 == p) = r :: ((zr_ Z).drop (k + 1)).filter (fun r => r.1 == p) := by
          conv => lhs; rw [hsp]
          rw [List.filter_append, fp_no hno, List.nil_append, List.filter_cons_of_pos (by simpa using hc)]
        have f2 : (zr_ Z).filter (fun r => !(r.1 == p)) = ((zr_ Z).eraseIdx k).filter (fun r => !(r.1 == p)) := by
          conv => lhs; rw [hsp]
          rw [her, List.filter_append, List.filter_append, List.filter_cons_of_neg (by simp [hc])]
        have f3 : ((zr_ Z).eraseIdx k).filter (fun r => r.1 == p) = ((zr_ Z).drop (k + 1)).filter (fun r => r.1 == p) := by
          rw [her, List.filter_append, fp_no hno, List.nil_append]
        have hW : z_waits Z p = (((zr_ Z).drop (k + 1)).filter (fun r => r.1 == p)).length + 1 := by
          unfold z_waits
          rw [f1]
          rfl
        obtain ⟨M1, u1, u2, u3, u4⟩ := pm_unrest_ok h hlt hlen
        obtain ⟨Z1, hZ1⟩ : ∃ Z1, Z1 = zj_r Z ((zr_ Z).eraseIdx k) := ⟨_, rfl⟩
        rw [← hZ1] at u2
        have s1 : zs_ Z Z1 := by rw [hZ1]; exact zs_r
        have z1 : zw_e Z1 := zs_e s1 hz
        have r1 : zr_ Z1 = (zr_ Z).eraseIdx k := by rw [hZ1]; rfl
        have l1 : zl_ Z1 = zl_ Z := by rw [hZ1]; rfl
        have fo1 : z_follow Z1 w 101 u ≠ p := by rw [zs_follow s1]; exact hfo
        have len1 : (zr_ Z1).length = (zr_ Z).length - 1 := by rw [r1]; exact List.length_eraseIdx_of_lt hlt
        have wr1 : zw_r Z1 := fun x hx => hr x (List.mem_of_mem_eraseIdx (by rw [← r1]; exact hx))
        obtain ⟨M2, g1, g2, g3⟩ := pm_go_ok u2 (rx_f hx u3 u4) z1 hw hu hwr.2.2.1 hwr.2.2.2 (v := r.2.2.1) (by omega) (fun x hx => Nat.lt_of_le_of_lt (wr1 x hx).1 (by decide)) (by rw [l1]; omega) (by omega)
        have gs : zs_ Z1 (z_go Z1 lost w u r.2.2.1 r.2.2.2.1 r.2.2.2.2).1 := zgo_s
        have gl : (zl_ (z_go Z1 lost w u r.2.2.1 r.2.2.2.1 r.2.2.2.2).1).length ≤ (zl_ Z1).length + 2 := zgo_l
        have gx : (z_go Z1 lost w u r.2.2.1 r.2.2.2.1 r.2.2.2.2).2.length ≤ lost.length + 1 := zgo_x
        have gr := zgo_r (Z := Z1) (lost := lost) (w := w) (u := u) (v := r.2.2.1) (e := r.2.2.2.1) (q := r.2.2.2.2)
        have gf := zgo_f (Z := Z1) (lost := lost) (w := w) (u := u) (v := r.2.2.1) (e := r.2.2.2.1) (q := r.2.2.2.2) fo1 (by omega)
        have tle := z_follow_le z1 (h := w) 101 u hu
        have hfold : zs_fold w u p Z lost = zs_fold w u p (z_go Z1 lost w u r.2.2.1 r.2.2.2.1 r.2.2.2.2).1 (z_go Z1 lost w u r.2.2.1 r.2.2.2.1 r.2.2.2.2).2 ∧ z_waits (z_go Z1 lost w u r.2.2.1 r.2.2.2.1 r.2.2.2.2).1 p + 1 = z_waits Z p := by
          generalize z_go Z1 lost w u r.2.2.1 r.2.2.2.1 r.2.2.2.2 = s at gr gf
          have ff : (zr_ s.1).filter (fun r => r.1 == p) = ((zr_ Z).drop (k + 1)).filter (fun r => r.1 == p) := by
            rcases gr with gr | gr
            · rw [gr, r1, f3]
            · rw [gr, List.filter_append, r1, f3, List.filter_cons_of_neg, List.filter_nil, List.append_nil]
              by_cases h100 : 100 < z_follow Z1 w 101 u
              · rw [if_pos h100]
                simp [fo1]
              · rw [if_neg h100]
                simp
                omega
          refine ⟨?_, ?_⟩
          · unfold zs_fold
            rw [f1, List.foldl_cons, ff]
            have e0 : zj_r Z ((zr_ Z).filter (fun r => !(r.1 == p))) = zj_r Z1 ((zr_ Z1).filter (fun r => !(r.1 == p))) := by
              rw [r1, f2, hZ1]
              rfl
            dsimp only
            rw [e0, gf]
          · rw [hW]
            unfold z_waits
            rw [ff]
        rw [hfold.1]
        have hW2 := hfold.2
        clear hfold gf
        generalize z_go Z1 lost w u r.2.2.1 r.2.2.2.1 r.2.2.2.2 = s at g2 g3 gs gl gx gr hW2 ⊢
        have hlen2 : (zr_ s.1).length ≤ (zr_ Z).length ∧ (zr_ Z).length ≤ (zr_ s.1).length + 1 := by
          rcases gr with gr | gr
          · rw [gr]; omega
          · rw [gr]; simp; omega
        have htk : ∀ x ∈ (zr_ s.1).take k, x.1 ≠ p := by
          have : (zr_ s.1).take k = (zr_ Z).take k := by
            have e1 : (zr_ Z1).take k = (zr_ Z).take k := by
              rw [r1, her]
              exact List.take_left' (by rw [List.length_take]; omega)
            rcases gr with gr | gr
            · rw [gr, e1]
            · rw [gr, List.take_append_of_le_length (by omega), e1]
          rw [this]
          exact hno
        have hwr2 : zw_r s.1 := by
          intro x hx
          rcases gr with gr | gr
          · rw [gr] at hx
            exact wr1 x hx
          · rw [gr, List.mem_append] at hx
            rcases hx with hx | hx
            · exact wr1 x hx
            · rw [List.mem_singleton] at hx
              subst hx
              refine ⟨?_, tle, hwr.2.2.1, hwr.2.2.2⟩
              show (if _ then _ else w) ≤ 200
              split
              · exact tle
              · omega
        obtain ⟨M', k1, k2, k3⟩ := ih k m s.1 M2 s.2 (by omega) (by omega) (by omega) g2 g3 (zs_e gs z1) hwr2 (((gs p).2.2.2.trans (s1 p).2.2.2).trans het) (by rw [zs_follow gs]; exact fo1) htk (by omega) (by rw [l1] at gl; omega) (by omega)
        refine ⟨M', ?_, k2, k3⟩
        show pm_settle_b137 _ (nI w) (nI p) (nI k) M = _
        unfold pm_settle_b137
        refine pn_g _ rfl ?_
        rw [hn]
        refine pn_f hnl ?_
        refine pn_g _ (po_l (ik 19 (by decide))) ?_
        rw [hrow.1]
        refine pn_t (by rw [hc]) ?_
        refine pn_g _ (po_l (ik 21 (by decide))) ?_
        refine pn_g _ (po_l (ik 22 (by decide))) ?_
        refine pn_g _ (po_l (ik 23 (by decide))) ?_
        rw [hrow.2.2.1, hrow.2.2.2.1, hrow.2.2.2.2]
        refine pn_b () u1 ?_
        refine pn_g _ (po_l (show p < (mr_ 9).2 by show p < 201; omega)) ?_
        rw [(u2.2.2.1 p hp2).2.2.2.1, (s1 p).2.2.2, het]
        exact pn_b () g1 k1
      · have hne : ∀ x ∈ (zr_ Z).take (k + 1), x.1 ≠ p := by
          intro x hx
          rw [List.take_add_one, hg] at hx
          simp at hx
          rcases hx with hx | hx
          · exact hno x hx
          · rw [hx]
            exact hc
        obtain ⟨M', k1, k2, k3⟩ := ih (k + 1) m Z M lost (by omega) (by omega) (by omega) h hx hz hr het hfo hne hlen hzl hlo
        refine ⟨M', ?_, k2, k3⟩
        show pm_settle_b137 _ (nI w) (nI p) (nI k) M = _
        unfold pm_settle_b137
        refine pn_g _ rfl ?_
        rw [hn]
        refine pn_f hnl ?_
        refine pn_g _ (po_l (ik 19 (by decide))) ?_
        rw [hrow.1, nI_1]
        exact pn_f (fun z => hc ((nI_eq (by omega) (by omega)).mp z)) k1
end RMN
