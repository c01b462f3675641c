/-! Homes stay, few wait: every call keeps it. -/
/-- homes and counts as they were -/
def hs_ (Z X : zz_S) : Prop := X.1 = Z.1 ∧ ∀ e, zh_ X e = zh_ Z e
section CHW
variable {Z X Y : zz_S} {e a b v u q t p w r c n f o k s : Nat} {x op y : Int32} {l lost : List Nat} {D : Nat → Bool}
theorem hs_i : hs_ Z Z := ⟨rfl, fun _ => rfl⟩
theorem hs_t (h1 : hs_ Z X) (h2 : hs_ X Y) : hs_ Z Y := ⟨h2.1.trans h1.1, fun e => (h2.2 e).trans (h1.2 e)⟩
theorem hs_f (h : zf_ Z X) : hs_ Z X := ⟨h.1, fun e => (h.2.2.2 e).1⟩
theorem hs_e {E : ze_E} (h : eh_ E = zh_ Z f) : hs_ Z (zj_e Z f E) := ⟨rfl, fun e => by
  unfold zh_
  by_cases c : e = f
  · rw [c, ze_s]
    exact h
  · rw [ze_n c]⟩
theorem hs_l {L : List zm_L} : hs_ Z (zj_l Z L) := ⟨rfl, fun _ => rfl⟩
theorem hs_r {L : List zr_R} : hs_ Z (zj_r Z L) := ⟨rfl, fun _ => rfl⟩
theorem zH_hs (hH : zH Z) (h : hs_ Z X) : zH X := zH_s hH h.1 h.2
theorem hs_unpack : hs_ Z (z_unpack Z a b e) ∧ zr_ (z_unpack Z a b e) = zr_ Z := by
  unfold z_unpack
  split
  · exact ⟨hs_i, rfl⟩
  · dsimp only
    split
    · exact ⟨hs_t (X := zj_e Z e (ej_i (ze_ Z e) b (ei_ (ze_ Z e) b + 1))) (hs_e rfl) hs_l, rfl⟩
    · exact ⟨hs_e rfl, rfl⟩
theorem hs_pair {d : Int} : hs_ Z (z_pair Z a b e d) ∧ zr_ (z_pair Z a b e d) = zr_ Z := by
  refine ⟨?_, rfl⟩
  unfold z_pair
  dsimp only
  refine hs_e ?_
  split <;> rfl
theorem zHW_deliver (hH : zH Z) (hw8 : zW Z) (hb : b < 4) : zH (z_deliver Z a b).1 ∧ zW (z_deliver Z a b).1 := by
  unfold z_deliver
  split
  · exact ⟨hH, hw8⟩
  · rename_i r m _
    dsimp only
    obtain ⟨u1, u2⟩ := hs_unpack (Z := zj_l Z m) (a := a) (b := b) (e := r.2.2.2.2.2.1)
    have u3 : hs_ Z (z_unpack (zj_l Z m) a b r.2.2.2.2.2.1) := hs_t hs_l u1
    have u4 : zW (z_unpack (zj_l Z m) a b r.2.2.2.2.2.1) := zW_r hw8 u2
    split
    · exact ⟨zH_hs hH (hs_t u3 (hs_f (zf_t zf_go zf_done))), zW_done hb (zW_go u4 hb)⟩
    · split
      · exact ⟨zH_hs hH (hs_t u3 (hs_f (zf_t zf_settle zf_done))), zW_done hb (zW_settle u4 hb)⟩
      · split
        · exact ⟨zH_hs hH (hs_t u3 (hs_e rfl)), zW_r u4 rfl⟩
        · split
          · exact ⟨zH_hs hH (hs_t u3 hs_pair.1), zW_r u4 hs_pair.2⟩
          · exact ⟨zH_hs hH (hs_t u3 hs_pair.1), zW_r u4 hs_pair.2⟩
theorem zHW_give (hH : zH Z) (hw8 : zW Z) : zH (z_give Z v s w) ∧ zW (z_give Z v s w) := by
  unfold z_give
  dsimp only
  split
  · exact ⟨zH_hs hH (hs_e rfl), zW_r hw8 rfl⟩
  · refine ⟨zH_hs hH (hs_t (X := zj_e Z (v + 1) (ej_l (ze_ Z (v + 1)) s (w + 1))) (hs_e rfl) ?_), zW_r hw8 rfl⟩
    generalize zj_e Z (v + 1) (ej_l (ze_ Z (v + 1)) s (w + 1)) = Y
    exact hs_t (X := zj_e Y (w + 1) (ej_x (ze_ Y (w + 1)) v 1)) (hs_e rfl) (hs_e rfl)
theorem zW_ap {R : zr_R} (hw8 : zW Z) (hv : R.1 < 4) : zW (zj_r Z (zr_ Z ++ [R])) := fun p hp => by
  have := hw8 p hp
  unfold z_waits at this ⊢
  show ((zr_ Z ++ [R]).filter _).length ≤ 8
  rw [List.filter_append, List.length_append, List.filter_cons, if_neg (by simp; omega)]
  exact this
theorem zHW_poke (hH : zH Z) (hw8 : zW Z) (hv : v < 4) : zH (z_poke Z v x).1 ∧ zW (z_poke Z v x).1 := by
  unfold z_poke
  split
  · exact ⟨zH_hs hH hs_r, zW_ap hw8 hv⟩
  · exact ⟨hH, hw8⟩
theorem zHW_code {g : Int32} (hH : zH Z) (hw8 : zW Z) : zH (z_code Z g op x).1 ∧ zW (z_code Z g op x).1 := by
  unfold z_code
  split
  · exact ⟨zH_hs hH ⟨rfl, fun _ => rfl⟩, zW_r hw8 rfl⟩
  · exact ⟨hH, hw8⟩
theorem zHW_clear {g : Int32} (hH : zH Z) (hw8 : zW Z) : zH (z_clear Z g).1 ∧ zW (z_clear Z g).1 := by
  unfold z_clear
  split
  · exact ⟨zH_hs hH ⟨rfl, fun _ => rfl⟩, zW_r hw8 rfl⟩
  · exact ⟨hH, hw8⟩
theorem zHW_sweep (hH : zH Z) (hw8 : zW Z) : zH (z_sweep Z v D).1 ∧ zW (z_sweep Z v D).1 := by
  have ff := zfree_f (Z := Z) (v := v) (D := D) 201
  have fd := zdrop_f (X := z_free Z v D 201) (v := v) (D := D) 201
  have e5 : (z_sweep Z v D).1 = z_drop D v (z_free Z v D 201) 201 := by unfold z_sweep; with_reducible rfl
  rw [e5]
  exact ⟨zH_hs hH ⟨fd.1.trans ff.1, fun e => (fd.2.2.2.2 e).1.trans (ff.2.2.2.2.2 e).1⟩, zW_r hw8 (fd.2.2.1.trans ff.2.2.1)⟩
theorem zH_prom (hz : zw_n Z) (hH : zH Z) (ht : zk_made Z t = true) : zH (z_prom Z (zh_ Z t)) := fun e he => by
  rw [made_pX] at he
  by_cases c : e = 101 + zp_ Z
  · rw [c]
    unfold zh_ z_prom
    rw [ze_s]
    exact hH t ht
  · rw [if_neg c] at he
    unfold zh_
    rw [zprom_h c]
    exact hH e he
theorem zHW_send (hz : zw_n Z) (hH : zH Z) (hw8 : zW Z) (ht : zk_K Z t) (hv : v < 4) : zH (z_send Z v t x r).1 ∧ zW (z_send Z v t x r).1 := by
  by_cases h0 : t = 0 ∨ 100 ≤ zp_ Z
  · rw [zsend_0 h0]
    exact ⟨hH, hw8⟩
  · rw [zsend_e (by omega) (by omega)]
    have hmt : zk_made Z t = true := ht.resolve_left (by omega)
    have hH1 := zH_prom hz hH hmt
    have hw1 : zW (z_prom Z (zh_ Z t)) := zW_r hw8 rfl
    split
    · exact ⟨zH_hs hH1 (hs_f (zf_t zf_go zf_done)), zW_done hv (zW_go hw1 hv)⟩
    · have hf2 : zf_ (z_prom Z (zh_ Z t)) (z_post (z_pack (z_prom Z (zh_ Z t)) v (zh_ Z t) r) 1 v (zh_ Z t) t x r (101 + zp_ Z)) := zf_t zf_pack zf_l
      exact ⟨zH_hs hH1 (hs_t (hs_f hf2) (hs_e rfl)), zW_r hw1 (by show zr_ (z_pack _ _ _ _) = _; exact zpk_r)⟩
theorem zHW_fresh {g : Nat} (hH : zH Z) (hw8 : zW Z) (hv : v < zn_ Z) : zH (z_fresh Z v g x r).1 ∧ zW (z_fresh Z v g x r).1 := by
  unfold z_fresh
  split
  · exact ⟨hH, hw8⟩
  · rename_i hc
    refine ⟨fun e he => ?_, zW_r hw8 rfl⟩
    rw [made_oX hc] at he
    show zh_ _ e < zn_ Z
    unfold zh_
    by_cases ce : e = zo_ Z + 1
    · rw [ce, ze_s]
      exact hv
    · rw [ze_n ce]
      rw [if_neg ce] at he
      exact hH e he
theorem zHW_act {z : Int32} (hz : zw_n Z) (hd : zd_ (zk_K Z) Z) (hH : zH Z) (hw8 : zW Z) (hv : v < zn_ Z) : zH (z_act v o (Z, x, r) op z).1.1 ∧ zW (z_act v o (Z, x, r) op z).1.1 := by
  have h4 := hz.2.1
  have triv : ∀ {E : ze_E}, eh_ E = zh_ Z o → zH (zj_e Z o E) ∧ zW (zj_e Z o E) := fun h => ⟨zH_hs hH (hs_e h), zW_r hw8 rfl⟩
  unfold z_act
  by_cases k0 : op = 0
  · rw [if_pos k0]; exact ⟨hH, hw8⟩
  rw [if_neg k0]
  by_cases k1 : op = 1
  · rw [if_pos k1]; exact ⟨hH, hw8⟩
  rw [if_neg k1]
  by_cases k2 : op = 2
  · rw [if_pos k2]; exact triv rfl
  rw [if_neg k2]
  by_cases k3 : op = 3
  · rw [if_pos k3]; exact triv rfl
  rw [if_neg k3]
  by_cases k4 : op = 4
  · rw [if_pos k4]; exact ⟨hH, hw8⟩
  rw [if_neg k4]
  by_cases k5 : op = 5
  · rw [if_pos k5]; exact ⟨hH, hw8⟩
  rw [if_neg k5]
  by_cases k6 : op = 6
  · rw [if_pos k6]
    exact zHW_fresh hH hw8 hv
  rw [if_neg k6]
  by_cases k7 : op = 7
  · rw [if_pos k7]
    exact zHW_send hz hH hw8 ((hd.1 o).2.1 _) (by omega)
  rw [if_neg k7]
  by_cases k8 : op = 8
  · rw [if_pos k8]; exact ⟨hH, hw8⟩
  rw [if_neg k8]
  by_cases k9 : op = 9
  · rw [if_pos k9]
    exact ⟨zH_hs hH ⟨rfl, fun _ => rfl⟩, zW_r hw8 rfl⟩
  rw [if_neg k9]
  exact ⟨hH, hw8⟩
theorem zHW_run (hl : l.Nodup) : ∀ (L : List (Int32 × Int32)) (k : Nat) (S : zz_S × Int32 × Nat), zi_ l n S.1 → zk_K S.1 S.2.2 → 1 ≤ o ∧ o ≤ zo_ S.1 → (∀ i ∈ L, zo_i i) → zH S.1 → zW S.1 → v < zn_ S.1 →
    zH (z_run v o L k S).1 ∧ zW (z_run v o L k S).1
  | [], k, S, _, _, _, _, h5, h6, _ => by cases k <;> exact ⟨h5, h6⟩
  | i :: L, k + 1, S, h1, h2, h3, h4, h5, h6, h7 => zHW_run hl L k S h1 h2 h3 (fun j hj => h4 j (List.mem_cons_of_mem _ hj)) h5 h6 h7
  | i :: L, 0, S, h1, h2, h3, h4, h5, h6, h7 => by
    obtain ⟨Z1, x1, r1⟩ := S
    have hn4 : zn_ Z1 ≤ 4 := h1.1.2.1
    obtain ⟨a1, a2, a3, a4, a5, a6⟩ := zi_act (x := x1) hl h1 (show v < 4 by dsimp only at h7; omega) h3 h2 (h4 i List.mem_cons_self)
    obtain ⟨b1, b2⟩ := zHW_act (o := o) (x := x1) (r := r1) (op := i.1) (z := i.2) h1.1 h1.2.2.1 h5 h6 h7
    exact zHW_run hl L _ _ a1 a2 ⟨h3.1, Nat.le_trans h3.2 a6⟩ (fun j hj => h4 j (List.mem_cons_of_mem _ hj)) b1 b2 (by rw [zact_n]; exact h7)
theorem zHW_turn (hl : l.Nodup) (hi : zi_ l n Z) (hH : zH Z) (hw8 : zW Z) (hv : v < zn_ Z) : zH (z_turn Z v).1 ∧ zW (z_turn Z v).1 := by
  have h4 := hi.1.2.1
  rcases zfirst_or v (zr_ Z) with ⟨h1, h2⟩ | ⟨i, r, h1, h2, h3, h4'⟩
  · have et : z_turn Z v = (Z, -1) := by unfold z_turn; rw [h1]
    rw [et]
    exact ⟨hH, hw8⟩
  · have et : z_turn Z v = (z_done v (z_settle (z_run v r.2.1 (zg_ Z (ep_ (ze_ Z r.2.1))) 0 (zj_r Z ((zr_ Z).eraseIdx i), r.2.2.1, r.2.2.2.1)).1 [] v r.2.2.2.2 (z_run v r.2.1 (zg_ Z (ep_ (ze_ Z r.2.1))) 0 (zj_r Z ((zr_ Z).eraseIdx i), r.2.2.1, r.2.2.2.1)).2.2), nI r.2.1) := by
      unfold z_turn
      rw [h2]
    rw [et]
    have hr : r ∈ zr_ Z := List.mem_of_getElem? h1
    obtain ⟨t1, t2, t3⟩ := zi_take hi (er_perm h1)
    obtain ⟨r1, r2, r3, r4⟩ := hi.2.2.1.2.2.1 r hr
    have ho : 1 ≤ r.2.1 ∧ r.2.1 ≤ zo_ Z := by
      have := zk_K3 r1
      rcases r4 with c | c <;> omega
    have hw0 : zW (zj_r Z ((zr_ Z).eraseIdx i)) := fun p hp => Nat.le_trans ((List.Sublist.filter _ (List.eraseIdx_sublist _ _)).length_le) (hw8 p hp)
    obtain ⟨c1, c2⟩ := zHW_run (o := r.2.1) (v := v) hl (zg_ Z (ep_ (ze_ Z r.2.1))) 0 (zj_r Z ((zr_ Z).eraseIdx i), r.2.2.1, r.2.2.2.1) t1 r2 ho (hi.2.2.2 _) (zH_hs hH hs_r) hw0 hv
    dsimp only
    exact ⟨zH_hs c1 (hs_f (zf_t zf_settle zf_done)), zW_done (by omega) (zW_settle c2 (by omega))⟩
end CHW
