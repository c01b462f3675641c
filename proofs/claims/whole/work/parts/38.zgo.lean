/-! What go leaves as it is. -/
/-- homes, and what is gone and settled, are alike -/
def zs_ (Z X : zz_S) : Prop := ∀ e, zh_ X e = zh_ Z e ∧ eg_ (ze_ X e) = eg_ (ze_ Z e) ∧ es_ (ze_ X e) = es_ (ze_ Z e) ∧ et_ (ze_ X e) = et_ (ze_ Z e)
/-- numbers of resting calls within their bounds -/
def zw_r (Z : zz_S) : Prop := ∀ r ∈ zr_ Z, r.1 ≤ 200 ∧ r.2.1 ≤ 200 ∧ r.2.2.2.1 ≤ 200 ∧ r.2.2.2.2 ≤ 200
section ZGO
variable {Z X Y : zz_S} {lost : List Nat} {w u e q p : Nat} {v : Int32} {L : List zr_R}
theorem zs_i : zs_ Z Z := fun _ => ⟨rfl, rfl, rfl, rfl⟩
theorem zs_t (h1 : zs_ Z X) (h2 : zs_ X Y) : zs_ Z Y := fun e => ⟨(h2 e).1.trans (h1 e).1, (h2 e).2.1.trans (h1 e).2.1, (h2 e).2.2.1.trans (h1 e).2.2.1, (h2 e).2.2.2.trans (h1 e).2.2.2⟩
theorem zs_r : zs_ Z (zj_r Z L) := fun _ => ⟨rfl, rfl, rfl, rfl⟩
theorem zs_x {f b : Nat} {d : Int} : zs_ Z (zj_e Z f (ej_x (ze_ Z f) b d)) := fun e => by
  unfold zh_
  by_cases h : e = f
  · subst h
    rw [ze_s]
    exact ⟨rfl, rfl, rfl, rfl⟩
  · rw [ze_n h]
    exact ⟨rfl, rfl, rfl, rfl⟩
theorem zs_pack {a b : Nat} : zs_ Z (z_pack Z a b e) := by
  unfold z_pack
  split
  · exact zs_i
  · split
    · exact zs_x
    · split
      · exact zs_i
      · exact zs_i
theorem zs_e (h : zs_ Z X) (hz : zw_e Z) : zw_e X := fun e he => by
  rw [(h e).1, (h e).2.2.2]
  exact hz e he
theorem zs_pass (h : zs_ Z X) (w e : Nat) : zk_pass X w e = zk_pass Z w e := by
  unfold zk_pass
  rw [(h e).1, (h e).2.2.1]
theorem zs_follow (h : zs_ Z X) {w : Nat} : ∀ (n t : Nat), z_follow X w n t = z_follow Z w n t
  | 0, _ => rfl
  | n + 1, t => by
    unfold z_follow
    rw [zs_pass h, (h t).2.2.2, zs_follow h n]
theorem zpk_r {a b : Nat} : zr_ (z_pack Z a b e) = zr_ Z := by
  unfold z_pack
  split
  · rfl
  · split
    · rfl
    · split <;> rfl
theorem zpk_rc {a b : Nat} : z_pack (zj_r Z L) a b e = zj_r (z_pack Z a b e) L := by
  unfold z_pack
  show (if e = 0 then zj_r Z L else if zh_ Z e = a then _ else if zh_ Z e ≠ b then _ else _) = _
  by_cases h0 : e = 0
  · rw [if_pos h0, if_pos h0]
  · rw [if_neg h0, if_neg h0]
    by_cases h1 : zh_ Z e = a
    · rw [if_pos h1, if_pos h1]
      rfl
    · rw [if_neg h1, if_neg h1]
      by_cases h2 : zh_ Z e ≠ b
      · rw [if_pos h2, if_pos h2]
        rfl
      · rw [if_neg h2, if_neg h2]
theorem zgo_s : zs_ Z (z_go Z lost w u v e q).1 := by
  unfold z_go
  generalize z_follow Z w 101 u = t
  dsimp only
  split
  · exact zs_i
  · split
    · exact zs_pack
    · exact zs_i
theorem zgo_l : (zl_ (z_go Z lost w u v e q).1).length ≤ (zl_ Z).length + 2 := by
  unfold z_go
  generalize z_follow Z w 101 u = t
  dsimp only
  split
  · show (zl_ Z).length ≤ _
    omega
  · split
    · have := zl_pack (Z := Z) (a := w) (b := zh_ Z t) (e := e)
      show (zl_ (z_pack Z w (zh_ Z t) e) ++ [_]).length ≤ _
      simp
      omega
    · show (zl_ Z).length ≤ _
      omega
theorem zgo_x : (z_go Z lost w u v e q).2.length ≤ lost.length + 1 := by
  unfold z_go
  generalize z_follow Z w 101 u = t
  dsimp only
  split
  · split
    · simp
    · show lost.length ≤ _
      omega
  · split
    · show lost.length ≤ _
      omega
    · show lost.length ≤ _
      omega
theorem zgo_r : zr_ (z_go Z lost w u v e q).1 = zr_ Z ∨ zr_ (z_go Z lost w u v e q).1 = zr_ Z ++ [(if 100 < z_follow Z w 101 u then z_follow Z w 101 u else w, z_follow Z w 101 u, v, e, q)] := by
  unfold z_go
  generalize z_follow Z w 101 u = t
  dsimp only
  split
  · exact Or.inl rfl
  · split
    · exact Or.inl zpk_r
    · exact Or.inr rfl
theorem zgo_f (ht : z_follow Z w 101 u ≠ p) (hw : w ≠ p) : z_go (zj_r Z ((zr_ Z).filter (fun r => !(r.1 == p)))) lost w u v e q = (zj_r (z_go Z lost w u v e q).1 ((zr_ (z_go Z lost w u v e q).1).filter (fun r => !(r.1 == p))), (z_go Z lost w u v e q).2) := by
  unfold z_go
  rw [zs_follow zs_r]
  generalize z_follow Z w 101 u = t at ht
  have hwt : z_waits (zj_r Z ((zr_ Z).filter (fun r => !(r.1 == p)))) t = z_waits Z t := by
    unfold z_waits
    show (((zr_ Z).filter _).filter _).length = _
    rw [List.filter_filter]
    congr 1
    refine List.filter_congr (fun r _ => ?_)
    by_cases hr : r.1 = t
    · simp [hr, ht]
    · simp [hr]
  dsimp only
  rw [hwt]
  show (if t = 0 ∨ (100 < t ∧ zh_ Z t = w ∧ 8 ≤ z_waits Z t) then _ else if zh_ Z t ≠ w then _ else _) = _
  by_cases h0 : t = 0 ∨ (100 < t ∧ zh_ Z t = w ∧ 8 ≤ z_waits Z t)
  · rw [if_pos h0, if_pos h0]
  · rw [if_neg h0, if_neg h0]
    by_cases h1 : zh_ Z t ≠ w
    · rw [if_pos h1, if_pos h1]
      refine Prod.ext ?_ rfl
      show z_post (z_pack (zj_r Z _) w (zh_ Z t) e) 1 w (zh_ Z t) t v e q = zj_r (z_post (z_pack Z w (zh_ Z t) e) 1 w (zh_ Z t) t v e q) ((zr_ (z_pack Z w (zh_ Z t) e)).filter _)
      rw [zpk_rc, zpk_r]
      rfl
    · rw [if_neg h1, if_neg h1]
      refine Prod.ext ?_ rfl
      show zj_r Z ((zr_ Z).filter _ ++ [_]) = zj_r Z ((zr_ Z ++ [_]).filter _)
      rw [List.filter_append]
      congr 2
      have hpl : (!((if 100 < t then t else w) == p)) = true := by
        by_cases h100 : 100 < t
        · simp [h100, ht]
        · simp [h100, hw]
      exact (List.filter_cons_of_pos (p := fun r : zr_R => !(r.1 == p)) (a := (if 100 < t then t else w, t, v, e, q)) (l := []) hpl).symm
end ZGO
