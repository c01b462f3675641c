/-! What was lost before stays in front; the answers of calls under way. -/
section ZPR
variable {Z X Y : zz_S} {pre lost : List Nat} {w u e q p : Nat} {v : Int32} {L : List zr_R}
theorem zgo_pre : z_go Z (pre ++ lost) w u v e q = ((z_go Z lost w u v e q).1, pre ++ (z_go Z lost w u v e q).2) := by
  unfold z_go
  generalize z_follow Z w 101 u = t
  dsimp only
  by_cases h0 : t = 0 ∨ (100 < t ∧ zh_ Z t = w ∧ 8 ≤ z_waits Z t)
  · rw [if_pos h0, if_pos h0]
    by_cases hq : 0 < q
    · simp only [if_pos hq, List.append_assoc]
    · simp only [if_neg hq]
  · rw [if_neg h0, if_neg h0]
    by_cases h1 : zh_ Z t ≠ w
    · rw [if_pos h1, if_pos h1]
    · rw [if_neg h1, if_neg h1]
theorem zfold_pre (w u : Nat) (pre : List Nat) : ∀ (l : List zr_R) (Z : zz_S) (lost : List Nat), l.foldl (fun s r => z_go s.1 s.2 w u r.2.2.1 r.2.2.2.1 r.2.2.2.2) (Z, pre ++ lost) = ((l.foldl (fun s r => z_go s.1 s.2 w u r.2.2.1 r.2.2.2.1 r.2.2.2.2) (Z, lost)).1, pre ++ (l.foldl (fun s r => z_go s.1 s.2 w u r.2.2.1 r.2.2.2.1 r.2.2.2.2) (Z, lost)).2)
  | [], _, _ => rfl
  | r :: l, Z, lost => by
    rw [List.foldl_cons, List.foldl_cons]
    dsimp only
    rw [zgo_pre]
    exact zfold_pre w u pre l _ _
theorem zsettle_pre {ref : Nat} : z_settle Z (pre ++ lost) w p ref = ((z_settle Z lost w p ref).1, pre ++ (z_settle Z lost w p ref).2) := by
  unfold z_settle
  by_cases h0 : p = 0
  · rw [if_pos h0, if_pos h0]
  · rw [if_neg h0, if_neg h0]
    by_cases h1 : zh_ Z p ≠ w
    · rw [if_pos h1, if_pos h1]
    · rw [if_neg h1, if_neg h1]
      by_cases h2 : eg_ (ze_ Z p) = true ∨ es_ (ze_ Z p) = true
      · rw [if_pos h2, if_pos h2]
      · rw [if_neg h2, if_neg h2]
        exact zfold_pre _ _ _ _ _ _
end ZPR
/-- the answers of calls: those that rest, those that fly -/
def za_r (l : List zr_R) : List Nat := (l.map (fun r => r.2.2.2.2)).filter (fun q => decide (0 < q))
def za_l (l : List zm_L) : List Nat := ((l.filter (fun r => r.1 == 1)).map (fun r => r.2.2.2.2.2.2)).filter (fun q => decide (0 < q))
def za_ (Z : zz_S) : List Nat := za_r (zr_ Z) ++ za_l (zl_ Z)
def za_1 (q : Nat) : List Nat := if 0 < q then [q] else []
section ZAN
variable {Z X Y : zz_S} {pre lost : List Nat} {w u e q p : Nat} {v : Int32} {L : List zr_R}
theorem za_ra (l m : List zr_R) : za_r (l ++ m) = za_r l ++ za_r m := by
  unfold za_r
  rw [List.map_append, List.filter_append]
theorem za_la (l m : List zm_L) : za_l (l ++ m) = za_l l ++ za_l m := by
  unfold za_l
  rw [List.filter_append, List.map_append, List.filter_append]
theorem za_r1 (r : zr_R) : za_r [r] = za_1 r.2.2.2.2 := by
  unfold za_r za_1
  rw [List.map_cons, List.map_nil, List.filter_cons]
  by_cases h : 0 < r.2.2.2.2
  · rw [if_pos (by simpa using h), if_pos h]
    rfl
  · rw [if_neg (by simpa using h), if_neg h]
    rfl
theorem za_l1 (r : zm_L) : za_l [r] = if r.1 = 1 then za_1 r.2.2.2.2.2.2 else [] := by
  unfold za_l za_1
  by_cases hk : r.1 = 1
  · rw [if_pos hk, List.filter_cons_of_pos (by simpa using hk), List.filter_nil, List.map_cons, List.map_nil, List.filter_cons]
    by_cases h : 0 < r.2.2.2.2.2.2
    · rw [if_pos (by simpa using h), if_pos h]
      rfl
    · rw [if_neg (by simpa using h), if_neg h]
      rfl
  · rw [if_neg hk, List.filter_cons_of_neg (by simpa using hk)]
    rfl
theorem zpk_l {a b : Nat} : za_l (zl_ (z_pack Z a b e)) = za_l (zl_ Z) := by
  unfold z_pack
  split
  · rfl
  · split
    · rfl
    · split
      · show za_l (zl_ Z ++ [_]) = _
        rw [za_la, za_l1, if_neg (show ¬ (4 = 1) by decide), List.append_nil]
      · rfl
/-- a call goes on: its answer is lost, rests or flies -/
theorem zgo_a : ((z_go Z lost w u v e q).2 ++ za_ (z_go Z lost w u v e q).1).Perm (za_1 q ++ (lost ++ za_ Z)) := by
  unfold z_go
  generalize z_follow Z w 101 u = t
  dsimp only
  split
  · dsimp only
    unfold za_1
    split
    · rw [List.append_assoc]
      exact List.perm_append_comm_assoc lost [q] (za_ Z)
    · exact List.Perm.refl _
  · split
    · show (lost ++ (za_r (zr_ (z_pack Z w (zh_ Z t) e)) ++ za_l (zl_ (z_pack Z w (zh_ Z t) e) ++ [_]))).Perm _
      rw [zpk_r, za_la, zpk_l, za_l1, if_pos rfl]
      show (lost ++ (za_r (zr_ Z) ++ (za_l (zl_ Z) ++ za_1 q))).Perm (za_1 q ++ (lost ++ (za_r (zr_ Z) ++ za_l (zl_ Z))))
      rw [← List.append_assoc, ← List.append_assoc, ← List.append_assoc]
      refine List.perm_append_comm.trans ?_
      rw [List.append_assoc, List.append_assoc]
    · show (lost ++ (za_r (zr_ Z ++ [_]) ++ za_l (zl_ Z))).Perm _
      rw [za_ra, za_r1]
      show (lost ++ (za_r (zr_ Z) ++ za_1 q ++ za_l (zl_ Z))).Perm (za_1 q ++ (lost ++ (za_r (zr_ Z) ++ za_l (zl_ Z))))
      rw [List.append_assoc, ← List.append_assoc lost]
      refine (List.perm_append_comm_assoc _ _ _).trans ?_
      rw [List.append_assoc]
end ZAN
