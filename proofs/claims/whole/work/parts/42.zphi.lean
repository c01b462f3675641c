/-! A potential that bounds the messages. -/
/-- what a resting call may still cost -/
def zc_r (r : zr_R) : Nat := if 0 < r.2.2.2.2 then (if 100 < r.1 then 4 else 2) else 0
def zc_l (r : zm_L) : Nat := if r.1 = 1 then 3 else 1
def zc_n (l : List Nat) (E : Nat → ze_E) : Nat := (l.filter (fun k => decide (0 < ei_ (E (k / 4)) (k % 4)))).length
def zphi_n (l : List Nat) (Z : zz_S) : Nat := ((zr_ Z).map zc_r).sum + ((zl_ Z).map zc_l).sum + zc_n l (ze_ Z) + 5 * (100 - zp_ Z)
section ZPH
variable {Z X Y : zz_S} {pre lost : List Nat} {w u e q p : Nat} {v : Int32} {L : List zr_R} {l : List Nat}
theorem zc_r_le (r : zr_R) : zc_r r ≤ 4 := by
  unfold zc_r
  split
  · split <;> omega
  · omega
theorem zc_n_x {f b : Nat} {d : Int} : zc_n l (ze_ (zj_e Z f (ej_x (ze_ Z f) b d))) = zc_n l (ze_ Z) := by
  unfold zc_n
  congr 1
  refine List.filter_congr (fun k _ => ?_)
  by_cases h : k / 4 = f
  · rw [h, ze_s]
    rfl
  · rw [ze_n h]
theorem zphi_l : (zl_ Z).length ≤ ((zl_ Z).map zc_l).sum := by
  induction zl_ Z with
  | nil => exact Nat.le_refl _
  | cons r l ih =>
    rw [List.map_cons, List.sum_cons, List.length_cons]
    have : 1 ≤ zc_l r := by unfold zc_l; split <;> decide
    omega
theorem zphi_post {kind a b what : Nat} : zphi_n l (z_post Z kind a b what v e q) = zphi_n l Z + (if kind = 1 then 3 else 1) := by
  have e0 : zphi_n l (z_post Z kind a b what v e q) = ((zr_ Z).map zc_r).sum + ((zl_ Z ++ [(kind, a, b, what, v, e, q)]).map zc_l).sum + zc_n l (ze_ Z) + 5 * (100 - zp_ Z) := rfl
  rw [e0, List.map_append, List.sum_append]
  unfold zphi_n
  have e1 : ([(kind, a, b, what, v, e, q)].map zc_l).sum = if kind = 1 then 3 else 1 := by
    rw [List.map_cons, List.map_nil, List.sum_cons, List.sum_nil]
    rfl
  rw [e1]
  omega
theorem zphi_x {f b : Nat} {d : Int} : zphi_n l (zj_e Z f (ej_x (ze_ Z f) b d)) = zphi_n l Z := by
  unfold zphi_n
  rw [zc_n_x]
  rfl
theorem zphi_pack {a b : Nat} : zphi_n l (z_pack Z a b e) ≤ zphi_n l Z + 1 := by
  unfold z_pack
  split
  · omega
  · split
    · rw [zphi_x]
      omega
    · split
      · rw [zphi_post, if_neg (by decide)]
        omega
      · omega
theorem zphi_r {r : zr_R} : zphi_n l (zj_r Z (zr_ Z ++ [r])) = zphi_n l Z + zc_r r := by
  have e0 : zphi_n l (zj_r Z (zr_ Z ++ [r])) = ((zr_ Z ++ [r]).map zc_r).sum + ((zl_ Z).map zc_l).sum + zc_n l (ze_ Z) + 5 * (100 - zp_ Z) := rfl
  rw [e0, List.map_append, List.sum_append, List.map_cons, List.map_nil, List.sum_cons, List.sum_nil]
  unfold zphi_n
  omega
/-- a call with an answer goes on: four are enough -/
theorem zgo_phi (hq : 0 < q) : zphi_n l (z_go Z lost w u v e q).1 + 2 * (z_go Z lost w u v e q).2.length ≤ zphi_n l Z + 2 * lost.length + 4 := by
  unfold z_go
  generalize z_follow Z w 101 u = t
  dsimp only
  rw [if_pos hq]
  split
  · dsimp only
    rw [List.length_append, List.length_singleton]
    omega
  · split
    · dsimp only
      rw [zphi_post, if_pos rfl]
      have := zphi_pack (Z := Z) (l := l) (a := w) (b := zh_ Z t) (e := e)
      omega
    · dsimp only
      rw [zphi_r]
      have := zc_r_le ((if 100 < t then t else w), t, v, e, q)
      omega
end ZPH
