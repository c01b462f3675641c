/-! Scalars that go, settle, mourn keep; more updates of entities. -/
/-- a program that leaves the scalar k alone -/
def pk_ {α : Type} (k : Nat) (f : pm_M α) : Prop := ∀ M r M', f M = some (r, M') → M'.1 k = M.1 k
section PKK
variable {α β : Type} {k : Nat}
theorem pk_r {a : α} : pk_ k (pr_ a) := fun M r M' h => by cases h; rfl
theorem pk_g {f : ms_S → Option α} {g : α → pm_M β} (h : ∀ a, pk_ k (g a)) : pk_ k (pg_ f g) := fun M r M' hx => by
  unfold pg_ at hx
  cases hf : f M with
  | none => rw [hf] at hx; cases hx
  | some a => rw [hf] at hx; exact h a M r M' hx
theorem pk_b {f : pm_M α} {g : α → pm_M β} (h1 : pk_ k f) (h : ∀ a, pk_ k (g a)) : pk_ k (pb_ f g) := fun M r M' hx => by
  unfold pb_ at hx
  cases hf : f M with
  | none => rw [hf] at hx; cases hx
  | some a => rw [hf] at hx; exact (h a.1 a.2 r M' hx).trans (h1 M a.1 a.2 hf)
theorem pk_ws {j : Nat} {x y : Int32} {g : pm_M β} (h : pk_ k g) : pk_ k (pw_ (ps_ j x y) g) := fun M r M' hx => by
  unfold pw_ ps_ at hx
  split at hx
  · exact (show M'.1 k = (pu_a M j x.toNatClampNeg y).1 k from h _ r M' hx)
  · cases hx
theorem pk_wp {j : Nat} {y : Int32} {g : pm_M β} (hj : k ≠ j) (h : pk_ k g) : pk_ k (pw_ (pp_ j y) g) := fun M r M' hx => by
  unfold pw_ pp_ at hx
  exact (show M'.1 k = (pu_s M j y).1 k from h _ r M' hx).trans (ps_n hj)
theorem pk_i {c : Prop} [Decidable c] {A B : pm_M β} (h1 : pk_ k A) (h2 : pk_ k B) : pk_ k (if c then A else B) := by
  split
  · exact h1
  · exact h2
theorem pk_t {F : (α → pm_M β) → α → pm_M β} (h : ∀ g, (∀ x, pk_ k (g x)) → ∀ x, pk_ k (F g x)) : ∀ (n : Nat) (x : α), pk_ k (pt_ F n x)
  | 0, _ => fun M r M' hx => by cases hx
  | n + 1, x => h _ (pk_t h n) x
end PKK
section PKM
variable {k : Nat}
theorem pk_pm_post (hk : 33 < k) (v1 : Int32) (v2 : Int32) (v3 : Int32) (v4 : Int32) (v5 : Int32) (v6 : Int32) : pk_ k (pm_post v1 v2 v3 v4 v5 v6) := by
  unfold pm_post
  repeat' with_reducible (first | exact pk_r | refine pk_g (fun _ => ?_)  | refine pk_i ?_ ?_ | refine pk_ws ?_ | refine pk_wp (by omega) ?_ | refine pk_b ?_ (fun _ => ?_))
theorem pk_pm_passes_b29 (hk : 33 < k) : pk_ k (pm_passes_b29 ) := by
  unfold pm_passes_b29
  repeat' with_reducible (first | exact pk_r | refine pk_g (fun _ => ?_) | refine pk_i ?_ ?_ | refine pk_ws ?_ | refine pk_wp (by omega) ?_ | refine pk_b ?_ (fun _ => ?_))
theorem pk_pm_passes (hk : 33 < k) (v1 : Int32) (v2 : Int32) : pk_ k (pm_passes v1 v2) := by
  unfold pm_passes
  repeat' with_reducible (first | exact pk_r | refine pk_g (fun _ => ?_) | exact pk_pm_passes_b29 hk   | refine pk_i ?_ ?_ | refine pk_ws ?_ | refine pk_wp (by omega) ?_ | refine pk_b ?_ (fun _ => ?_))
theorem pk_pm_waits_b29 (hk : 33 < k) (rec4 : Int32 × Int32 × Int32 → pm_M Int32) (p1 : Int32) (p3 : Int32) (q0 : Int32) (hr : ∀ x, pk_ k (rec4 x)) : pk_ k (pm_waits_b29 rec4 p1 p3 q0) := by
  unfold pm_waits_b29
  repeat' with_reducible (first | exact pk_r | refine pk_g (fun _ => ?_) | exact hr _ | refine pk_i ?_ ?_ | refine pk_ws ?_ | refine pk_wp (by omega) ?_ | refine pk_b ?_ (fun _ => ?_))
theorem pk_pm_waits_b4 (hk : 33 < k) (rec4 : Int32 × Int32 × Int32 → pm_M Int32) (p1 : Int32) (p2 : Int32) (p3 : Int32) (hr : ∀ x, pk_ k (rec4 x)) : pk_ k (pm_waits_b4 rec4 p1 p2 p3) := by
  unfold pm_waits_b4
  repeat' with_reducible (first | exact pk_r | refine pk_g (fun _ => ?_) | exact hr _ | exact pk_pm_waits_b29 hk _ _ _ _ hr  | refine pk_i ?_ ?_ | refine pk_ws ?_ | refine pk_wp (by omega) ?_ | refine pk_b ?_ (fun _ => ?_))
theorem pk_pm_waits (hk : 33 < k) (v1 : Int32) : pk_ k (pm_waits v1) := by
  unfold pm_waits
  repeat' with_reducible (first | exact pk_t (fun g hg x => pk_pm_waits_b4 hk g _ _ _ hg) _ _ | exact pk_r | refine pk_g (fun _ => ?_) | exact pk_pm_waits_b4 hk _ _ _ _ hr  | refine pk_i ?_ ?_ | refine pk_ws ?_ | refine pk_wp (by omega) ?_ | refine pk_b ?_ (fun _ => ?_))
theorem pk_pm_pack (hk : 33 < k) (v1 : Int32) (v2 : Int32) (v3 : Int32) : pk_ k (pm_pack v1 v2 v3) := by
  unfold pm_pack
  repeat' with_reducible (first | exact pk_r | refine pk_g (fun _ => ?_) | exact pk_pm_post hk _ _ _ _ _ _ | refine pk_i ?_ ?_ | refine pk_ws ?_ | refine pk_wp (by omega) ?_ | refine pk_b ?_ (fun _ => ?_))
theorem pk_pm_rest (hk : 33 < k) (v1 : Int32) (v2 : Int32) (v3 : Int32) (v4 : Int32) (v5 : Int32) : pk_ k (pm_rest v1 v2 v3 v4 v5) := by
  unfold pm_rest
  repeat' with_reducible (first | exact pk_r | refine pk_g (fun _ => ?_) | refine pk_i ?_ ?_ | refine pk_ws ?_ | refine pk_wp (by omega) ?_ | refine pk_b ?_ (fun _ => ?_))
theorem pk_pm_go_b102 (hk : 33 < k) (q0 : Int32) : pk_ k (pm_go_b102 q0) := by
  unfold pm_go_b102
  repeat' with_reducible (first | exact pk_r | refine pk_g (fun _ => ?_) | refine pk_i ?_ ?_ | refine pk_ws ?_ | refine pk_wp (by omega) ?_ | refine pk_b ?_ (fun _ => ?_))
theorem pk_pm_go_b72 (hk : 33 < k) (p5 : Int32) : pk_ k (pm_go_b72 p5) := by
  unfold pm_go_b72
  repeat' with_reducible (first | exact pk_r | refine pk_g (fun _ => ?_) | exact pk_pm_go_b102 hk _  | refine pk_i ?_ ?_ | refine pk_ws ?_ | refine pk_wp (by omega) ?_ | refine pk_b ?_ (fun _ => ?_))
theorem pk_pm_go_b173 (hk : 33 < k) (p3 : Int32) (p4 : Int32) (p5 : Int32) (p6 : Int32) (q0 : Int32) : pk_ k (pm_go_b173 p3 p4 p5 p6 q0) := by
  unfold pm_go_b173
  repeat' with_reducible (first | exact pk_r | refine pk_g (fun _ => ?_) | exact pk_pm_rest hk _ _ _ _ _ | refine pk_i ?_ ?_ | refine pk_ws ?_ | refine pk_wp (by omega) ?_ | refine pk_b ?_ (fun _ => ?_))
theorem pk_pm_go_b108 (hk : 33 < k) (p1 : Int32) (p3 : Int32) (p4 : Int32) (p5 : Int32) (p6 : Int32) : pk_ k (pm_go_b108 p1 p3 p4 p5 p6) := by
  unfold pm_go_b108
  repeat' with_reducible (first | exact pk_r | refine pk_g (fun _ => ?_) | exact pk_pm_post hk _ _ _ _ _ _ | exact pk_pm_pack hk _ _ _ | exact pk_pm_go_b173 hk _ _ _ _ _  | refine pk_i ?_ ?_ | refine pk_ws ?_ | refine pk_wp (by omega) ?_ | refine pk_b ?_ (fun _ => ?_))
theorem pk_pm_go_b38 (hk : 33 < k) (p1 : Int32) (p3 : Int32) (p4 : Int32) (p5 : Int32) (p6 : Int32) : pk_ k (pm_go_b38 p1 p3 p4 p5 p6) := by
  unfold pm_go_b38
  repeat' with_reducible (first | exact pk_r | refine pk_g (fun _ => ?_) | exact pk_pm_waits hk _ | exact pk_pm_go_b72 hk _ | exact pk_pm_go_b108 hk _ _ _ _ _  | refine pk_i ?_ ?_ | refine pk_ws ?_ | refine pk_wp (by omega) ?_ | refine pk_b ?_ (fun _ => ?_))
theorem pk_pm_go_b6 (hk : 33 < k) (rec6 : Int32 × Int32 × Int32 × Int32 × Int32 × Int32 → pm_M Unit) (p1 : Int32) (p3 : Int32) (p4 : Int32) (p5 : Int32) (p6 : Int32) (p7 : Int32) (hr : ∀ x, pk_ k (rec6 x)) : pk_ k (pm_go_b6 rec6 p1 p3 p4 p5 p6 p7) := by
  unfold pm_go_b6
  repeat' with_reducible (first | exact pk_r | refine pk_g (fun _ => ?_) | exact hr _ | exact pk_pm_passes hk _ _ | exact pk_pm_go_b38 hk _ _ _ _ _  | refine pk_i ?_ ?_ | refine pk_ws ?_ | refine pk_wp (by omega) ?_ | refine pk_b ?_ (fun _ => ?_))
theorem pk_pm_go (hk : 33 < k) (v1 : Int32) (v2 : Int32) (v3 : Int32) (v4 : Int32) (v5 : Int32) : pk_ k (pm_go v1 v2 v3 v4 v5) := by
  unfold pm_go
  repeat' with_reducible (first | exact pk_t (fun g hg x => pk_pm_go_b6 hk g _ _ _ _ _ _ hg) _ _ | exact pk_r | refine pk_g (fun _ => ?_) | exact pk_pm_go_b6 hk _ _ _ _ _ _ _ hr  | refine pk_i ?_ ?_ | refine pk_ws ?_ | refine pk_wp (by omega) ?_ | refine pk_b ?_ (fun _ => ?_))
theorem pk_pm_unrest_b12 (hk : 33 < k) (rec12 : Int32 → pm_M Unit) (p2 : Int32) (hr : ∀ x, pk_ k (rec12 x)) : pk_ k (pm_unrest_b12 rec12 p2) := by
  unfold pm_unrest_b12
  repeat' with_reducible (first | exact pk_r | refine pk_g (fun _ => ?_) | exact hr _ | refine pk_i ?_ ?_ | refine pk_ws ?_ | refine pk_wp (by omega) ?_ | refine pk_b ?_ (fun _ => ?_))
theorem pk_pm_unrest (hk : 33 < k) (v1 : Int32) : pk_ k (pm_unrest v1) := by
  unfold pm_unrest
  repeat' with_reducible (first | exact pk_t (fun g hg x => pk_pm_unrest_b12 hk g _ hg) _ _ | exact pk_r | refine pk_g (fun _ => ?_) | exact pk_pm_unrest_b12 hk _ _ hr  | refine pk_i ?_ ?_ | refine pk_ws ?_ | refine pk_wp (by omega) ?_ | refine pk_b ?_ (fun _ => ?_))
theorem pk_pm_settle_b137 (hk : 33 < k) (rec137 : Int32 × Int32 × Int32 → pm_M Unit) (p1 : Int32) (p2 : Int32) (p5 : Int32) (hr : ∀ x, pk_ k (rec137 x)) : pk_ k (pm_settle_b137 rec137 p1 p2 p5) := by
  unfold pm_settle_b137
  repeat' with_reducible (first | exact pk_r | refine pk_g (fun _ => ?_) | exact hr _ | exact pk_pm_go hk _ _ _ _ _ | exact pk_pm_unrest hk _  | refine pk_i ?_ ?_ | refine pk_ws ?_ | refine pk_wp (by omega) ?_ | refine pk_b ?_ (fun _ => ?_))
theorem pk_pm_settle_b133 (hk : 33 < k) (p1 : Int32) (p2 : Int32) (q0 : Int32) (q1 : Int32) : pk_ k (pm_settle_b133 p1 p2 q0 q1) := by
  unfold pm_settle_b133
  repeat' with_reducible (first | exact pk_t (fun g hg x => pk_pm_settle_b137 hk g _ _ _ hg) _ _ | exact pk_r | refine pk_g (fun _ => ?_) | exact pk_pm_settle_b137 hk _ _ _ _ hr  | refine pk_i ?_ ?_ | refine pk_ws ?_ | refine pk_wp (by omega) ?_ | refine pk_b ?_ (fun _ => ?_))
theorem pk_pm_settle_b110 (hk : 33 < k) (p1 : Int32) (p2 : Int32) (p3 : Int32) (p4 : Int32) : pk_ k (pm_settle_b110 p1 p2 p3 p4) := by
  unfold pm_settle_b110
  repeat' with_reducible (first | exact pk_r | refine pk_g (fun _ => ?_) | exact pk_pm_settle_b133 hk _ _ _ _  | refine pk_i ?_ ?_ | refine pk_ws ?_ | refine pk_wp (by omega) ?_ | refine pk_b ?_ (fun _ => ?_))
theorem pk_pm_settle_b72 (hk : 33 < k) (rec72 : Int32 × Int32 × Int32 × Int32 × Int32 → pm_M Unit) (p1 : Int32) (p2 : Int32) (p3 : Int32) (p4 : Int32) (p5 : Int32) (hr : ∀ x, pk_ k (rec72 x)) : pk_ k (pm_settle_b72 rec72 p1 p2 p3 p4 p5) := by
  unfold pm_settle_b72
  repeat' with_reducible (first | exact pk_r | refine pk_g (fun _ => ?_) | exact hr _ | exact pk_pm_passes hk _ _ | exact pk_pm_settle_b110 hk _ _ _ _  | refine pk_i ?_ ?_ | refine pk_ws ?_ | refine pk_wp (by omega) ?_ | refine pk_b ?_ (fun _ => ?_))
theorem pk_pm_settle (hk : 33 < k) (v1 : Int32) (v2 : Int32) (v3 : Int32) : pk_ k (pm_settle v1 v2 v3) := by
  unfold pm_settle
  repeat' with_reducible (first | exact pk_t (fun g hg x => pk_pm_settle_b72 hk g _ _ _ _ _ hg) _ _ | exact pk_r | refine pk_g (fun _ => ?_) | exact pk_pm_post hk _ _ _ _ _ _ | exact pk_pm_pack hk _ _ _ | exact pk_pm_settle_b72 hk _ _ _ _ _ _ hr  | refine pk_i ?_ ?_ | refine pk_ws ?_ | refine pk_wp (by omega) ?_ | refine pk_b ?_ (fun _ => ?_))
theorem pk_pm_mourn_b2 (hk : 33 < k) (rec2 : Int32 × Int32 → pm_M Unit) (p1 : Int32) (p2 : Int32) (hr : ∀ x, pk_ k (rec2 x)) : pk_ k (pm_mourn_b2 rec2 p1 p2) := by
  unfold pm_mourn_b2
  repeat' with_reducible (first | exact pk_r | refine pk_g (fun _ => ?_) | exact hr _ | exact pk_pm_settle hk _ _ _  | refine pk_i ?_ ?_ | refine pk_ws ?_ | refine pk_wp (by omega) ?_ | refine pk_b ?_ (fun _ => ?_))
theorem pk_pm_mourn (hk : 33 < k) (v1 : Int32) : pk_ k (pm_mourn v1) := by
  unfold pm_mourn
  repeat' with_reducible (first | exact pk_t (fun g hg x => pk_pm_mourn_b2 hk g _ _ hg) _ _ | exact pk_r | refine pk_g (fun _ => ?_) | exact pk_pm_mourn_b2 hk _ _ _ hr  | refine pk_i ?_ ?_ | refine pk_ws ?_ | refine pk_wp (by omega) ?_ | refine pk_b ?_ (fun _ => ?_))
end PKM
