/-! What is in reach may be used; bounds on the counts. -/
/-- what b lets go of e -/
def gc_l (e b : Nat) (r : zm_L) : Int := if r.1 = 3 ∧ r.2.1 = b ∧ r.2.2.2.1 = e then r.2.2.2.2.1.toInt else 0
def zE (N : Int) (Z : zz_S) : Prop := ∀ e b, b < 4 → ei_ (ze_ Z e) b + gs_ (gc_l e b) (zl_ Z) ≤ N
section ZEI
variable {Z X : zz_S} {v w u e q p t a b o r : Nat} {x : Int32} {lost : List Nat} {N : Int} {l : List Nat} {n : Nat} {D : Nat → Bool}
theorem reach_okr (h : zB Z) (hv : v < 4) : ∀ (k e : Nat), z_reach Z v k e = true → okr Z v e := by
  obtain ⟨a1, a2, a3, a4, a5, a6, a7⟩ := h
  have rest : ∀ r ∈ zr_ Z, zr_w Z r = v → okr Z v r.2.1 ∧ okr Z v r.2.2.2.1 := fun r hr hw => by
    obtain ⟨t1, t2, t3⟩ := a5.2 r hr
    rw [hw] at t1 t3
    exact ⟨Or.inr (Or.inl ⟨t1, t2⟩), t3⟩
  have hw1 : ∀ r ∈ zr_ Z, 100 < r.1 → zh_ Z r.1 = v → zr_w Z r = v := fun r hr h1 h2 => by
    unfold zr_w
    rw [if_neg (by omega)]
    exact h2
  have hw2 : ∀ r ∈ zr_ Z, r.1 = v → zr_w Z r = v := fun r hr h1 => by
    unfold zr_w
    rw [if_pos (by omega)]
    exact h1
  intro k
  induction k with
  | zero =>
    intro e he
    unfold z_reach at he
    rw [Bool.and_eq_true] at he
    rcases root_or.mp he.2 with c | ⟨r, hr, c | c⟩
    · unfold zk_r1 zk_live at c
      simp only [Bool.and_eq_true, decide_eq_true_eq] at c
      exact Or.inr (Or.inl ⟨c.1.2, by simpa using c.1.1.2⟩)
    · have := rest r hr (hw2 r hr c.1)
      rcases c.2 with d | d
      · rw [← d]; exact this.1
      · rw [← d]; exact this.2
    · have := rest r hr (hw1 r hr c.1 c.2.1)
      rcases (a3.2.2.1 r hr).2.2.2 with d | d
      · omega
      · rw [← c.2.2, ← d.2]
        exact this.1
  | succ k ih =>
    intro e he
    unfold z_reach at he
    rw [Bool.or_eq_true] at he
    rcases he with he | he
    · exact ih e he
    · rw [Bool.and_eq_true, List.any_eq_true] at he
      obtain ⟨h0, f, hf, hn⟩ := he
      rw [Bool.and_eq_true] at hn
      have hof := ih f hn.1
      rcases next_or.mp hn.2 with c | ⟨r, hr, c1, c2, c3, c4⟩
      · obtain ⟨d1, d2, d3⟩ := n1_dest c
        obtain ⟨t1, t2⟩ := a5.1 f d1
        rw [d2] at t1 t2
        rcases d3 with ⟨e1, e2, e3⟩ | ⟨e1, s, e2, e3⟩
        · rw [← e3]
          exact t1 e1 e2
        · rw [← e3]
          exact t2 e1 s e2
      · subst c1
        rw [← c4]
        exact (rest r hr (hw1 r hr c2 c3)).2
theorem gl_n {r : zm_L} (h : r.1 ≠ 3) : gc_l e b r = 0 := by
  unfold gc_l
  rw [if_neg (fun c => h c.1)]
theorem gl_pos (h : gG Z) : ∀ r ∈ zl_ Z, 0 ≤ gc_l e b r := fun r hr => by
  unfold gc_l
  split
  · rename_i c
    have := (h.2.1 r hr).2.2.1 c.1
    omega
  · exact Int.le_refl _
/-- the same imports, and what is let go -/
def zl_s (Z X : zz_S) : Prop := ∀ e b, ei_ (ze_ X e) b = ei_ (ze_ Z e) b ∧ gs_ (gc_l e b) (zl_ X) = gs_ (gc_l e b) (zl_ Z)
theorem zls_i : zl_s Z Z := fun _ _ => ⟨rfl, rfl⟩
theorem zls_t {Y : zz_S} (h1 : zl_s Z X) (h2 : zl_s X Y) : zl_s Z Y := fun e b => ⟨(h2 e b).1.trans (h1 e b).1, (h2 e b).2.trans (h1 e b).2⟩
theorem zls_post {kind a b what : Nat} {v : Int32} (hk : kind ≠ 3) : zl_s Z (z_post Z kind a b what v e q) := fun f c => by
  refine ⟨rfl, ?_⟩
  show gs_ (gc_l f c) (zl_ Z ++ [(kind, a, b, what, v, e, q)]) = _
  rw [gs_a, gs_1, gl_n hk]
  omega
theorem zls_j {f : Nat} {E : ze_E} (h : ei_ E = ei_ (ze_ Z f)) : zl_s Z (zj_e Z f E) := fun e b => by
  refine ⟨?_, rfl⟩
  by_cases c : e = f
  · subst c
    rw [ze_s, h]
  · rw [ze_n c]
theorem zls_pack : zl_s Z (z_pack Z a b e) := by
  unfold z_pack
  split
  · exact zls_i
  · split
    · exact zls_j rfl
    · split
      · exact zls_post (by decide)
      · exact zls_i
theorem zls_go : zl_s Z (z_go Z lost w u x e q).1 := by
  unfold z_go
  generalize z_follow Z w 101 u = t
  dsimp only
  split
  · exact zls_i
  · split
    · exact zls_t zls_pack (zls_post (by decide))
    · exact zls_i
theorem zls_fold : ∀ (m : List zr_R) (s : zz_S × List Nat), zl_s s.1 (m.foldl (fun s r => z_go s.1 s.2 w u r.2.2.1 r.2.2.2.1 r.2.2.2.2) s).1
  | [], _ => zls_i
  | r :: m, s => zls_t (zls_go (Z := s.1) (lost := s.2)) (zls_fold m _)
theorem zls_settle {ref : Nat} : zl_s Z (z_settle Z lost w p ref).1 := by
  unfold z_settle
  split
  · exact zls_i
  · split
    · exact zls_t zls_pack (zls_post (by decide))
    · split
      · exact zls_i
      · dsimp only
        refine zls_t (X := zj_r (zj_e Z p _) _) ?_ (zls_fold _ _)
        exact zls_j (f := p) (E := ej_s (ze_ Z p) (if z_meet Z w p 101 ref = true then 0 else ref)) rfl
theorem zls_mourn : ∀ (k : Nat) (Z : zz_S) (l : List Nat), zl_s Z (z_mourn w k Z l)
  | 0, _, _ => zls_i
  | _ + 1, _, [] => zls_i
  | k + 1, Z, q :: l => by
    unfold z_mourn
    exact zls_t zls_settle (zls_mourn k _ _)
theorem zls_done {s : zz_S × List Nat} : zl_s s.1 (z_done w s) := zls_mourn 101 s.1 s.2
theorem zE_s (h : zE N Z) (hs : zl_s Z X) : zE N X := fun e b hb => by
  rw [(hs e b).1, (hs e b).2]
  exact h e b hb
theorem zE_m {M : Int} (h : zE N Z) (hm : N ≤ M) : zE M Z := fun e b hb => Int.le_trans (h e b hb) hm
/-- one import more, perhaps -/
theorem zE_j (h : zE N Z) {f : Nat} {E : ze_E} (hE : ∀ c, ei_ E c ≤ ei_ (ze_ Z f) c + 1) : zE (N + 1) (zj_e Z f E) := fun e c hc => by
  show ei_ (ze_ (zj_e Z f E) e) c + gs_ (gc_l e c) (zl_ Z) ≤ N + 1
  have h1 := h e c hc
  by_cases d : e = f
  · subst d
    rw [ze_s]
    have := hE c
    omega
  · rw [ze_n d]
    omega
theorem zE_del {A B : List zm_L} {m : zm_L} (h : zE N Z) (hL : zl_ Z = A ++ m :: B) (hm : ∀ e b, 0 ≤ gc_l e b m) : zE N (zj_l Z (A ++ B)) := fun e c hc => by
  show ei_ (ze_ Z e) c + gs_ (gc_l e c) (A ++ B) ≤ N
  have h1 := h e c hc
  rw [hL, gs_a, gs_c] at h1
  rw [gs_a]
  have := hm e c
  omega
theorem zE_deliver (h : zE N Z) (hg : gG Z) (ha : a < 4) (hb : b < 4) : zE (N + 1) (z_deliver Z a b).1 := by
  unfold z_deliver
  cases ho : z_old a b (zl_ Z) with
  | none => exact zE_m h (by omega)
  | some y =>
    obtain ⟨r, m⟩ := y
    obtain ⟨A, B, hL, hm, -, -, -⟩ := zold_split ho
    subst hm
    have hr : r ∈ zl_ Z := by rw [hL]; exact List.mem_append_right _ List.mem_cons_self
    have h0 := zE_del h hL (fun e c => gl_pos hg r hr)
    dsimp only
    have h1 : zE (N + 1) (z_unpack (zj_l Z (A ++ B)) a b r.2.2.2.2.2.1) := by
      unfold z_unpack
      split
      · exact zE_m h0 (by omega)
      · have h2 : zE (N + 1) (zj_e (zj_l Z (A ++ B)) r.2.2.2.2.2.1 (ej_i (ze_ (zj_l Z (A ++ B)) r.2.2.2.2.2.1) b (ei_ (ze_ (zj_l Z (A ++ B)) r.2.2.2.2.2.1) b + 1))) := zE_j h0 (fun c => by
          rw [ei_i]
          split
          · rename_i d
            rw [d]
            omega
          · omega)
        dsimp only
        split
        · exact zE_s h2 (zls_post (by decide))
        · exact h2
    generalize z_unpack (zj_l Z (A ++ B)) a b r.2.2.2.2.2.1 = Z1 at h1
    split
    · exact zE_s h1 (zls_t zls_go zls_done)
    · split
      · exact zE_s h1 (zls_t zls_settle zls_done)
      · split
        · exact zE_s h1 (zls_j rfl)
        · split
          · unfold z_pair
            dsimp only
            split
            · exact zE_s h1 (zls_j rfl)
            · exact zE_s h1 (zls_j rfl)
          · unfold z_pair
            dsimp only
            split
            · exact zE_s h1 (zls_j rfl)
            · exact zE_s h1 (zls_j rfl)
theorem zE_give {s : Nat} (h : zE N Z) : zE (N + 1) (z_give Z v s w) := by
  unfold z_give
  have h1 : zE N (zj_e Z (v + 1) (ej_l (ze_ Z (v + 1)) s (w + 1))) := zE_s h (zls_j rfl)
  dsimp only
  split
  · exact zE_m h1 (by omega)
  · generalize zj_e Z (v + 1) (ej_l (ze_ Z (v + 1)) s (w + 1)) = Z1 at h1
    have h2 : zE N (zj_e Z1 (w + 1) (ej_x (ze_ Z1 (w + 1)) v 1)) := zE_s h1 (zls_j rfl)
    refine zE_j h2 (fun c => ?_)
    rw [ei_i]
    split
    · rename_i d
      rw [d]
      omega
    · omega
theorem zE_act (h : zE N Z) (hd : zd_ (zk_K Z) Z) (hz : zw_n Z) {op y : Int32} : zE (N + 1) (z_act v o (Z, x, r) op y).1.1 := by
  have hm : zE (N + 1) Z := zE_m h (by omega)
  unfold z_act
  by_cases k0 : op = 0
  · rw [if_pos k0]; exact hm
  rw [if_neg k0]
  by_cases k1 : op = 1
  · rw [if_pos k1]; exact hm
  rw [if_neg k1]
  by_cases k2 : op = 2
  · rw [if_pos k2]; exact zE_s hm (zls_j rfl)
  rw [if_neg k2]
  by_cases k3 : op = 3
  · rw [if_pos k3]; exact zE_s hm (zls_j rfl)
  rw [if_neg k3]
  by_cases k4 : op = 4
  · rw [if_pos k4]; exact hm
  rw [if_neg k4]
  by_cases k5 : op = 5
  · rw [if_pos k5]; exact hm
  rw [if_neg k5]
  by_cases k6 : op = 6
  · rw [if_pos k6]
    show zE (N + 1) (z_fresh Z v y.toNatClampNeg x r).1
    unfold z_fresh
    by_cases hc : 60 ≤ zo_ Z
    · rw [if_pos hc]; exact hm
    · rw [if_neg hc]
      refine zE_s hm (zls_j (Z := zj_o Z (zo_ Z + 1)) ?_)
      show (fun _ => (0 : Int)) = ei_ (ze_ Z (zo_ Z + 1))
      rw [zi_newo hd (by omega)]
      rfl
  rw [if_neg k6]
  by_cases k7 : op = 7
  · rw [if_pos k7]
    show zE (N + 1) (z_send Z v (el_ (ze_ Z o) y.toNatClampNeg) x r).1
    generalize el_ (ze_ Z o) y.toNatClampNeg = t
    by_cases h0 : t = 0 ∨ 100 ≤ zp_ Z
    · rw [zsend_0 h0]; exact hm
    · have hp : zp_ Z < 100 := by omega
      rw [zsend_e (by omega) hp]
      have hpr : zE N (z_prom Z (zh_ Z t)) := by
        refine zE_s h (zls_j (Z := zj_p Z (zp_ Z + 1)) ?_)
        show (fun _ => (0 : Int)) = ei_ (ze_ Z (101 + zp_ Z))
        rw [zi_newp hd hz]
        rfl
      have hei : ∀ c, ei_ (ze_ (z_prom Z (zh_ Z t)) (101 + zp_ Z)) c = 0 := fun c => by unfold z_prom; rw [ze_s]; rfl
      generalize z_prom Z (zh_ Z t) = Z1 at hpr hei
      split
      · exact zE_s (zE_m hpr (by omega)) (zls_t zls_go zls_done)
      · have h2 : zl_s Z1 (z_post (z_pack Z1 v (zh_ Z t) r) 1 v (zh_ Z t) t x r (101 + zp_ Z)) := zls_t zls_pack (zls_post (by decide))
        refine zE_j (zE_s hpr h2) (fun c => ?_)
        rw [ei_i]
        have := (h2 (101 + zp_ Z) c).1
        rw [hei c] at this
        split
        · omega
        · show ei_ (ze_ (z_post (z_pack Z1 v (zh_ Z t) r) 1 v (zh_ Z t) t x r (101 + zp_ Z)) (101 + zp_ Z)) c ≤ _
          omega
  rw [if_neg k7]
  by_cases k8 : op = 8
  · rw [if_pos k8]; exact hm
  rw [if_neg k8]
  by_cases k9 : op = 9
  · rw [if_pos k9]; exact hm
  rw [if_neg k9]
  exact hm
theorem zE_run (hl : l.Nodup) (hv : v < 4) : ∀ (L : List (Int32 × Int32)) (k : Nat) (S : zz_S × Int32 × Nat) (N : Int), zi_ l n S.1 → zk_K S.1 S.2.2 → 1 ≤ o ∧ o ≤ zo_ S.1 → (∀ i ∈ L, zo_i i) → zE N S.1 → zE (N + L.length) (z_run v o L k S).1
  | [], k, S, N, _, _, _, _, h => by
    cases k <;> exact zE_m h (by simp)
  | i :: L, k + 1, S, N, h1, h2, h3, h4, h => by
    refine zE_m (zE_run hl hv L k S N h1 h2 h3 (fun x hx => h4 x (List.mem_cons_of_mem _ hx)) h) ?_
    rw [List.length_cons]
    omega
  | i :: L, 0, S, N, h1, h2, h3, h4, h => by
    obtain ⟨b1, b2, b3, b4, b5, b6⟩ := zi_act (x := S.2.1) hl h1 hv h3 h2 (op := i.1) (y := i.2) (h4 i List.mem_cons_self)
    have h5 := zE_act (v := v) (o := o) (x := S.2.1) (r := S.2.2) h h1.2.2.1 h1.1 (op := i.1) (y := i.2)
    refine zE_m (zE_run hl hv L (z_act v o S i.1 i.2).2 (z_act v o S i.1 i.2).1 (N + 1) b1 b2 ⟨h3.1, Nat.le_trans h3.2 b6⟩ (fun x hx => h4 x (List.mem_cons_of_mem _ hx)) h5) ?_
    rw [List.length_cons]
    omega
theorem zE_turn (hl : l.Nodup) (hi : zi_ l n Z) (hv : v < 4) (h : zE N Z) : zE (N + 8) (z_turn Z v).1 := by
  unfold z_turn
  rcases zfirst_or v (zr_ Z) with ⟨h1, h2⟩ | ⟨i, r, h1, h2, h3, h4⟩
  · rw [h1]
    exact zE_m h (by omega)
  · rw [h2]
    dsimp only
    have hr : r ∈ zr_ Z := List.mem_of_getElem? h1
    obtain ⟨t1, t2, t3⟩ := zi_take hi (er_perm h1)
    obtain ⟨r1, r2, r3, r4⟩ := hi.2.2.1.2.2.1 r hr
    have ho : 1 ≤ r.2.1 ∧ r.2.1 ≤ zo_ Z := by
      have := zk_K3 r1
      rcases r4 with c | c <;> omega
    have hG := hi.1.2.2.2.2.2 _ (hi.2.2.1.1 r.2.1).2.2
    have := zE_run (o := r.2.1) hl hv (zg_ Z (ep_ (ze_ Z r.2.1))) 0 (zj_r Z ((zr_ Z).eraseIdx i), r.2.2.1, r.2.2.2.1) N t1 r2 ho (fun x hx => hi.2.2.2 _ x hx) h
    exact zE_s (zE_m this (by omega)) (zls_t zls_settle zls_done)
theorem zE_drop (hv : v < 4) (hx : ∀ e, e ≤ 200 → ei_ (ze_ X e) v < 1000000) (h : zE N X) : ∀ (k : Nat), k ≤ 201 → zE N (z_drop D v X k)
  | 0, _ => h
  | k + 1, hk => by
    have ih := zE_drop hv hx h k (by omega)
    have hei := zdrop_i (X := X) (D := D) (v := v) k k v
    rw [if_neg (by omega)] at hei
    have hb := hx k (by omega)
    rw [← hei] at hb
    rw [zdrop_s]
    split
    · rename_i hc
      generalize z_drop D v X k = Y at ih hc hb
      intro e c hcc
      have h1 := ih e c hcc
      show ei_ (ze_ (zj_e Y k (ej_i (ze_ Y k) v 0)) e) c + gs_ (gc_l e c) (zl_ Y ++ [(3, v, zh_ Y k, k, Int32.ofInt (ei_ (ze_ Y k) v), 0, 0)]) ≤ N
      rw [gs_a, gs_1]
      by_cases d : e = k
      · subst d
        rw [ze_s, ei_i]
        by_cases f : c = v
        · subst f
          rw [if_pos rfl]
          have : gc_l e c (3, c, zh_ Y e, e, Int32.ofInt (ei_ (ze_ Y e) c), 0, 0) = ei_ (ze_ Y e) c := by
            unfold gc_l
            rw [if_pos ⟨rfl, rfl, rfl⟩]
            exact oi_t (by omega) hb
          omega
        · rw [if_neg f]
          have : gc_l e c (3, v, zh_ Y e, e, Int32.ofInt (ei_ (ze_ Y e) v), 0, 0) = 0 := by
            unfold gc_l
            rw [if_neg (fun z => f z.2.1.symm)]
          omega
      · rw [ze_n d]
        have : gc_l e c (3, v, zh_ Y k, k, Int32.ofInt (ei_ (ze_ Y k) v), 0, 0) = 0 := by
          unfold gc_l
          rw [if_neg (fun z => d z.2.2.symm)]
        omega
    · exact ih
theorem zE_sweep (hv : v < 4) (hx : ∀ e, e ≤ 200 → ei_ (ze_ Z e) v < 1000000) (h : zE N Z) : zE N (z_sweep Z v D).1 := by
  rw [zsw_1]
  obtain ⟨f1, f2, f3, f4, f5, f6⟩ := zfree_f (Z := Z) (v := v) (D := D) 201
  have hE : ∀ e, ei_ (ze_ (z_free Z v D 201) e) = ei_ (ze_ Z e) := fun e => by unfold ei_; rw [(f6 e).2]
  have h0 : zE N (z_free Z v D 201) := fun e c hc => by
    rw [hE, f4]
    exact h e c hc
  exact zE_drop hv (fun e he => by rw [hE]; exact hx e he) h0 201 (by omega)
/-- small counts -/
theorem gs_bd {f : zm_L → Int} {K : Int} (hK : 0 ≤ K) : ∀ (L : List zm_L), (∀ r ∈ L, -K ≤ f r ∧ f r ≤ K) → -(K * L.length) ≤ gs_ f L ∧ gs_ f L ≤ K * L.length
  | [], _ => by simp [gs_]
  | r :: L, h => by
    have h1 := h r List.mem_cons_self
    have ih := gs_bd hK L (fun x hx => h x (List.mem_cons_of_mem _ hx))
    rw [gs_c, List.length_cons]
    have e1 : K * ((L.length + 1 : Nat) : Int) = K * (L.length : Int) + K := by
      rw [Int.natCast_succ, Int.mul_add, Int.mul_one]
    omega
theorem zx_of (h : zB Z) (hE : zE N Z) (hN : N ≤ 100000) (hlen : (zl_ Z).length ≤ 2100) : zx_b Z 1000000 := by
  intro e he
  by_cases hm : zk_made Z e = true
  · obtain ⟨j1, j2, j3, j4, k1, k2, k3, k4⟩ := h.2.2.2.1.1 e hm
    have c1 : ∀ a b, 0 ≤ gs_ (gc_c e a b) (zl_ Z) ∧ gs_ (gc_c e a b) (zl_ Z) ≤ (zl_ Z).length := fun a b => by
      refine ⟨gc_c_pos, ?_⟩
      have := (gs_bd (f := gc_c e a b) (K := 1) (by omega) (zl_ Z) (fun r _ => by unfold gc_c; split <;> omega)).2
      omega
    have q1 : ∀ a b, -((zl_ Z).length : Int) ≤ gs_ (gc_q e a b) (zl_ Z) ∧ gs_ (gc_q e a b) (zl_ Z) ≤ (zl_ Z).length := fun a b => by
      have := gs_bd (f := gc_q e a b) (K := 1) (by omega) (zl_ Z) (fun r _ => by unfold gc_q; split <;> (try split) <;> omega)
      omega
    have o1 : ∀ a b, a < 4 → b < 4 → -5000 < eo_ (ze_ Z e) a b ∧ eo_ (ze_ Z e) a b < 5000 := fun a b ha hb => by
      by_cases c : a = eh_ (ze_ Z e) ∨ b = eh_ (ze_ Z e)
      · rw [k4 a b ha hb c]
        omega
      · have h1 := j2 a b ha hb (fun z => c (Or.inl z)) (fun z => c (Or.inr z))
        have h2 := c1 a b
        have h3 := q1 a b
        omega
    have i1 : ∀ b, b < 4 → 0 ≤ ei_ (ze_ Z e) b ∧ ei_ (ze_ Z e) b ≤ N ∧ 0 ≤ gs_ (gc_l e b) (zl_ Z) := fun b hb => by
      have h1 := hE e b hb
      have h2 : 0 ≤ gs_ (gc_l e b) (zl_ Z) := gs_pos (gl_pos h.2.2.2.1)
      have h3 := k3 b hb
      omega
    refine ⟨fun b hb => ?_, fun a b ha hb => by have := o1 a b ha hb; omega⟩
    obtain ⟨i2, i3, i4⟩ := i1 b hb
    have hx : -1000000 < ex_ (ze_ Z e) b ∧ ex_ (ze_ Z e) b < 1000000 := by
      by_cases c : b = eh_ (ze_ Z e)
      · rw [c, k1]
        omega
      · have h1 := j1 b hb c
        have h2 := c1 (eh_ (ze_ Z e)) b
        have h3 := hE e b hb
        -- redeems less releases
        have h4 : -gs_ (gc_l e b) (zl_ Z) ≤ gs_ (gc_p e b) (zl_ Z) ∧ gs_ (gc_p e b) (zl_ Z) ≤ (zl_ Z).length := by
          have key : ∀ L : List zm_L, (∀ r ∈ L, 0 ≤ gc_l e b r) → -gs_ (gc_l e b) L ≤ gs_ (gc_p e b) L ∧ gs_ (gc_p e b) L ≤ L.length := by
            intro L
            induction L with
            | nil => exact fun _ => by simp [gs_]
            | cons r L ih =>
              intro hp
              have h5 := ih (fun x hx => hp x (List.mem_cons_of_mem _ hx))
              have h6 := hp r List.mem_cons_self
              rw [gs_c, gs_c, List.length_cons]
              have h7 : -gc_l e b r ≤ gc_p e b r ∧ gc_p e b r ≤ 1 := by
                unfold gc_l gc_p at *
                by_cases d : r.1 = 5 ∧ r.2.1 = b ∧ r.2.2.2.1 = e
                · rw [if_pos d]
                  omega
                · rw [if_neg d]
                  by_cases f : r.1 = 3 ∧ r.2.1 = b ∧ r.2.2.2.1 = e
                  · rw [if_pos f] at h6 ⊢
                    rw [if_pos f]
                    omega
                  · rw [if_neg f, if_neg f]
                    omega
              omega
          exact key _ (gl_pos h.2.2.2.1)
        have z0 : ∀ x : Int, -5000 < x → x < 5000 → 0 ≤ zm0 x ∧ zm0 x < 5000 := fun x _ _ => by unfold zm0; split <;> omega
        unfold gc_0 at h1
        have w0 := z0 _ (o1 0 b (by decide) hb).1 (o1 0 b (by decide) hb).2
        have w1 := z0 _ (o1 1 b (by decide) hb).1 (o1 1 b (by decide) hb).2
        have w2 := z0 _ (o1 2 b (by decide) hb).1 (o1 2 b (by decide) hb).2
        have w3 := z0 _ (o1 3 b (by decide) hb).1 (o1 3 b (by decide) hb).2
        omega
    exact ⟨hx.1, hx.2, by omega, by omega⟩
  · have h0 : ze_ Z e = e0_ := h.2.2.1.2.1 e (by
      by_cases c : e = 0
      · exact Or.inl c
      · exact Or.inr (fun z => z.elim c hm))
    rw [h0]
    exact ⟨fun b _ => ⟨(by decide : (-1000000 : Int) < 0), (by decide : (0 : Int) < 1000000), (by decide : (-1000000 : Int) < 0), (by decide : (0 : Int) < 1000000)⟩, fun a b _ _ => ⟨(by decide : (-1000000 : Int) < 0), (by decide : (0 : Int) < 1000000)⟩⟩
end ZEI
