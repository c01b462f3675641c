/-! The class's constructor, whole. -/
/-- the class's picture at the start -/
def wz_ (n : Nat) : cw_W := ((n, n, 0), (fun e => decide (1 ≤ e ∧ e ≤ n)), (fun _ => (0, (fun _ => 0), (fun _ => 0))), ze_ (z0_ n), (fun _ => 0), (fun _ => []), (fun _ => (0, 0, 0)), (fun _ => none), (fun _ => none), (fun _ => []), (0, 0, 0, 0), (0, fun _ => none), (0, fun _ => none))
/-- new cells, one behind the other -/
def ads_ (st : st_S) (l : List ce_E) : st_S := l.foldl st_ad st
section CIN2
variable {gl : gl_T} {fx : fx_T} {ad : Nat × Nat → Nat} {n n0 : Nat} {st : st_S} {β : Type}
theorem ads_o : ∀ (l : List ce_E) (s : st_S) (a : Nat), a < s.2 → (ads_ s l).1 a = s.1 a
  | [], s, a, _ => rfl
  | c :: l, s, a, h => (ads_o l (st_ad s c) a (Nat.lt_succ_of_lt h)).trans (ad_n (Nat.ne_of_lt h))
theorem ads_u {a : Nat} {c : ce_E} : ∀ (l : List ce_E) (s : st_S), a < s.2 → st_up (ads_ s l) a c = ads_ (st_up s a c) l
  | [], s, _ => rfl
  | d :: l, s, h => (ads_u l (st_ad s d) (Nat.lt_succ_of_lt h)).trans (by rw [up_ad (Nat.ne_of_lt h)]; rfl)
theorem ads_2 : ∀ (l : List ce_E) (s : st_S), (ads_ s l).2 = s.2 + l.length
  | [], s => rfl
  | d :: l, s => (ads_2 l (st_ad s d)).trans (by rw [List.length_cons]; show s.2 + 1 + l.length = _; omega)
theorem ads_s {l : List ce_E} {s : st_S} {d : ce_E} : st_ad (ads_ s l) d = ads_ s (l ++ [d]) := by
  unfold ads_
  rw [List.foldl_append]
  rfl
theorem ads_at {c : ce_E} {l : List ce_E} : (ads_ (st_ad st c) l).1 st.2 = some c := (ads_o l _ _ (Nat.lt_succ_self _)).trans ad_s
theorem ads_up {c c' : ce_E} {l : List ce_E} : st_up (ads_ (st_ad st c) l) st.2 c' = ads_ (st_ad st c') l := (ads_u l _ (Nat.lt_succ_self _)).trans (by rw [ad_up])
/-- a new row or object that a field of the net gets -/
theorem i0_s {K : st_M β} {fs : List Value} {l : List ce_E} {r : ce_E} {j0 k i j : Nat} {x : β} {st2 : st_S} (hk : k < fs.length) (h : K (ads_ (st_ad st (.inr (.inr (0, fs.set k (.ref (st.2 + 1 + l.length)))))) (l ++ [r])) = some (x, st2, i, j)) :
    (st_n r j0 fun t => st_w (so_p (some st.2) [0] k (va_rf (some t))) K) (ads_ (st_ad st (.inr (.inr (0, fs)))) l) = some (x, st2, 1 + i, j0 + j) := by
  refine ru_n (i2 := i) (j2 := j) ?_ rfl rfl
  rw [ads_s, ads_2]
  refine ru_w _ (og_p ads_at (by simp) hk) ?_
  rw [ads_up]
  exact h
theorem i0_t {K : st_M β} {fs : List Value} {l : List ce_E} {i j : Nat} {x : β} {st2 : st_S} (hk : 5 < fs.length) (h : K (ads_ (st_ad st (.inr (.inr (0, fs.set 5 (.ref (st.2 + 1 + l.length)))))) (l ++ [.inr (.inr (1, cd_1))])) = some (x, st2, i, j)) :
    (st_n (.inr (.inr (1, cd_1))) 4 fun t => st_b (xT_init gl (some t)) fun _ => st_w (so_p (some st.2) [0] 5 (va_rf (some t))) K) (ads_ (st_ad st (.inr (.inr (0, fs)))) l) = some (x, st2, 1 + i, 4 + j) := by
  refine ru_n (i2 := i) (j2 := j) ?_ rfl rfl
  have hT : xT_init gl (some (ads_ (st_ad st (.inr (.inr (0, fs)))) l).2) (st_ad (ads_ (st_ad st (.inr (.inr (0, fs)))) l) (.inr (.inr (1, cd_1)))) = some ((), st_ad (ads_ (st_ad st (.inr (.inr (0, fs)))) l) (.inr (.inr (1, cd_1))), 0, 0) := by
    unfold xT_init
    exact ru_g _ (og_c ad_s) rfl
  refine ru_b (i2 := i) (j2 := j) hT ?_ (by omega) (by omega)
  rw [ads_s, ads_2]
  refine ru_w _ (og_p ads_at (by simp) hk) ?_
  rw [ads_up]
  exact h
theorem ib_0 : ∀ (q : Nat × Nat) (x : ce_E), ib_ gl ad n 0 0 0 0 0 q = some x → (ku_ (ku_ (ku_ (ku_ (ku_ (ku_ (ku_ (fun _ => none) (0, 0) (.inr (.inr (0, [.ref (ad (1, 0)), .ref (ad (2, 0)), .ref (ad (3, 0)), .int 0, .int 0, .ref (ad (4, 0)), .ref (ad (5, 0)), .int 0, .ref (ad (6, 0)), .int 0])))) (1, 0) (.inr (.inl (4, n, fun _ => none)))) (2, 0) (.inr (.inl (5, 8, fun _ => none)))) (3, 0) (.inr (.inl (6, 201, fun _ => none)))) (4, 0) (.inr (.inr (1, cd_1)))) (5, 0) (.inr (.inl (7, 100, fun _ => none)))) (6, 0) (.inr (.inl (6, 160, fun _ => none)))) q = some x
  | (0, i), x, h => by
    have hi : i = 0 := hic h
    subst hi
    rw [ku_n (k := (6, 0)) (q := (0, 0)) (fun z => by cases z), ku_n (k := (5, 0)) (q := (0, 0)) (fun z => by cases z), ku_n (k := (4, 0)) (q := (0, 0)) (fun z => by cases z), ku_n (k := (3, 0)) (q := (0, 0)) (fun z => by cases z), ku_n (k := (2, 0)) (q := (0, 0)) (fun z => by cases z), ku_n (k := (1, 0)) (q := (0, 0)) (fun z => by cases z), ku_s]
    exact h
  | (1, i), x, h => by
    have hi : i = 0 := hic h
    subst hi
    rw [ku_n (k := (6, 0)) (q := (1, 0)) (fun z => by cases z), ku_n (k := (5, 0)) (q := (1, 0)) (fun z => by cases z), ku_n (k := (4, 0)) (q := (1, 0)) (fun z => by cases z), ku_n (k := (3, 0)) (q := (1, 0)) (fun z => by cases z), ku_n (k := (2, 0)) (q := (1, 0)) (fun z => by cases z), ku_s]
    have e0 : (fun v : Nat => if v < 0 then some (ad (7, v)) else none) = fun _ => none := funext (fun v => if_neg (Nat.not_lt_zero v))
    rw [← e0]
    exact h
  | (2, i), x, h => by
    have hi : i = 0 := hic h
    subst hi
    rw [ku_n (k := (6, 0)) (q := (2, 0)) (fun z => by cases z), ku_n (k := (5, 0)) (q := (2, 0)) (fun z => by cases z), ku_n (k := (4, 0)) (q := (2, 0)) (fun z => by cases z), ku_n (k := (3, 0)) (q := (2, 0)) (fun z => by cases z), ku_s]
    have e0 : (fun v : Nat => if v < 0 then some (ad (13, v)) else none) = fun _ => none := funext (fun v => if_neg (Nat.not_lt_zero v))
    rw [← e0]
    exact h
  | (3, i), x, h => by
    have hi : i = 0 := hic h
    subst hi
    rw [ku_n (k := (6, 0)) (q := (3, 0)) (fun z => by cases z), ku_n (k := (5, 0)) (q := (3, 0)) (fun z => by cases z), ku_n (k := (4, 0)) (q := (3, 0)) (fun z => by cases z), ku_s]
    have e0 : (fun e : Nat => if 1 ≤ e ∧ e ≤ 0 then some (ad (16, e)) else none) = fun _ => none := funext (fun v => if_neg (by omega))
    rw [← e0]
    exact h
  | (4, i), x, h => by
    have hi : i = 0 := hic h
    subst hi
    rw [ku_n (k := (6, 0)) (q := (4, 0)) (fun z => by cases z), ku_n (k := (5, 0)) (q := (4, 0)) (fun z => by cases z), ku_s]
    exact h
  | (5, i), x, h => by
    have hi : i = 0 := hic h
    subst hi
    rw [ku_n (k := (6, 0)) (q := (5, 0)) (fun z => by cases z), ku_s]
    exact h
  | (6, i), x, h => by
    have hi : i = 0 := hic h
    subst hi
    rw [ku_s]
    exact h
  | (7, i), x, h => by
    rw [show ib_ gl ad n 0 0 0 0 0 (7, i) = none from rfl] at h
    cases h
  | (8, i), x, h => by
    rw [show ib_ gl ad n 0 0 0 0 0 (8, i) = none from rfl] at h
    cases h
  | (9, i), x, h => by
    rw [show ib_ gl ad n 0 0 0 0 0 (9, i) = none from rfl] at h
    cases h
  | (10, i), x, h => by
    rw [show ib_ gl ad n 0 0 0 0 0 (10, i) = none from rfl] at h
    cases h
  | (11, i), x, h => by
    have c : (i / 4 < 0 ∧ i % 4 < n) ∨ (i / 4 = 0 ∧ i % 4 < 0) := hic h
    omega
  | (12, i), x, h => by
    have c : (i / 4 < 0 ∧ i % 4 < n) ∨ (i / 4 = 0 ∧ i % 4 < 0) := hic h
    omega
  | (13, i), x, h => by
    rw [show ib_ gl ad n 0 0 0 0 0 (13, i) = none from rfl] at h
    cases h
  | (14, i), x, h => by
    rw [show ib_ gl ad n 0 0 0 0 0 (14, i) = none from rfl] at h
    cases h
  | (15, i), x, h => by
    rw [show ib_ gl ad n 0 0 0 0 0 (15, i) = none from rfl] at h
    cases h
  | (16, i), x, h => by
    have c : 1 ≤ i ∧ i ≤ 0 := hic h
    omega
  | (17, i), x, h => by
    have c : 1 ≤ i ∧ i ≤ 0 := hic h
    omega
  | (18, i), x, h => by
    have c : 1 ≤ i ∧ i ≤ 0 := hic h
    omega
  | (19, i), x, h => by
    have c : 1 ≤ i ∧ i ≤ 0 := hic h
    omega
  | (20, i), x, h => by
    have c : 1 ≤ i ∧ i ≤ 0 := hic h
    omega
  | (m + 21, i), x, h => by cases h
theorem z0_e {e : Nat} (h : 1 ≤ e ∧ e ≤ n) : ze_ (z0_ n) e = (e - 1, false, false, 0, e - 1, 0, fun _ => 0, fun _ => 0, fun _ => 0, fun _ _ => 0) := if_pos h
theorem wz_d {e : Nat} (h : cwd_ (wz_ n) e = true) : 1 ≤ e ∧ e ≤ n := of_decide_eq_true h
theorem ib_9 (hn : n ≤ 4) : ∀ (q : Nat × Nat) (x : ce_E), hc_ gl ad (wz_ n) q = some x → ku_ (ib_ gl ad n 8 n n n 0) (0, 0) (.inr (.inr (0, [.ref (ad (1, 0)), .ref (ad (2, 0)), .ref (ad (3, 0)), .int (nI n), .int 0, .ref (ad (4, 0)), .ref (ad (5, 0)), .int 0, .ref (ad (6, 0)), .int 0]))) q = some x
  | (0, i), x, h => by
    have hi : i = 0 := hic h
    subst hi
    rw [ku_s]
    exact h
  | (1, i), x, h => by
    rw [ku_n (k := (0, 0)) (q := (1, i)) (fun z => by cases z)]
    exact h
  | (2, i), x, h => by
    rw [ku_n (k := (0, 0)) (q := (2, i)) (fun z => by cases z)]
    exact h
  | (3, i), x, h => by
    rw [ku_n (k := (0, 0)) (q := (3, i)) (fun z => by cases z)]
    have hi : i = 0 := hic h
    subst hi
    have e0 : (fun e : Nat => if cwd_ (wz_ n) e = true then some (ad (16, e)) else none) = fun e : Nat => if 1 ≤ e ∧ e ≤ n then some (ad (16, e)) else none := funext (fun e => by
      by_cases c : 1 ≤ e ∧ e ≤ n
      · rw [if_pos c, if_pos (show cwd_ (wz_ n) e = true from decide_eq_true c)]
      · rw [if_neg c, if_neg (fun z => c (wz_d z))])
    show some (.inr (.inl (6, 201, fun e : Nat => if 1 ≤ e ∧ e ≤ n then some (ad (16, e)) else none))) = some x
    rw [← e0]
    exact h
  | (4, i), x, h => by
    rw [ku_n (k := (0, 0)) (q := (4, i)) (fun z => by cases z)]
    exact h
  | (5, i), x, h => by
    rw [ku_n (k := (0, 0)) (q := (5, i)) (fun z => by cases z)]
    exact h
  | (6, i), x, h => by
    rw [ku_n (k := (0, 0)) (q := (6, i)) (fun z => by cases z)]
    exact h
  | (7, i), x, h => by
    rw [ku_n (k := (0, 0)) (q := (7, i)) (fun z => by cases z)]
    exact hif h (fun c => c.1)
  | (8, i), x, h => by
    rw [ku_n (k := (0, 0)) (q := (8, i)) (fun z => by cases z)]
    exact hif h (fun c => c.1)
  | (9, i), x, h => by
    rw [ku_n (k := (0, 0)) (q := (9, i)) (fun z => by cases z)]
    have c : i < n ∧ i < 4 := hic h
    have e0 : (fun b : Nat => if (i < n ∧ b < n) ∨ (i = n ∧ b < 0) then some (ad (11, 4 * i + b)) else none) = fun b : Nat => if b < n then some (ad (11, 4 * i + b)) else none := funext (fun b => by
      by_cases d : b < n
      · rw [if_pos d, if_pos (Or.inl ⟨c.1, d⟩)]
      · rw [if_neg d, if_neg (by omega)])
    show (if i < n then some (.inr (.inl (8, n, fun b : Nat => if (i < n ∧ b < n) ∨ (i = n ∧ b < 0) then some (ad (11, 4 * i + b)) else none))) else none) = some x
    rw [e0]
    exact hif h (fun c => c.1)
  | (10, i), x, h => by
    rw [ku_n (k := (0, 0)) (q := (10, i)) (fun z => by cases z)]
    have e0 : (fun i : Nat => if i < 10 then (([] : List Int32)[i]?).getD 0 else 0) = fun _ => 0 := funext (fun i => by split <;> simp)
    show (if i < n then some (.inl (0, 10, fun _ => 0)) else none) = some x
    rw [← e0]
    exact hif h (fun c => c.1)
  | (11, i), x, h => by
    rw [ku_n (k := (0, 0)) (q := (11, i)) (fun z => by cases z)]
    exact hif h (fun c => Or.inl ⟨c.1, c.2.1⟩)
  | (12, i), x, h => by
    rw [ku_n (k := (0, 0)) (q := (12, i)) (fun z => by cases z)]
    exact hif h (fun c => Or.inl ⟨c.1, c.2.1⟩)
  | (13, i), x, h => by
    rw [ku_n (k := (0, 0)) (q := (13, i)) (fun z => by cases z)]
    exact h
  | (14, i), x, h => by
    rw [ku_n (k := (0, 0)) (q := (14, i)) (fun z => by cases z)]
    exact h
  | (15, i), x, h => by
    rw [ku_n (k := (0, 0)) (q := (15, i)) (fun z => by cases z)]
    exact h
  | (16, i), x, h => by
    rw [ku_n (k := (0, 0)) (q := (16, i)) (fun z => by cases z)]
    have c := wz_d (hic h)
    have h := hiv h
    rw [he_o (show i ≤ 100 by omega)] at h
    rw [show cwe_ (wz_ n) i = _ from z0_e c] at h
    exact (if_pos c).trans h
  | (17, i), x, h => by
    rw [ku_n (k := (0, 0)) (q := (17, i)) (fun z => by cases z)]
    have c := wz_d (hic h)
    have h := hiv h
    rw [show cwe_ (wz_ n) i = _ from z0_e c] at h
    exact (if_pos c).trans h
  | (18, i), x, h => by
    rw [ku_n (k := (0, 0)) (q := (18, i)) (fun z => by cases z)]
    have c := wz_d (hic h)
    have h := hiv h
    rw [show cwe_ (wz_ n) i = _ from z0_e c] at h
    exact (if_pos c).trans h
  | (19, i), x, h => by
    rw [ku_n (k := (0, 0)) (q := (19, i)) (fun z => by cases z)]
    have c := wz_d (hic h)
    have h := hiv h
    rw [show cwe_ (wz_ n) i = _ from z0_e c] at h
    exact (if_pos c).trans h
  | (20, i), x, h => by
    rw [ku_n (k := (0, 0)) (q := (20, i)) (fun z => by cases z)]
    have c := wz_d (hic h)
    have h := hiv h
    rw [show cwe_ (wz_ n) i = _ from z0_e c] at h
    rw [if_pos (show i ≤ 100 by omega)] at h
    exact (if_pos c).trans h
  | (21, i), x, h => by
    exact absurd (hic h).2 (Nat.lt_irrefl 0)
  | (22, i), x, h => by
    cases h
  | (23, i), x, h => by
    cases h
  | (m + 24, i), x, h => by cases h
theorem aw_z : aw_ (ia_ n0 n) (wz_ n) = ia_ n0 n := by
  funext k
  obtain ⟨m, i⟩ := k
  unfold aw_
  by_cases h1 : m = 21
  · subst h1
    rfl
  · rw [if_neg h1]
    by_cases h2 : m = 22 ∨ m = 23
    · rw [if_pos h2]
      rcases h2 with h2 | h2
      · subst h2
        rfl
      · subst h2
        rfl
    · rw [if_neg h2]
theorem c100_ : (100 : Int32).toNatClampNeg = 100 := by decide
theorem c160_ : (160 : Int32).toNatClampNeg = 160 := by decide
theorem c201_ : (201 : Int32).toNatClampNeg = 201 := by decide
theorem xP_init_ok (hn4 : n ≤ 4) {x t : Int32} (h1 : ma_min gl 4 x (st_ad st (.inr (.inr (0, cd_0)))) = some (t, st_ad st (.inr (.inr (0, cd_0))), 0, 0)) (h2 : ma_max gl 2 t (st_ad st (.inr (.inr (0, cd_0)))) = some (nI n, st_ad st (.inr (.inr (0, cd_0))), 0, 0)) (h : cv_ gl fx (ia_ st.2 n) (fun _ => none) st) :
    ∃ st' i j, xP_init gl (some st.2) x (st_ad st (.inr (.inr (0, cd_0)))) = some ((), st', i, j) ∧ i ≤ 200 ∧ j ≤ 2000 ∧ CW gl fx (ia_ st.2 n) (wz_ n) st' ∧ st.2 < st'.2 := by
  obtain ⟨A, hA⟩ : ∃ A, A = ia_ st.2 n := ⟨_, rfl⟩
  have e0 : A (0, 0) = st.2 := by rw [hA]; rfl
  have e1 : A (1, 0) = st.2 + 1 := by rw [hA]; rfl
  have e2 : A (2, 0) = st.2 + 2 := by rw [hA]; rfl
  have e3 : A (3, 0) = st.2 + 3 := by rw [hA]; rfl
  have e4 : A (4, 0) = st.2 + 4 := by rw [hA]; rfl
  have e5 : A (5, 0) = st.2 + 5 := by rw [hA]; rfl
  have e6 : A (6, 0) = st.2 + 6 := by rw [hA]; rfl
  rw [← hA] at h
  have a0 := cv_ad (ad' := A) (k := (0, 0)) (c := .inr (.inr (0, [.ref (A (1, 0)), .ref (A (2, 0)), .ref (A (3, 0)), .int 0, .int 0, .ref (A (4, 0)), .ref (A (5, 0)), .int 0, .ref (A (6, 0)), .int 0]))) h rfl (fun _ _ _ => rfl) e0
  have a1 := cv_ad (ad' := A) (k := (1, 0)) (c := .inr (.inl (4, n, fun _ => none))) a0 rfl (fun _ _ _ => rfl) e1
  have a2 := cv_ad (ad' := A) (k := (2, 0)) (c := .inr (.inl (5, 8, fun _ => none))) a1 rfl (fun _ _ _ => rfl) e2
  have a3 := cv_ad (ad' := A) (k := (3, 0)) (c := .inr (.inl (6, 201, fun _ => none))) a2 rfl (fun _ _ _ => rfl) e3
  have a4 := cv_ad (ad' := A) (k := (4, 0)) (c := .inr (.inr (1, cd_1))) a3 rfl (fun _ _ _ => rfl) e4
  have a5 := cv_ad (ad' := A) (k := (5, 0)) (c := .inr (.inl (7, 100, fun _ => none))) a4 rfl (fun _ _ _ => rfl) e5
  have a6 := cv_ad (ad' := A) (k := (6, 0)) (c := .inr (.inl (6, 160, fun _ => none))) a5 rfl (fun _ _ _ => rfl) e6
  have a7 := cv_sub (H' := ib_ gl A n 0 0 0 0 0) a6 ib_0
  rw [hA] at a7
  obtain ⟨st1, b1, b2, b3⟩ := xP_ig_it (n0 := st.2) 8 0 fu_ _ rfl (by omega) (by unfold fu_; omega) a7 rfl
  obtain ⟨st2, i, j, c1, c2, c3, c4, c5⟩ := xP_iv_it hn4 n 0 fu_ st1 rfl (Nat.zero_le _) (by unfold fu_; omega) b1 (by rw [b2, Nat.zero_mul])
  have b4 := b3 st2 i j c1
  refine ⟨st2, 6 + (24 + i), (n + 8 + 201 + 4 + 100 + 160) + (152 + j), ?_, by omega, by omega, ?_, by omega⟩
  · rw [← hA] at b4
    rw [e1, e2, e3, e4, e5, e6] at b4
    unfold xP_init
    refine ru_g _ (og_c ad_s) ?_
    refine ru_b (i2 := 6 + (24 + i)) (j2 := (n + 8 + 201 + 4 + 100 + 160) + (152 + j)) h1 ?_ (by omega) (by omega)
    refine ru_b (i2 := 6 + (24 + i)) (j2 := (n + 8 + 201 + 4 + 100 + 160) + (152 + j)) h2 ?_ (by omega) (by omega)
    rw [nI_clamp (show n < 2 ^ 31 by omega), c8_, c100_, c160_, c201_]
    refine ru_g _ (og_l (m := n) (by omega)) ?_
    rw [show 6 + (24 + i) = 1 + (1 + (1 + (1 + (1 + (1 + (24 + i)))))) by omega, show (n + 8 + 201 + 4 + 100 + 160) + (152 + j) = n + (8 + (201 + (4 + (100 + (160 + (152 + j)))))) by omega]
    refine i0_s (l := []) (by decide) ?_
    refine ru_g _ (og_l (m := 8) (by decide)) ?_
    refine i0_s (by simp [cd_0]) ?_
    refine ru_g _ (og_l (m := 201) (by decide)) ?_
    refine i0_s (by simp [cd_0]) ?_
    refine i0_t (by simp [cd_0]) ?_
    refine ru_g _ (og_l (m := 100) (by decide)) ?_
    refine i0_s (by simp [cd_0]) ?_
    refine ru_g _ (og_l (m := 160) (by decide)) ?_
    refine i0_s (by simp [cd_0]) ?_
    exact b4
  · unfold CW
    rw [aw_z]
    exact cv_sub c5 (ib_9 hn4)
end CIN2
