/-! The class's sweep: who is wanted. -/
/-- what is owed one way, one place -/
def uo_ (E : ze_E) (s : Int) (q : Nat) : Int := if 0 < s * eo_ E (q / 4) (q % 4) then s * eo_ E (q / 4) (q % 4) else 0
section CWA
variable {gl : gl_T} {fx : fx_T} {ad : Nat × Nat → Nat} {W W' W0 : cw_W} {st st' : st_S} {Z X : zz_S} {e a b v L g u q t h p w ref c n f o y k pos : Nat} {x op : Int32} {lost l fl fl1 fl2 : List Nat}
theorem og_nl {t n : Nat} {f : Nat → Int32} {ts : List Nat} (h : st.1 a = some (.inl (t, n, f))) (ht : t ∈ ts) : so_n (some a) ts st = some (nI n) := by
  unfold so_n
  simp only [h]
  rw [if_pos ht]
  rfl
theorem oi_gt0 {z : Int} (h1 : -1000000 < z) (h2 : z < 1000000) : (0 : Int32) < Int32.ofInt z ↔ 0 < z := by
  rw [← Int32.not_le]
  have := oi_le0 h1 h2
  constructor
  · intro h
    exact Int.not_le.mp (fun c => h (this.mpr c))
  · intro h c
    exact absurd (this.mp c) (Int.not_le.mpr h)
theorem xE_exp_it (hW : CW gl fx ad W st) (hd : cwd_ W e = true) (hx : ∀ b, b < 4 → -1000000 < ex_ (cwe_ W e) b ∧ ex_ (cwe_ W e) b < 1000000) : ∀ (d i fuel : Nat), 4 - i = d → i ≤ 4 → d < fuel →
    st_it (fun rec2 => (fun x : Option Nat × Int32 => xE_isExported_b2 gl rec2 x.1 x.2)) fuel (some (ad (16, e)), nI i) st = some (bi_ ((List.range' i d).any (fun b => decide (0 < ex_ (cwe_ W e) b))), st, 0, 0) := by
  intro d
  induction d with
  | zero =>
    intro i fuel hd0 hi hf
    obtain ⟨m, rfl⟩ : ∃ m, fuel = m + 1 := ⟨fuel - 1, by omega⟩
    show xE_isExported_b2 gl _ (some (ad (16, e))) (nI i) st = _
    unfold xE_isExported_b2
    refine ru_g _ (re_x hW hd) ?_
    refine ru_g _ (og_nl (at_17 hW hd) (by simp)) ?_
    exact ru_t (nI_le (by omega) (by omega)) rfl
  | succ d ih =>
    intro i fuel hd0 hi hf
    obtain ⟨m, rfl⟩ : ∃ m, fuel = m + 1 := ⟨fuel - 1, by omega⟩
    obtain ⟨o1, o2⟩ := hx i (by omega)
    show xE_isExported_b2 gl _ (some (ad (16, e))) (nI i) st = _
    unfold xE_isExported_b2
    refine ru_g _ (re_x hW hd) ?_
    refine ru_g _ (og_nl (at_17 hW hd) (by simp)) ?_
    refine ru_f (nI_ge (by omega) (by decide)) ?_
    refine ru_g _ (re_x hW hd) ?_
    refine ru_g _ (og_li (at_17 hW hd) (show i < 4 by omega) (by decide)) ?_
    rw [List.range'_succ, List.any_cons]
    by_cases c : ex_ (cwe_ W e) i ≤ 0
    · refine ru_t ((oi_le0 o1 o2).mpr c) ?_
      rw [nI_1, decide_eq_false (by omega), Bool.false_or]
      exact ih (i + 1) m (by omega) (by omega) (by omega)
    · refine ru_f (fun z => c ((oi_le0 o1 o2).mp z)) ?_
      rw [decide_eq_true (by omega), Bool.true_or]
      rfl
theorem xE_exp_ok (hW : CW gl fx ad W st) (hd : cwd_ W e = true) (hx : ∀ b, b < 4 → -1000000 < ex_ (cwe_ W e) b ∧ ex_ (cwe_ W e) b < 1000000) : xE_isExported gl (some (ad (16, e))) st = some (bi_ ((List.range 4).any (fun b => decide (0 < ex_ (cwe_ W e) b))), st, 0, 0) := by
  rw [List.range_eq_range']
  exact xE_exp_it hW hd hx 4 0 fu_ rfl (by omega) (by unfold fu_; omega)
theorem xE_unp_it {s : Int} (hs : s = 1 ∨ s = -1) (hW : CW gl fx ad W st) (hd : cwd_ W e = true) (hx : ∀ a b, a < 4 → b < 4 → -1000000 < eo_ (cwe_ W e) a b ∧ eo_ (cwe_ W e) a b < 1000000) : ∀ (d i fuel : Nat) (c : Int), 16 - i = d → i ≤ 16 → d < fuel →
    st_it (fun rec4 => (fun x : Option Nat × Int32 × Int32 × Int32 => xE_unpaired_b4 gl rec4 x.1 x.2.1 x.2.2.1 x.2.2.2)) fuel (some (ad (16, e)), Int32.ofInt s, Int32.ofInt c, nI i) st = some (Int32.ofInt (c + ((List.range' i d).map (uo_ (cwe_ W e) s)).sum), st, 0, 0) := by
  intro d
  induction d with
  | zero =>
    intro i fuel c hd0 hi hf
    obtain ⟨m, rfl⟩ : ∃ m, fuel = m + 1 := ⟨fuel - 1, by omega⟩
    show xE_unpaired_b4 gl _ (some (ad (16, e))) (Int32.ofInt s) (Int32.ofInt c) (nI i) st = _
    unfold xE_unpaired_b4
    refine ru_g _ (re_o hW hd) ?_
    refine ru_g _ (og_nl (at_19 hW hd) (by simp)) ?_
    refine ru_t (nI_le (by omega) (by omega)) ?_
    rw [show (List.range' i 0).map (uo_ (cwe_ W e) s) = [] from rfl, show ([] : List Int).sum = 0 from rfl, Int.add_zero]
    rfl
  | succ d ih =>
    intro i fuel c hd0 hi hf
    obtain ⟨m, rfl⟩ : ∃ m, fuel = m + 1 := ⟨fuel - 1, by omega⟩
    obtain ⟨o1, o2⟩ := hx (i / 4) (i % 4) (by omega) (by omega)
    have hb : -1000000 < s * eo_ (cwe_ W e) (i / 4) (i % 4) ∧ s * eo_ (cwe_ W e) (i / 4) (i % 4) < 1000000 := by
      rcases hs with z | z <;> rw [z] <;> omega
    show xE_unpaired_b4 gl _ (some (ad (16, e))) (Int32.ofInt s) (Int32.ofInt c) (nI i) st = _
    unfold xE_unpaired_b4
    refine ru_g _ (re_o hW hd) ?_
    refine ru_g _ (og_nl (at_19 hW hd) (by simp)) ?_
    refine ru_f (nI_ge (by omega) (by decide)) ?_
    refine ru_g _ (re_o hW hd) ?_
    refine ru_g _ (og_li (at_19 hW hd) (show i < 16 by omega) (by decide)) ?_
    rw [List.range'_succ, List.map_cons, List.sum_cons, ← Int.add_assoc]
    have hmul : Int32.ofInt s * Int32.ofInt (eo_ (cwe_ W e) (i / 4) (i % 4)) = Int32.ofInt (s * eo_ (cwe_ W e) (i / 4) (i % 4)) := (Int32.ofInt_mul _ _).symm
    rw [hmul]
    have hmax : ma_max gl (0 : Int32) (Int32.ofInt (s * eo_ (cwe_ W e) (i / 4) (i % 4))) st = some (Int32.ofInt (uo_ (cwe_ W e) s i), st, 0, 0) := by
      unfold ma_max uo_
      by_cases z : 0 < s * eo_ (cwe_ W e) (i / 4) (i % 4)
      · rw [if_pos z]
        exact ru_t ((oi_gt0 hb.1 hb.2).mpr z) rfl
      · rw [if_neg z]
        exact ru_f (fun y => z ((oi_gt0 hb.1 hb.2).mp y)) rfl
    refine ru_b (i2 := 0) (j2 := 0) hmax ?_ rfl rfl
    rw [nI_1, oi_add]
    exact ih (i + 1) m _ (by omega) (by omega) (by omega)
theorem xE_unp_ok {s : Int} (hs : s = 1 ∨ s = -1) {z : Int32} (hz : z = Int32.ofInt s) (hW : CW gl fx ad W st) (hd : cwd_ W e = true) (hx : ∀ a b, a < 4 → b < 4 → -1000000 < eo_ (cwe_ W e) a b ∧ eo_ (cwe_ W e) a b < 1000000) : xE_unpaired gl (some (ad (16, e))) z st = some (Int32.ofInt ((List.range' 0 16).map (uo_ (cwe_ W e) s)).sum, st, 0, 0) := by
  subst hz
  have := xE_unp_it hs hW hd hx 16 0 fu_ 0 rfl (by omega) (by unfold fu_; omega)
  rw [Int.zero_add] at this
  exact this
theorem sum_b {g : Nat → Int} {m : Int} (h : ∀ q, 0 ≤ g q ∧ g q < m) : ∀ (l : List Nat), 0 ≤ (l.map g).sum ∧ (l.map g).sum ≤ l.length * m
  | [] => ⟨Int.le_refl _, by simp⟩
  | q :: l => by
    obtain ⟨a, b⟩ := sum_b h l
    obtain ⟨c, d⟩ := h q
    rw [List.map_cons, List.sum_cons, List.length_cons]
    refine ⟨by omega, ?_⟩
    rw [show ((l.length + 1 : Nat) : Int) = (l.length : Int) + 1 from rfl, Int.add_mul, Int.one_mul]
    omega
theorem sum_pos {g : Nat → Int} (h : ∀ q, 0 ≤ g q) : ∀ (l : List Nat), 0 < (l.map g).sum ↔ ∃ q ∈ l, 0 < g q
  | [] => ⟨fun z => absurd z (Int.lt_irrefl 0), fun ⟨q, hq, _⟩ => by cases hq⟩
  | q :: l => by
    have ih := sum_pos h l
    have hq := h q
    have hl : 0 ≤ (l.map g).sum := by
      clear ih
      induction l with
      | nil => exact Int.le_refl _
      | cons y l ih2 =>
        rw [List.map_cons, List.sum_cons]
        have := h y
        omega
    rw [List.map_cons, List.sum_cons]
    constructor
    · intro z
      by_cases y : 0 < g q
      · exact ⟨q, List.mem_cons_self, y⟩
      · obtain ⟨r, r1, r2⟩ := ih.mp (by omega)
        exact ⟨r, List.mem_cons_of_mem _ r1, r2⟩
    · rintro ⟨r, r1, r2⟩
      rcases List.mem_cons.mp r1 with y | y
      · rw [y] at r2
        omega
      · have := ih.mpr ⟨r, y, r2⟩
        omega
end CWA
