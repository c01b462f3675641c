/-! The class: programs are written and cleared, the inbox is counted. -/
section CCO
variable {gl : gl_T} {fx : fx_T} {ad : Nat × Nat → Nat} {W W' : cw_W} {st : st_S} {Z X : zz_S} {e a b s v L g u q t h p w ref c : Nat} {x op : Int32} {lost l : List Nat} {y : Nat × (Nat → Int32) × (Nat → Int32)}
theorem xP_isSlot_ok : xP_isSlot gl x st = some (bi_ (decide (0 ≤ x ∧ x < 4)), st, 0, 0) := by
  unfold xP_isSlot
  by_cases h0 : x < 0
  · rw [decide_eq_false (fun z => n_lt0.mp h0 z.1)]
    exact ru_t h0 rfl
  · by_cases h4 : (4 : Int32) ≤ x
    · rw [decide_eq_false (fun z => Int32.not_lt.mpr h4 z.2)]
      exact ru_f h0 (ru_t h4 rfl)
    · rw [decide_eq_true ⟨Classical.not_not.mp (fun q => h0 (n_lt0.mpr q)), Int32.not_le.mp h4⟩]
      exact ru_f h0 (ru_f h4 rfl)
theorem xP_isProgram_ok : xP_isProgram gl x st = some (bi_ (decide (0 ≤ x ∧ x < 8)), st, 0, 0) := by
  unfold xP_isProgram
  by_cases h0 : x < 0
  · rw [decide_eq_false (fun z => n_lt0.mp h0 z.1)]
    exact ru_t h0 rfl
  · by_cases h4 : (8 : Int32) ≤ x
    · rw [decide_eq_false (fun z => Int32.not_lt.mpr h4 z.2)]
      exact ru_f h0 (ru_t h4 rfl)
    · rw [decide_eq_true ⟨Classical.not_not.mp (fun q => h0 (n_lt0.mpr q)), Int32.not_le.mp h4⟩]
      exact ru_f h0 (ru_f h4 rfl)
theorem so_zb {b : Bool} : so_z (bi_ b) st = some () := by cases b <;> rfl
/-- an instruction that may be written -/
abbrev ki_ (op x : Int32) : Prop := 0 ≤ op ∧ op ≤ 10 ∧ ((op = 3 ∨ op = 4 ∨ op = 7) → 0 ≤ x ∧ x < 4) ∧ ((op = 6 ∨ op = 8) → 0 ≤ x ∧ x < 8)
theorem bi_c {P Q : Prop} [Decidable P] [Decidable Q] (h : P ↔ Q) : bi_ (decide P) = bi_ (decide Q) := by
  by_cases c : P
  · rw [decide_eq_true c, decide_eq_true (h.mp c)]
  · rw [decide_eq_false c, decide_eq_false (fun z => c (h.mpr z))]
theorem xP_isInstruction_ok : xP_isInstruction gl op x st = some (bi_ (decide (ki_ op x)), st, 0, 0) := by
  have s40 : xP_isInstruction_b40 gl x st = some (bi_ (decide (0 ≤ x ∧ x < 4)), st, 0, 0) := by
    unfold xP_isInstruction_b40
    exact ru_b xP_isSlot_ok (ru_g _ so_zb rfl) rfl rfl
  unfold xP_isInstruction
  by_cases h3 : op = 3
  · subst h3
    rw [← bi_c (P := 0 ≤ x ∧ x < 4) (Q := ki_ 3 x) ⟨fun z => ⟨by decide, by decide, fun _ => z, fun w => absurd w (by decide)⟩, fun z => z.2.2.1 (by decide)⟩]
    exact ru_t rfl s40
  refine ru_f h3 ?_
  by_cases h4 : op = 4
  · subst h4
    rw [← bi_c (P := 0 ≤ x ∧ x < 4) (Q := ki_ 4 x) ⟨fun z => ⟨by decide, by decide, fun _ => z, fun w => absurd w (by decide)⟩, fun z => z.2.2.1 (by decide)⟩]
    exact ru_t rfl s40
  refine ru_f h4 ?_
  by_cases h5 : op = 5
  · subst h5
    rw [← bi_c (P := True) (Q := ki_ 5 x) ⟨fun z => ⟨by decide, by decide, fun w => absurd w (by decide), fun w => absurd w (by decide)⟩, fun z => trivial⟩]
    exact ru_t rfl (ru_f (by decide) (ru_f (by decide) rfl))
  refine ru_f h5 ?_
  by_cases h6 : op = 6
  · subst h6
    rw [← bi_c (P := 0 ≤ x ∧ x < 8) (Q := ki_ 6 x) ⟨fun z => ⟨by decide, by decide, fun w => absurd w (by decide), fun _ => z⟩, fun z => z.2.2.2 (by decide)⟩]
    exact ru_t rfl (ru_b xP_isProgram_ok (ru_g _ so_zb rfl) rfl rfl)
  refine ru_f h6 ?_
  by_cases h7 : op = 7
  · subst h7
    rw [← bi_c (P := 0 ≤ x ∧ x < 4) (Q := ki_ 7 x) ⟨fun z => ⟨by decide, by decide, fun _ => z, fun w => absurd w (by decide)⟩, fun z => z.2.2.1 (by decide)⟩]
    exact ru_t rfl s40
  refine ru_f h7 ?_
  by_cases h8 : op = 8
  · subst h8
    rw [← bi_c (P := 0 ≤ x ∧ x < 8) (Q := ki_ 8 x) ⟨fun z => ⟨by decide, by decide, fun w => absurd w (by decide), fun _ => z⟩, fun z => z.2.2.2 (by decide)⟩]
    exact ru_t rfl (xP_isProgram_ok (gl := gl))
  refine ru_f h8 ?_
  rw [← bi_c (P := 0 ≤ op ∧ op ≤ 10) (Q := ki_ op x) ⟨fun z => ⟨z.1, z.2, fun w => w.elim (fun q => absurd q h3) (fun w => w.elim (fun q => absurd q h4) (fun q => absurd q h7)), fun w => w.elim (fun q => absurd q h6) (fun q => absurd q h8)⟩, fun z => ⟨z.1, z.2.1⟩⟩]
  unfold xP_isInstruction_b66
  by_cases h0 : op < 0
  · rw [decide_eq_false (fun z => n_lt0.mp h0 z.1)]
    exact ru_t h0 rfl
  · by_cases h10 : (10 : Int32) < op
    · rw [decide_eq_false (fun z => n_10.mp h10 z.2)]
      exact ru_f h0 (ru_t h10 rfl)
    · rw [decide_eq_true ⟨Classical.not_not.mp (fun q => h0 (n_lt0.mpr q)), Classical.not_not.mp (fun q => h10 (n_10.mpr q))⟩]
      exact ru_f h0 (ru_f h10 rfl)
/-! programs' cells -/
theorem cwg_s : cwg_ (cj_g W g y) g = y := va_up_self _ _ _
theorem cwg_n (h : e ≠ g) : cwg_ (cj_g W g y) e = cwg_ W e := va_up_ne _ _ h
theorem hg_n : ∀ (k : Nat × Nat), (k.2 ≠ g ∨ k.1 < 13 ∨ 15 < k.1) → hc_ gl ad (cj_g W g y) k = hc_ gl ad W k
  | (0, i), _ => rfl
  | (1, i), _ => rfl
  | (2, i), _ => rfl
  | (3, i), _ => rfl
  | (4, i), _ => rfl
  | (5, i), _ => rfl
  | (6, i), _ => rfl
  | (7, i), _ => rfl
  | (8, i), _ => rfl
  | (9, i), _ => rfl
  | (10, i), _ => rfl
  | (11, i), _ => rfl
  | (12, i), _ => rfl
  | (13, i), h => by
    have hi : i ≠ g := h.elim id (fun z => absurd z (by show ¬ ((13 : Nat) < 13 ∨ 15 < 13); decide))
    show (if i < 8 then some (.inr (.inr (2, [.ref (ad (14, i)), .ref (ad (15, i)), .int (nI (cwg_ (cj_g W g y) i).1)])) : ce_E) else none) = _
    rw [cwg_n hi]
    rfl
  | (14, i), h => by
    have hi : i ≠ g := h.elim id (fun z => absurd z (by show ¬ ((14 : Nat) < 13 ∨ 15 < 14); decide))
    show (if i < 8 then some (.inl (0, 8, (cwg_ (cj_g W g y) i).2.1) : ce_E) else none) = _
    rw [cwg_n hi]
    rfl
  | (15, i), h => by
    have hi : i ≠ g := h.elim id (fun z => absurd z (by show ¬ ((15 : Nat) < 13 ∨ 15 < 15); decide))
    show (if i < 8 then some (.inl (0, 8, (cwg_ (cj_g W g y) i).2.2) : ce_E) else none) = _
    rw [cwg_n hi]
    rfl
  | (16, i), _ => rfl
  | (17, i), _ => rfl
  | (18, i), _ => rfl
  | (19, i), _ => rfl
  | (20, i), _ => rfl
  | (21, i), _ => rfl
  | (22, i), _ => rfl
  | (23, i), _ => rfl
  | (n + 24, i), _ => rfl
theorem hg_1 {n : Nat} {d : ce_E} (hn : 13 ≤ n ∧ n ≤ 15) (hs : hc_ gl ad (cj_g W g y) (n, g) = some d) (ho : ∀ m, 13 ≤ m → m ≤ 15 → m ≠ n → hc_ gl ad (cj_g W g y) (m, g) = hc_ gl ad W (m, g)) : hc_ gl ad (cj_g W g y) = ku_ (hc_ gl ad W) (n, g) d := by
  funext k
  by_cases hk : k = (n, g)
  · subst hk
    rw [ku_s]
    exact hs
  · rw [ku_n hk]
    by_cases h : k.2 ≠ g ∨ k.1 < 13 ∨ 15 < k.1
    · exact hg_n k h
    · obtain ⟨m, i⟩ := k
      have hi : i = g := Classical.byContradiction (fun z => h (Or.inl z))
      subst hi
      exact ho m (Nat.le_of_not_lt (fun z => h (Or.inr (Or.inl z)))) (Nat.le_of_not_lt (fun z => h (Or.inr (Or.inr z)))) (fun z => hk (by rw [z]))
theorem m3 {m : Nat} {P : Nat → Prop} (h1 : 13 ≤ m) (h2 : m ≤ 15) (a : P 13) (b : P 14) (c : P 15) : P m := by
  have : m = 13 ∨ m = 14 ∨ m = 15 := by omega
  rcases this with h | h | h <;> rw [h] <;> assumption
theorem hg13 (h : y.1 = (cwg_ W g).1) : hc_ gl ad (cj_g W g y) (13, g) = hc_ gl ad W (13, g) := by
  show (if g < 8 then some (.inr (.inr (2, [.ref (ad (14, g)), .ref (ad (15, g)), .int (nI (cwg_ (cj_g W g y) g).1)])) : ce_E) else none) = _
  rw [cwg_s, h]
  rfl
theorem hg14 (h : y.2.1 = (cwg_ W g).2.1) : hc_ gl ad (cj_g W g y) (14, g) = hc_ gl ad W (14, g) := by
  show (if g < 8 then some (.inl (0, 8, (cwg_ (cj_g W g y) g).2.1) : ce_E) else none) = _
  rw [cwg_s, h]
  rfl
theorem hg15 (h : y.2.2 = (cwg_ W g).2.2) : hc_ gl ad (cj_g W g y) (15, g) = hc_ gl ad W (15, g) := by
  show (if g < 8 then some (.inl (0, 8, (cwg_ (cj_g W g y) g).2.2) : ce_E) else none) = _
  rw [cwg_s, h]
  rfl
theorem cu_g13 (h : CW gl fx ad W st) (hg : g < 8) {n : Nat} : ∃ st', so_p (some (ad (13, g))) [2] 2 (.int (nI n)) st = some st' ∧ CW gl fx ad (cj_g W g (n, (cwg_ W g).2)) st' := by
  refine ⟨_, og_p (at_13 h hg) (by simp) (by simp), ?_⟩
  unfold CW
  rw [hg_1 (y := (n, (cwg_ W g).2)) (n := 13) (by decide) (by rw [hk_13 hg, cwg_s]) (fun m h1 h2 h3 => m3 (P := fun m => m ≠ 13 → hc_ gl ad (cj_g W g (n, (cwg_ W g).2)) (m, g) = hc_ gl ad W (m, g)) h1 h2 (fun z => absurd rfl z) (fun _ => hg14 rfl) (fun _ => hg15 rfl) h3)]
  exact cv_up (ad := aw_ ad W) h (hk_13 hg)
theorem cu_g14 (h : CW gl fx ad W st) (hg : g < 8) {n : Nat} (hn : n < 8) : ∃ st', so_si (some (ad (14, g))) 0 (nI n) x st = some st' ∧ CW gl fx ad (cj_g W g ((cwg_ W g).1, upd (cwg_ W g).2.1 n x, (cwg_ W g).2.2)) st' := by
  refine ⟨_, og_si (at_14 h hg) hn (by decide), ?_⟩
  unfold CW
  rw [hg_1 (y := ((cwg_ W g).1, upd (cwg_ W g).2.1 n x, (cwg_ W g).2.2)) (n := 14) (by decide) (by rw [hk_14 hg, cwg_s]) (fun m h1 h2 h3 => m3 (P := fun m => m ≠ 14 → hc_ gl ad (cj_g W g ((cwg_ W g).1, upd (cwg_ W g).2.1 n x, (cwg_ W g).2.2)) (m, g) = hc_ gl ad W (m, g)) h1 h2 (fun _ => hg13 rfl) (fun z => absurd rfl z) (fun _ => hg15 rfl) h3)]
  exact cv_up (ad := aw_ ad W) h (hk_14 hg)
theorem cu_g15 (h : CW gl fx ad W st) (hg : g < 8) {n : Nat} (hn : n < 8) : ∃ st', so_si (some (ad (15, g))) 0 (nI n) x st = some st' ∧ CW gl fx ad (cj_g W g ((cwg_ W g).1, (cwg_ W g).2.1, upd (cwg_ W g).2.2 n x)) st' := by
  refine ⟨_, og_si (at_15 h hg) hn (by decide), ?_⟩
  unfold CW
  rw [hg_1 (y := ((cwg_ W g).1, (cwg_ W g).2.1, upd (cwg_ W g).2.2 n x)) (n := 15) (by decide) (by rw [hk_15 hg, cwg_s]) (fun m h1 h2 h3 => m3 (P := fun m => m ≠ 15 → hc_ gl ad (cj_g W g ((cwg_ W g).1, (cwg_ W g).2.1, upd (cwg_ W g).2.2 n x)) (m, g) = hc_ gl ad W (m, g)) h1 h2 (fun _ => hg13 rfl) (fun _ => hg14 rfl) (fun z => absurd rfl z) h3)]
  exact cv_up (ad := aw_ ad W) h (hk_15 hg)
theorem cg_cg {y2 : Nat × (Nat → Int32) × (Nat → Int32)} : cj_g (cj_g W g y) g y2 = cj_g W g y2 := by
  have e : va_up (va_up (cwg_ W) g y) g y2 = va_up (cwg_ W) g y2 := by
    funext k
    unfold va_up
    split <;> rfl
  show (cwN_ W, cwd_ W, va_up (va_up (cwg_ W) g y) g y2, cwe_ W, cwc_ W, cwl_ W, cwk_ W, cwC_ W, cwM_ W, cwt_ W, cwT_ W, cwL_ W, cwF_ W) = _
  rw [e]
  rfl
theorem r2_l (h : CW gl fx ad W st) (hg : g < 8) : so_lq (some (ad (2, 0))) [5] (nI g) st = some (some (ad (13, g))) := (og_lq (at_2 h) (by simp) hg (by decide)).trans (by rw [if_pos hg])
theorem RW_g (hR : RW Z W 50) {k : List (Int32 × Int32)} (h : y.1 = k.length ∧ ∀ i q, k[i]? = some q → y.2.1 i = q.1 ∧ y.2.2 i = q.2) : RW (zj_g Z g k) (cj_g W g y) 50 := by
  obtain ⟨h1, h2, h3, h4, h5, h6, h7, h8⟩ := hR
  refine ⟨h1, h2, h3, h4, fun j hj => ?_, h6, h7, h8⟩
  by_cases c : j = g
  · subst c
    rw [cwg_s, show zg_ (zj_g Z j k) j = k from va_up_self _ _ _]
    exact h
  · rw [cwg_n c, show zg_ (zj_g Z g k) j = zg_ Z j from va_up_ne _ _ c]
    exact h5 j hj
theorem xP_clear_ok (hW : CW gl fx ad W st) (hR : RW Z W 50) (hL : lr_ ad W []) : ∃ st' W', xP_clear gl (some (ad (0, 0))) x st = some (bi_ (z_clear Z x).2, st', 0, 0) ∧ CW gl fx ad W' st' ∧ RW (z_clear Z x).1 W' 50 ∧ lr_ ad W' [] ∧ bk_ W' = bk_ W := by
  unfold z_clear
  by_cases hc : 0 ≤ x ∧ x < 8
  · rw [if_pos hc]
    obtain ⟨g, hg, rfl⟩ := n_g hc.1 hc.2
    rw [show (nI g).toNatClampNeg = g from nI_clamp (by omega)]
    obtain ⟨st1, c1, c2⟩ := cu_g13 (n := 0) hW hg
    refine ⟨st1, _, ?_, c2, RW_g hR ⟨rfl, fun i q hi => by simp at hi⟩, hL, rfl⟩
    unfold xP_clear
    refine ru_b (i2 := 0) (j2 := 0) xP_isProgram_ok ?_ rfl rfl
    rw [decide_eq_true hc]
    refine ru_f (by decide) ?_
    refine ru_g _ (r0_1 hW) (ru_g _ (r2_l hW hg) ?_)
    exact ru_w _ c1 rfl
  · rw [if_neg hc]
    refine ⟨st, W, ?_, hW, hR, hL, rfl⟩
    unfold xP_clear
    refine ru_b (i2 := 0) (j2 := 0) xP_isProgram_ok ?_ rfl rfl
    rw [decide_eq_false hc]
    exact ru_t rfl rfl
theorem xP_code_ok (hW : CW gl fx ad W st) (hR : RW Z W 50) (hz : zw_n Z) (hL : lr_ ad W []) {y : Int32} : ∃ st' W', xP_code gl (some (ad (0, 0))) y op x st = some (bi_ (z_code Z y op x).2, st', 0, 0) ∧ CW gl fx ad W' st' ∧ RW (z_code Z y op x).1 W' 50 ∧ lr_ ad W' [] ∧ bk_ W' = bk_ W := by
  unfold z_code xP_code
  by_cases hc : 0 ≤ y ∧ y < 8
  · by_cases hk : ki_ op x
    · obtain ⟨g, hg, rfl⟩ := n_g hc.1 hc.2
      rw [show (nI g).toNatClampNeg = g from nI_clamp (by omega)]
      obtain ⟨p1, p2⟩ := hR.2.2.2.2.1 g hg
      have hl8 := hz.2.2.2.2.2 g hg
      by_cases hl : (zg_ Z g).length < 8
      · rw [if_pos ⟨hc.1, hc.2, hk.1, hk.2.1, hl, hk.2.2.1, hk.2.2.2⟩]
        rw [← p1] at hl
        obtain ⟨st1, c1, c2⟩ := cu_g14 (x := op) hW hg hl
        obtain ⟨st2, d1, d2⟩ := cu_g15 (x := x) c2 hg hl
        rw [cg_cg, cwg_s] at d2
        obtain ⟨st3, f1, f2⟩ := cu_g13 (n := (cwg_ W g).1 + 1) d2 hg
        rw [cg_cg, cwg_s] at f2
        refine ⟨st3, _, ?_, f2, RW_g hR ⟨by rw [List.length_append]; exact congrArg (· + 1) p1, fun i q hi => ?_⟩, hL, rfl⟩
        · refine ru_b (i2 := 0) (j2 := 0) xP_isProgram_ok ?_ rfl rfl
          rw [decide_eq_true hc]
          refine ru_f (by decide) ?_
          refine ru_b (i2 := 0) (j2 := 0) xP_isInstruction_ok ?_ rfl rfl
          rw [decide_eq_true hk]
          refine ru_f (by decide) ?_
          refine ru_g _ (r0_1 hW) (ru_g _ (r2_l hW hg) ?_)
          refine ru_g _ (og_i (at_13 hW hg) (by simp) rfl) ?_
          refine ru_t (show nI (cwg_ W g).1 < nI 8 from nI_lt hl (by decide)) ?_
          refine ru_g _ (og_q (q := some (ad (14, g))) (at_13 hW hg) (by simp) rfl) ?_
          refine ru_g _ (og_i (at_13 hW hg) (by simp) rfl) ?_
          refine ru_w _ c1 ?_
          refine ru_g _ (og_q (q := some (ad (15, g))) (at_13 c2 hg) (by simp) rfl) ?_
          refine ru_g (nI (cwg_ W g).1) (og_i (at_13 c2 hg) (by simp) (by rw [cwg_s]; rfl)) ?_
          refine ru_w _ d1 ?_
          refine ru_g (nI (cwg_ W g).1) (og_i (at_13 d2 hg) (by simp) (by rw [cwg_s]; rfl)) ?_
          rw [nI_1]
          exact ru_w _ f1 rfl
        · dsimp only
          rw [p1]
          rcases Nat.lt_trichotomy i (zg_ Z g).length with z | z | z
          · rw [List.getElem?_append_left z] at hi
            unfold upd
            rw [if_neg (by omega), if_neg (by omega)]
            exact p2 i q hi
          · rw [z, List.getElem?_append_right (Nat.le_refl _), Nat.sub_self] at hi
            cases hi
            unfold upd
            rw [if_pos z, if_pos z]
            exact ⟨rfl, rfl⟩
          · rw [List.getElem?_eq_none (by rw [List.length_append, List.length_singleton]; omega)] at hi
            cases hi
      · rw [if_neg (fun z => hl z.2.2.2.2.1)]
        rw [← p1] at hl hl8
        refine ⟨st, W, ?_, hW, hR, hL, rfl⟩
        refine ru_b (i2 := 0) (j2 := 0) xP_isProgram_ok ?_ rfl rfl
        rw [decide_eq_true hc]
        refine ru_f (by decide) ?_
        refine ru_b (i2 := 0) (j2 := 0) xP_isInstruction_ok ?_ rfl rfl
        rw [decide_eq_true hk]
        refine ru_f (by decide) ?_
        refine ru_g _ (r0_1 hW) (ru_g _ (r2_l hW hg) ?_)
        refine ru_g _ (og_i (at_13 hW hg) (by simp) rfl) ?_
        exact ru_f (show ¬ nI (cwg_ W g).1 < nI 8 from nI_nlt (by omega) (by omega)) rfl
    · rw [if_neg (fun z => hk ⟨z.2.2.1, z.2.2.2.1, z.2.2.2.2.2.1, z.2.2.2.2.2.2⟩)]
      refine ⟨st, W, ?_, hW, hR, hL, rfl⟩
      refine ru_b (i2 := 0) (j2 := 0) xP_isProgram_ok ?_ rfl rfl
      rw [decide_eq_true hc]
      refine ru_f (by decide) ?_
      refine ru_b (i2 := 0) (j2 := 0) xP_isInstruction_ok ?_ rfl rfl
      rw [decide_eq_false hk]
      exact ru_t rfl rfl
  · rw [if_neg (fun z => hc ⟨z.1, z.2.1⟩)]
    refine ⟨st, W, ?_, hW, hR, hL, rfl⟩
    refine ru_b (i2 := 0) (j2 := 0) xP_isProgram_ok ?_ rfl rfl
    rw [decide_eq_false hc]
    exact ru_t rfl rfl
theorem xP_inbox_ok (hW : CW gl fx ad W st) (hR : RW Z W 50) (hz : zw_n Z) (hv : v < zn_ Z) : xP_inbox gl (some (ad (0, 0))) (nI v) st = some (nI (z_inbox Z v), st, 0, 0) := by
  have hn := RW_n hR
  have h4 := hz.2.1
  have hvl := cwv_v (W := W) (v := v) (by omega) (by omega)
  have hsz := cu_size hW hvl hR.2.2.2.2.2.2.2
  rw [len_L hR hvl (Or.inl (by omega)) (by omega)] at hsz
  unfold xP_inbox
  refine ru_g _ (r0_m hW) ?_
  refine ru_b (i2 := 0) (j2 := 0) (xP_isVat_y hW hR hz hv) ?_ rfl rfl
  refine ru_f (by decide) ?_
  refine ru_g _ (r0_0 hW) ?_
  refine ru_g _ (r1_l hW (by omega) (by omega)) ?_
  refine ru_g _ (r7_1 hW (by omega) (by omega)) ?_
  refine ru_g _ (cu_lm hW hvl) ?_
  exact ru_b hsz rfl rfl rfl
end CCO
