/-! The class's heap: what is read, what a write of an entity's cell changes. -/
section CWR
variable {gl : gl_T} {fx : fx_T} {ad : Nat × Nat → Nat} {W : cw_W} {st : st_S} {e b s v L g : Nat}
abbrev CW (gl : gl_T) (fx : fx_T) (ad : Nat × Nat → Nat) (W : cw_W) (st : st_S) : Prop := cv_ gl fx (aw_ ad W) (hc_ gl ad W) st
theorem hk_0 : hc_ gl ad W (0, 0) = some (.inr (.inr (0, [.ref (ad (1, 0)), .ref (ad (2, 0)), .ref (ad (3, 0)), .int (nI (cwo_ W)), .int (nI (cwp_ W)), .ref (ad (4, 0)), .ref (ad (5, 0)), .int (cwL_ W).1, .ref (ad (6, 0)), .int (cwF_ W).1]))) := rfl
theorem hk_1 : hc_ gl ad W (1, 0) = some (.inr (.inl (4, cwn_ W, fun v => if v < cwn_ W then some (ad (7, v)) else none))) := rfl
theorem hk_2 : hc_ gl ad W (2, 0) = some (.inr (.inl (5, 8, fun g => if g < 8 then some (ad (13, g)) else none))) := rfl
theorem hk_3 : hc_ gl ad W (3, 0) = some (.inr (.inl (6, 201, fun e => if cwd_ W e = true then some (ad (16, e)) else none))) := rfl
theorem hk_4 : hc_ gl ad W (4, 0) = some (.inr (.inr (1, [va_rf (rf_ ad (cwT_ W).1), .int (cwT_ W).2.1, va_rf (rf_ ad (cwT_ W).2.2.1), .int (cwT_ W).2.2.2]))) := rfl
theorem hk_5 : hc_ gl ad W (5, 0) = some (.inr (.inl (7, 100, (cwL_ W).2))) := rfl
theorem hk_6 : hc_ gl ad W (6, 0) = some (.inr (.inl (6, 160, (cwF_ W).2))) := rfl
theorem hk_7 (h : v < cwn_ W ∧ v < 4) : hc_ gl ad W (7, v) = some (.inr (.inr (5, [.ref (ad (16, v + 1)), .ref (ad (8, v)), .ref (ad (9, v)), .ref (ad (10, v)), .int (nI (cwt_ W v).length)]))) := if_pos h
theorem hk_8 (h : v < cwn_ W ∧ v < 4) : hc_ gl ad W (8, v) = some (ho_ gl W v) := if_pos h
theorem hk_9 (h : v < cwn_ W ∧ v < 4) : hc_ gl ad W (9, v) = some (.inr (.inl (8, cwn_ W, fun b => if b < cwn_ W then some (ad (11, 4 * v + b)) else none))) := if_pos h
theorem hk_10 (h : v < cwn_ W ∧ v < 4) : hc_ gl ad W (10, v) = some (.inl (0, 10, fun i => if i < 10 then ((cwt_ W v)[i]?).getD 0 else 0)) := if_pos h
theorem hk_11 (h : b / 4 < cwn_ W ∧ b % 4 < cwn_ W ∧ b < 16) : hc_ gl ad W (11, b) = some (.inr (.inr (7, [.ref (ad (12, b))]))) := if_pos h
theorem hk_12 (h : b / 4 < cwn_ W ∧ b % 4 < cwn_ W ∧ b < 16) : hc_ gl ad W (12, b) = some (ho_ gl W (4 + b)) := if_pos h
theorem hk_13 (h : g < 8) : hc_ gl ad W (13, g) = some (.inr (.inr (2, [.ref (ad (14, g)), .ref (ad (15, g)), .int (nI (cwg_ W g).1)]))) := if_pos h
theorem hk_14 (h : g < 8) : hc_ gl ad W (14, g) = some (.inl (0, 8, (cwg_ W g).2.1)) := if_pos h
theorem hk_15 (h : g < 8) : hc_ gl ad W (15, g) = some (.inl (0, 8, (cwg_ W g).2.2)) := if_pos h
theorem hk_16 (h : cwd_ W e = true) : hc_ gl ad W (16, e) = some (he_ ad W e) := if_pos h
theorem hk_17 (h : cwd_ W e = true) : hc_ gl ad W (17, e) = some (.inl (0, 4, fun b => Int32.ofInt (ex_ (cwe_ W e) b))) := if_pos h
theorem hk_18 (h : cwd_ W e = true) : hc_ gl ad W (18, e) = some (.inl (0, 4, fun b => Int32.ofInt (ei_ (cwe_ W e) b))) := if_pos h
theorem hk_19 (h : cwd_ W e = true) : hc_ gl ad W (19, e) = some (.inl (0, 16, fun q => Int32.ofInt (eo_ (cwe_ W e) (q / 4) (q % 4)))) := if_pos h
theorem hk_20 (h : cwd_ W e = true) (h2 : e ≤ 100) : hc_ gl ad W (20, e) = some (.inr (.inl (6, 4, fun s => rf_ ad (el_ (cwe_ W e) s)))) := (if_pos h).trans (by rw [if_pos h2])
theorem hk_20p (h : cwd_ W e = true) (h2 : 100 < e) : hc_ gl ad W (20, e) = some (ho_ gl W e) := (if_pos h).trans (by rw [if_neg (by show ¬ e ≤ 100; omega)])
theorem hk_21 (h : cwv_ W L = true) (h2 : 0 < (cwk_ W L).1) : hc_ gl ad W (21, L) = some (.inr (.inl (9, (cwk_ W L).1, fun i => (cwl_ W L)[i]?))) := if_pos ⟨h, h2⟩
theorem hk_22 {a : Nat} {c : Nat × Int32 × Nat × Nat} (h : cwC_ W a = some c) : hc_ gl ad W (22, a) = some (.inr (.inr (8, [va_rf (rf_ ad c.1), .int c.2.1, va_rf (rf_ ad c.2.2.1), va_rf (rf_ ad c.2.2.2)]))) := by
  show (cwC_ W a).map _ = _
  rw [h]
  rfl
theorem hk_23 {a : Nat} {m : Nat × Nat × Nat × Int32 × Option Nat} (h : cwM_ W a = some m) : hc_ gl ad W (23, a) = some (.inr (.inr (9, [.int (nI m.1), va_rf (rf_ ad m.2.1), va_rf (rf_ ad m.2.2.1), .int m.2.2.2.1, va_rf m.2.2.2.2]))) := by
  show (cwM_ W a).map _ = _
  rw [h]
  rfl
theorem at_0 (h0 : CW gl fx ad W st) : st.1 (ad (0, 0)) = some (.inr (.inr (0, [.ref (ad (1, 0)), .ref (ad (2, 0)), .ref (ad (3, 0)), .int (nI (cwo_ W)), .int (nI (cwp_ W)), .ref (ad (4, 0)), .ref (ad (5, 0)), .int (cwL_ W).1, .ref (ad (6, 0)), .int (cwF_ W).1]))) := cv_at (ad := aw_ ad W) h0 (hk_0)
theorem at_1 (h0 : CW gl fx ad W st) : st.1 (ad (1, 0)) = some (.inr (.inl (4, cwn_ W, fun v => if v < cwn_ W then some (ad (7, v)) else none))) := cv_at (ad := aw_ ad W) h0 (hk_1)
theorem at_2 (h0 : CW gl fx ad W st) : st.1 (ad (2, 0)) = some (.inr (.inl (5, 8, fun g => if g < 8 then some (ad (13, g)) else none))) := cv_at (ad := aw_ ad W) h0 (hk_2)
theorem at_3 (h0 : CW gl fx ad W st) : st.1 (ad (3, 0)) = some (.inr (.inl (6, 201, fun e => if cwd_ W e = true then some (ad (16, e)) else none))) := cv_at (ad := aw_ ad W) h0 (hk_3)
theorem at_4 (h0 : CW gl fx ad W st) : st.1 (ad (4, 0)) = some (.inr (.inr (1, [va_rf (rf_ ad (cwT_ W).1), .int (cwT_ W).2.1, va_rf (rf_ ad (cwT_ W).2.2.1), .int (cwT_ W).2.2.2]))) := cv_at (ad := aw_ ad W) h0 (hk_4)
theorem at_5 (h0 : CW gl fx ad W st) : st.1 (ad (5, 0)) = some (.inr (.inl (7, 100, (cwL_ W).2))) := cv_at (ad := aw_ ad W) h0 (hk_5)
theorem at_6 (h0 : CW gl fx ad W st) : st.1 (ad (6, 0)) = some (.inr (.inl (6, 160, (cwF_ W).2))) := cv_at (ad := aw_ ad W) h0 (hk_6)
theorem at_7 (h0 : CW gl fx ad W st) (h : v < cwn_ W ∧ v < 4) : st.1 (ad (7, v)) = some (.inr (.inr (5, [.ref (ad (16, v + 1)), .ref (ad (8, v)), .ref (ad (9, v)), .ref (ad (10, v)), .int (nI (cwt_ W v).length)]))) := cv_at (ad := aw_ ad W) h0 (hk_7 h)
theorem at_8 (h0 : CW gl fx ad W st) (h : v < cwn_ W ∧ v < 4) : st.1 (ad (8, v)) = some (ho_ gl W v) := cv_at (ad := aw_ ad W) h0 (hk_8 h)
theorem at_9 (h0 : CW gl fx ad W st) (h : v < cwn_ W ∧ v < 4) : st.1 (ad (9, v)) = some (.inr (.inl (8, cwn_ W, fun b => if b < cwn_ W then some (ad (11, 4 * v + b)) else none))) := cv_at (ad := aw_ ad W) h0 (hk_9 h)
theorem at_10 (h0 : CW gl fx ad W st) (h : v < cwn_ W ∧ v < 4) : st.1 (ad (10, v)) = some (.inl (0, 10, fun i => if i < 10 then ((cwt_ W v)[i]?).getD 0 else 0)) := cv_at (ad := aw_ ad W) h0 (hk_10 h)
theorem at_11 (h0 : CW gl fx ad W st) (h : b / 4 < cwn_ W ∧ b % 4 < cwn_ W ∧ b < 16) : st.1 (ad (11, b)) = some (.inr (.inr (7, [.ref (ad (12, b))]))) := cv_at (ad := aw_ ad W) h0 (hk_11 h)
theorem at_12 (h0 : CW gl fx ad W st) (h : b / 4 < cwn_ W ∧ b % 4 < cwn_ W ∧ b < 16) : st.1 (ad (12, b)) = some (ho_ gl W (4 + b)) := cv_at (ad := aw_ ad W) h0 (hk_12 h)
theorem at_13 (h0 : CW gl fx ad W st) (h : g < 8) : st.1 (ad (13, g)) = some (.inr (.inr (2, [.ref (ad (14, g)), .ref (ad (15, g)), .int (nI (cwg_ W g).1)]))) := cv_at (ad := aw_ ad W) h0 (hk_13 h)
theorem at_14 (h0 : CW gl fx ad W st) (h : g < 8) : st.1 (ad (14, g)) = some (.inl (0, 8, (cwg_ W g).2.1)) := cv_at (ad := aw_ ad W) h0 (hk_14 h)
theorem at_15 (h0 : CW gl fx ad W st) (h : g < 8) : st.1 (ad (15, g)) = some (.inl (0, 8, (cwg_ W g).2.2)) := cv_at (ad := aw_ ad W) h0 (hk_15 h)
theorem at_16 (h0 : CW gl fx ad W st) (h : cwd_ W e = true) : st.1 (ad (16, e)) = some (he_ ad W e) := cv_at (ad := aw_ ad W) h0 (hk_16 h)
theorem at_17 (h0 : CW gl fx ad W st) (h : cwd_ W e = true) : st.1 (ad (17, e)) = some (.inl (0, 4, fun b => Int32.ofInt (ex_ (cwe_ W e) b))) := cv_at (ad := aw_ ad W) h0 (hk_17 h)
theorem at_18 (h0 : CW gl fx ad W st) (h : cwd_ W e = true) : st.1 (ad (18, e)) = some (.inl (0, 4, fun b => Int32.ofInt (ei_ (cwe_ W e) b))) := cv_at (ad := aw_ ad W) h0 (hk_18 h)
theorem at_19 (h0 : CW gl fx ad W st) (h : cwd_ W e = true) : st.1 (ad (19, e)) = some (.inl (0, 16, fun q => Int32.ofInt (eo_ (cwe_ W e) (q / 4) (q % 4)))) := cv_at (ad := aw_ ad W) h0 (hk_19 h)
theorem at_20 (h0 : CW gl fx ad W st) (h : cwd_ W e = true) (h2 : e ≤ 100) : st.1 (ad (20, e)) = some (.inr (.inl (6, 4, fun s => rf_ ad (el_ (cwe_ W e) s)))) := cv_at (ad := aw_ ad W) h0 (hk_20 h h2)
theorem at_20p (h0 : CW gl fx ad W st) (h : cwd_ W e = true) (h2 : 100 < e) : st.1 (ad (20, e)) = some (ho_ gl W e) := cv_at (ad := aw_ ad W) h0 (hk_20p h h2)
/-! reading an entity -/
theorem he_o (h : e ≤ 100) : he_ ad W e = .inr (.inr (3, [.int (nI (ep_ (cwe_ W e))), .int (en_ (cwe_ W e)), .ref (ad (20, e)), .int (nI e), .int (nI (eh_ (cwe_ W e))), .int (bi_ (eg_ (cwe_ W e))), .int (cwc_ W e), .ref (ad (17, e)), .ref (ad (18, e)), .ref (ad (19, e))])) := if_pos h
theorem he_p (h : 100 < e) : he_ ad W e = .inr (.inr (4, [.int (bi_ (!es_ (cwe_ W e))), va_rf (rf_ ad (if es_ (cwe_ W e) = true then et_ (cwe_ W e) else 0)), .ref (ad (20, e)), .int (nI e), .int (nI (eh_ (cwe_ W e))), .int (bi_ (eg_ (cwe_ W e))), .int (cwc_ W e), .ref (ad (17, e)), .ref (ad (18, e)), .ref (ad (19, e))])) := if_neg (by omega)
/-- the common fields, whatever the entity is -/
theorem he_any : ∃ ci fs, he_ ad W e = .inr (.inr (ci, fs)) ∧ ci ∈ ([3, 4] : List Nat) ∧ fs.length = 10 ∧ fs[3]? = some (.int (nI e)) ∧ fs[4]? = some (.int (nI (eh_ (cwe_ W e)))) ∧ fs[5]? = some (.int (bi_ (eg_ (cwe_ W e)))) ∧ fs[6]? = some (.int (cwc_ W e)) ∧ fs[7]? = some (.ref (ad (17, e))) ∧ fs[8]? = some (.ref (ad (18, e))) ∧ fs[9]? = some (.ref (ad (19, e))) := by
  by_cases h : e ≤ 100
  · exact ⟨_, _, he_o h, by simp, rfl, rfl, rfl, rfl, rfl, rfl, rfl, rfl⟩
  · exact ⟨_, _, he_p (by omega), by simp, rfl, rfl, rfl, rfl, rfl, rfl, rfl, rfl⟩
theorem re_i3 (h : CW gl fx ad W st) (hd : cwd_ W e = true) : so_gi (some (ad (16, e))) [3, 4] 3 st = some (nI e) := by
  obtain ⟨ci, fs, h1, h2, h3, h4, -⟩ := he_any (ad := ad) (W := W) (e := e)
  exact og_i ((cv_at h (hk_16 hd)).trans (by rw [h1])) h2 h4
theorem re_h (h : CW gl fx ad W st) (hd : cwd_ W e = true) : so_gi (some (ad (16, e))) [3, 4] 4 st = some (nI (eh_ (cwe_ W e))) := by
  obtain ⟨ci, fs, h1, h2, h3, h4, h5, -⟩ := he_any (ad := ad) (W := W) (e := e)
  exact og_i ((cv_at h (hk_16 hd)).trans (by rw [h1])) h2 h5
theorem re_g (h : CW gl fx ad W st) (hd : cwd_ W e = true) : so_gi (some (ad (16, e))) [3, 4] 5 st = some (bi_ (eg_ (cwe_ W e))) := by
  obtain ⟨ci, fs, h1, h2, h3, h4, h5, h6, -⟩ := he_any (ad := ad) (W := W) (e := e)
  exact og_i ((cv_at h (hk_16 hd)).trans (by rw [h1])) h2 h6
theorem re_c (h : CW gl fx ad W st) (hd : cwd_ W e = true) : so_gi (some (ad (16, e))) [3, 4] 6 st = some (cwc_ W e) := by
  obtain ⟨ci, fs, h1, h2, h3, h4, h5, h6, h7, -⟩ := he_any (ad := ad) (W := W) (e := e)
  exact og_i ((cv_at h (hk_16 hd)).trans (by rw [h1])) h2 h7
theorem re_x (h : CW gl fx ad W st) (hd : cwd_ W e = true) : so_gq (some (ad (16, e))) [3, 4] 7 st = some (some (ad (17, e))) := by
  obtain ⟨ci, fs, h1, h2, h3, h4, h5, h6, h7, h8, -⟩ := he_any (ad := ad) (W := W) (e := e)
  exact og_q (q := some (ad (17, e))) ((cv_at h (hk_16 hd)).trans (by rw [h1])) h2 h8
theorem re_i (h : CW gl fx ad W st) (hd : cwd_ W e = true) : so_gq (some (ad (16, e))) [3, 4] 8 st = some (some (ad (18, e))) := by
  obtain ⟨ci, fs, h1, h2, h3, h4, h5, h6, h7, h8, h9, -⟩ := he_any (ad := ad) (W := W) (e := e)
  exact og_q (q := some (ad (18, e))) ((cv_at h (hk_16 hd)).trans (by rw [h1])) h2 h9
theorem re_o (h : CW gl fx ad W st) (hd : cwd_ W e = true) : so_gq (some (ad (16, e))) [3, 4] 9 st = some (some (ad (19, e))) := by
  obtain ⟨ci, fs, h1, h2, h3, h4, h5, h6, h7, h8, h9, h10⟩ := he_any (ad := ad) (W := W) (e := e)
  exact og_q (q := some (ad (19, e))) ((cv_at h (hk_16 hd)).trans (by rw [h1])) h2 h10
theorem re_is (h : CW gl fx ad W st) (hd : cwd_ W e = true) : so_is st (some (ad (16, e))) [3, 4] = true := by
  obtain ⟨ci, fs, h1, h2, -⟩ := he_any (ad := ad) (W := W) (e := e)
  exact og_is ((cv_at h (hk_16 hd)).trans (by rw [h1])) h2
theorem ro_at (h : CW gl fx ad W st) (hd : cwd_ W e = true) (he : e ≤ 100) : st.1 (ad (16, e)) = some (.inr (.inr (3, [.int (nI (ep_ (cwe_ W e))), .int (en_ (cwe_ W e)), .ref (ad (20, e)), .int (nI e), .int (nI (eh_ (cwe_ W e))), .int (bi_ (eg_ (cwe_ W e))), .int (cwc_ W e), .ref (ad (17, e)), .ref (ad (18, e)), .ref (ad (19, e))]))) := (cv_at h (hk_16 hd)).trans (by rw [he_o he])
theorem rp_at (h : CW gl fx ad W st) (hd : cwd_ W e = true) (he : 100 < e) : st.1 (ad (16, e)) = some (.inr (.inr (4, [.int (bi_ (!es_ (cwe_ W e))), va_rf (rf_ ad (if es_ (cwe_ W e) = true then et_ (cwe_ W e) else 0)), .ref (ad (20, e)), .int (nI e), .int (nI (eh_ (cwe_ W e))), .int (bi_ (eg_ (cwe_ W e))), .int (cwc_ W e), .ref (ad (17, e)), .ref (ad (18, e)), .ref (ad (19, e))]))) := (cv_at h (hk_16 hd)).trans (by rw [he_p he])
/-! entity updates -/
theorem cwe_s {E : ze_E} : cwe_ (cj_e W e E) e = E := va_up_self _ _ _
theorem cwe_n {E : ze_E} {f : Nat} (h : f ≠ e) : cwe_ (cj_e W e E) f = cwe_ W f := va_up_ne _ _ h
theorem hu_n {E : ze_E} : ∀ (k : Nat × Nat), (k.2 ≠ e ∨ k.1 < 16 ∨ 20 < k.1) → hc_ gl ad (cj_e W e E) k = hc_ gl ad W k
  | (0, i), _ => rfl
  | (1, i), _ => rfl
  | (2, i), _ => rfl
  | (3, i), _ => rfl
  | (4, i), _ => rfl
  | (5, i), _ => rfl
  | (6, i), _ => rfl
  | (7, i), _ => rfl
  | (8, i), _ => rfl
  | (9, i), _ => rfl
  | (10, i), _ => rfl
  | (11, i), _ => rfl
  | (12, i), _ => rfl
  | (13, i), _ => rfl
  | (14, i), _ => rfl
  | (15, i), _ => rfl
  | (16, i), h => by
    have hi : i ≠ e := h.elim id (fun z => absurd z (by show ¬ ((16 : Nat) < 16 ∨ 20 < 16); decide))
    show (if cwd_ W i = true then some (he_ ad (cj_e W e E) i) else none) = _
    unfold he_
    rw [cwe_n hi]
    rfl
  | (17, i), h => by
    have hi : i ≠ e := h.elim id (fun z => absurd z (by show ¬ ((17 : Nat) < 16 ∨ 20 < 17); decide))
    show (if cwd_ W i = true then some (Sum.inl (0, 4, fun b => Int32.ofInt (ex_ (cwe_ (cj_e W e E) i) b)) : ce_E) else none) = _
    rw [cwe_n hi]
    rfl
  | (18, i), h => by
    have hi : i ≠ e := h.elim id (fun z => absurd z (by show ¬ ((18 : Nat) < 16 ∨ 20 < 18); decide))
    show (if cwd_ W i = true then some (Sum.inl (0, 4, fun b => Int32.ofInt (ei_ (cwe_ (cj_e W e E) i) b)) : ce_E) else none) = _
    rw [cwe_n hi]
    rfl
  | (19, i), h => by
    have hi : i ≠ e := h.elim id (fun z => absurd z (by show ¬ ((19 : Nat) < 16 ∨ 20 < 19); decide))
    show (if cwd_ W i = true then some (Sum.inl (0, 16, fun q => Int32.ofInt (eo_ (cwe_ (cj_e W e E) i) (q / 4) (q % 4))) : ce_E) else none) = _
    rw [cwe_n hi]
    rfl
  | (20, i), h => by
    have hi : i ≠ e := h.elim id (fun z => absurd z (by show ¬ ((20 : Nat) < 16 ∨ 20 < 20); decide))
    show (if cwd_ W i = true then some (if i ≤ 100 then .inr (.inl (6, 4, fun s => rf_ ad (el_ (cwe_ (cj_e W e E) i) s))) else ho_ gl W i) else none) = _
    rw [cwe_n hi]
    rfl
  | (21, i), _ => rfl
  | (22, i), _ => rfl
  | (23, i), _ => rfl
  | (n + 24, i), _ => rfl
theorem ku_s {H : Nat × Nat → Option ce_E} {k : Nat × Nat} {c : ce_E} : ku_ H k c k = some c := if_pos rfl
theorem ku_n {H : Nat × Nat → Option ce_E} {k q : Nat × Nat} {c : ce_E} (h : q ≠ k) : ku_ H k c q = H q := if_neg h
/-- an entity changed in one of its cells, the n-th kind -/
theorem hu_1 {E : ze_E} {n : Nat} {c : ce_E} (hn : 16 ≤ n ∧ n ≤ 20) (hs : hc_ gl ad (cj_e W e E) (n, e) = some c) (ho : ∀ m, 16 ≤ m → m ≤ 20 → m ≠ n → hc_ gl ad (cj_e W e E) (m, e) = hc_ gl ad W (m, e)) : hc_ gl ad (cj_e W e E) = ku_ (hc_ gl ad W) (n, e) c := by
  funext k
  by_cases hk : k = (n, e)
  · subst hk
    rw [ku_s]
    exact hs
  · rw [ku_n hk]
    by_cases h : k.2 ≠ e ∨ k.1 < 16 ∨ 20 < k.1
    · exact hu_n k h
    · obtain ⟨m, i⟩ := k
      have hi : i = e := Classical.byContradiction (fun z => h (Or.inl z))
      subst hi
      exact ho m (Nat.le_of_not_lt (fun z => h (Or.inr (Or.inl z)))) (Nat.le_of_not_lt (fun z => h (Or.inr (Or.inr z)))) (fun z => hk (by rw [z]))
theorem m5 {m : Nat} {P : Nat → Prop} (h1 : 16 ≤ m) (h2 : m ≤ 20) (a : P 16) (b : P 17) (c : P 18) (d : P 19) (e : P 20) : P m := by
  have : m = 16 ∨ m = 17 ∨ m = 18 ∨ m = 19 ∨ m = 20 := by omega
  rcases this with h | h | h | h | h <;> rw [h] <;> assumption
end CWR
