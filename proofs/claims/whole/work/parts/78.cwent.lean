/-! The class's heap: writes into entities. -/
section CWE
variable {gl : gl_T} {fx : fx_T} {ad : Nat × Nat → Nat} {W : cw_W} {st : st_S} {e b s v L g u : Nat} {d : Int} {E : ze_E} {x : Int32}
theorem hs16 (h1 : ep_ E = ep_ (cwe_ W e)) (h2 : en_ E = en_ (cwe_ W e)) (h3 : eh_ E = eh_ (cwe_ W e)) (h4 : eg_ E = eg_ (cwe_ W e)) (h5 : es_ E = es_ (cwe_ W e)) (h6 : et_ E = et_ (cwe_ W e)) : hc_ gl ad (cj_e W e E) (16, e) = hc_ gl ad W (16, e) := by
  show (if cwd_ W e = true then some (he_ ad (cj_e W e E) e) else none) = (if cwd_ W e = true then some (he_ ad W e) else none)
  unfold he_
  rw [cwe_s, h1, h2, h3, h4, h5, h6]
  rfl
theorem hs17 (h : ex_ E = ex_ (cwe_ W e)) : hc_ gl ad (cj_e W e E) (17, e) = hc_ gl ad W (17, e) := by
  show (if cwd_ W e = true then some (Sum.inl (0, 4, fun b => Int32.ofInt (ex_ (cwe_ (cj_e W e E) e) b)) : ce_E) else none) = _
  rw [cwe_s, h]
  rfl
theorem hs18 (h : ei_ E = ei_ (cwe_ W e)) : hc_ gl ad (cj_e W e E) (18, e) = hc_ gl ad W (18, e) := by
  show (if cwd_ W e = true then some (Sum.inl (0, 4, fun b => Int32.ofInt (ei_ (cwe_ (cj_e W e E) e) b)) : ce_E) else none) = _
  rw [cwe_s, h]
  rfl
theorem hs19 (h : eo_ E = eo_ (cwe_ W e)) : hc_ gl ad (cj_e W e E) (19, e) = hc_ gl ad W (19, e) := by
  show (if cwd_ W e = true then some (Sum.inl (0, 16, fun q => Int32.ofInt (eo_ (cwe_ (cj_e W e E) e) (q / 4) (q % 4))) : ce_E) else none) = _
  rw [cwe_s, h]
  rfl
theorem hs20 (h : el_ E = el_ (cwe_ W e)) : hc_ gl ad (cj_e W e E) (20, e) = hc_ gl ad W (20, e) := by
  show (if cwd_ W e = true then some (if e ≤ 100 then .inr (.inl (6, 4, fun s => rf_ ad (el_ (cwe_ (cj_e W e E) e) s))) else ho_ gl W e) else none) = _
  rw [cwe_s, h]
  rfl
theorem hu_x (hd : cwd_ W e = true) : hc_ gl ad (cj_e W e (ej_x (cwe_ W e) b d)) = ku_ (hc_ gl ad W) (17, e) (.inl (0, 4, upd (fun c => Int32.ofInt (ex_ (cwe_ W e) c)) b (Int32.ofInt (ex_ (cwe_ W e) b + d)))) := by
  refine hu_1 (by decide) ((hk_17 (W := cj_e W e (ej_x (cwe_ W e) b d)) hd).trans ?_) (fun m h1 h2 h3 => m5 (P := fun m => m ≠ 17 → hc_ gl ad (cj_e W e (ej_x (cwe_ W e) b d)) (m, e) = hc_ gl ad W (m, e)) h1 h2 (fun _ => hs16 rfl rfl rfl rfl rfl rfl) (fun z => absurd rfl z) (fun _ => hs18 rfl) (fun _ => hs19 rfl) (fun _ => hs20 rfl) h3)
  congr 4
  rw [cwe_s]
  funext c
  show Int32.ofInt (va_up (ex_ (cwe_ W e)) b (ex_ (cwe_ W e) b + d) c) = upd _ _ _ c
  unfold va_up upd
  split <;> rfl
theorem hu_i (hd : cwd_ W e = true) : hc_ gl ad (cj_e W e (ej_i (cwe_ W e) b d)) = ku_ (hc_ gl ad W) (18, e) (.inl (0, 4, upd (fun c => Int32.ofInt (ei_ (cwe_ W e) c)) b (Int32.ofInt d))) := by
  refine hu_1 (by decide) ((hk_18 (W := cj_e W e (ej_i (cwe_ W e) b d)) hd).trans ?_) (fun m h1 h2 h3 => m5 (P := fun m => m ≠ 18 → hc_ gl ad (cj_e W e (ej_i (cwe_ W e) b d)) (m, e) = hc_ gl ad W (m, e)) h1 h2 (fun _ => hs16 rfl rfl rfl rfl rfl rfl) (fun _ => hs17 rfl) (fun z => absurd rfl z) (fun _ => hs19 rfl) (fun _ => hs20 rfl) h3)
  congr 4
  rw [cwe_s]
  funext c
  show Int32.ofInt (va_up (ei_ (cwe_ W e)) b d c) = upd _ _ _ c
  unfold va_up upd
  split <;> rfl
theorem hu_o {a : Nat} (hd : cwd_ W e = true) (hb : b < 4) : hc_ gl ad (cj_e W e (ej_o (cwe_ W e) a b d)) = ku_ (hc_ gl ad W) (19, e) (.inl (0, 16, upd (fun q => Int32.ofInt (eo_ (cwe_ W e) (q / 4) (q % 4))) (4 * a + b) (Int32.ofInt (eo_ (cwe_ W e) a b + d)))) := by
  refine hu_1 (by decide) ((hk_19 (W := cj_e W e (ej_o (cwe_ W e) a b d)) hd).trans ?_) (fun m h1 h2 h3 => m5 (P := fun m => m ≠ 19 → hc_ gl ad (cj_e W e (ej_o (cwe_ W e) a b d)) (m, e) = hc_ gl ad W (m, e)) h1 h2 (fun _ => hs16 rfl rfl rfl rfl rfl rfl) (fun _ => hs17 rfl) (fun _ => hs18 rfl) (fun z => absurd rfl z) (fun _ => hs20 rfl) h3)
  congr 4
  rw [cwe_s]
  funext q
  rw [eo_o]
  unfold upd
  by_cases c : q = 4 * a + b
  · rw [if_pos c, if_pos (by omega)]
  · rw [if_neg c, if_neg (by omega)]
theorem hu_l (hd : cwd_ W e = true) (he : e ≤ 100) : hc_ gl ad (cj_e W e (ej_l (cwe_ W e) s u)) = ku_ (hc_ gl ad W) (20, e) (.inr (.inl (6, 4, va_up (fun s => rf_ ad (el_ (cwe_ W e) s)) s (rf_ ad u)))) := by
  refine hu_1 (by decide) ((hk_20 (W := cj_e W e (ej_l (cwe_ W e) s u)) hd he).trans ?_) (fun m h1 h2 h3 => m5 (P := fun m => m ≠ 20 → hc_ gl ad (cj_e W e (ej_l (cwe_ W e) s u)) (m, e) = hc_ gl ad W (m, e)) h1 h2 (fun _ => hs16 rfl rfl rfl rfl rfl rfl) (fun _ => hs17 rfl) (fun _ => hs18 rfl) (fun _ => hs19 rfl) (fun z => absurd rfl z) h3)
  congr 5
  rw [cwe_s]
  funext c
  show rf_ ad (va_up (el_ (cwe_ W e)) s u c) = va_up _ _ _ c
  unfold va_up
  split <;> rfl
/-- the object changed, its rows as they were -/
theorem hu_16 (hd : cwd_ W e = true) (h1 : ex_ E = ex_ (cwe_ W e)) (h2 : ei_ E = ei_ (cwe_ W e)) (h3 : eo_ E = eo_ (cwe_ W e)) (h4 : el_ E = el_ (cwe_ W e)) : hc_ gl ad (cj_e W e E) = ku_ (hc_ gl ad W) (16, e) (he_ ad (cj_e W e E) e) :=
  hu_1 (by decide) (hk_16 (W := cj_e W e E) hd) (fun m a1 a2 a3 => m5 (P := fun m => m ≠ 16 → hc_ gl ad (cj_e W e E) (m, e) = hc_ gl ad W (m, e)) a1 a2 (fun z => absurd rfl z) (fun _ => hs17 h1) (fun _ => hs18 h2) (fun _ => hs19 h3) (fun _ => hs20 h4) a3)
theorem cu_x (h : CW gl fx ad W st) (hd : cwd_ W e = true) (hb : b < 4) {y : Int32} (hy : y = Int32.ofInt (ex_ (cwe_ W e) b + d)) : ∃ st', so_si (some (ad (17, e))) 0 (nI b) y st = some st' ∧ CW gl fx ad (cj_e W e (ej_x (cwe_ W e) b d)) st' ∧ st'.2 = st.2 := by
  subst hy
  refine ⟨_, og_si (at_17 h hd) (by omega) (by decide), ?_, rfl⟩
  unfold CW
  rw [hu_x hd]
  exact cv_up h (hk_17 hd)
theorem cu_i (h : CW gl fx ad W st) (hd : cwd_ W e = true) (hb : b < 4) {y : Int32} (hy : y = Int32.ofInt d) : ∃ st', so_si (some (ad (18, e))) 0 (nI b) y st = some st' ∧ CW gl fx ad (cj_e W e (ej_i (cwe_ W e) b d)) st' ∧ st'.2 = st.2 := by
  subst hy
  refine ⟨_, og_si (at_18 h hd) (by omega) (by decide), ?_, rfl⟩
  unfold CW
  rw [hu_i hd]
  exact cv_up h (hk_18 hd)
theorem cu_o {a : Nat} (h : CW gl fx ad W st) (hd : cwd_ W e = true) (ha : a < 4) (hb : b < 4) {y : Int32} (hy : y = Int32.ofInt (eo_ (cwe_ W e) a b + d)) : ∃ st', so_si (some (ad (19, e))) 0 (nI (4 * a + b)) y st = some st' ∧ CW gl fx ad (cj_e W e (ej_o (cwe_ W e) a b d)) st' ∧ st'.2 = st.2 := by
  subst hy
  refine ⟨_, og_si (at_19 h hd) (by omega) (by decide), ?_, rfl⟩
  unfold CW
  rw [hu_o hd hb]
  exact cv_up h (hk_19 hd)
/-- a reference that may be stored -/
theorem rf_is (h : CW gl fx ad W st) (hu : u = 0 ∨ cwd_ W u = true) : so_is st (rf_ ad u) [3, 4] = true := by
  unfold rf_
  split
  · rfl
  · rename_i h0
    exact re_is h (hu.resolve_left h0)
theorem cu_l (h : CW gl fx ad W st) (hd : cwd_ W e = true) (he : e ≤ 100) (hs : s < 4) (hu : u = 0 ∨ cwd_ W u = true) : ∃ st', so_sq (some (ad (20, e))) [6] [3, 4] (nI s) (rf_ ad u) st = some st' ∧ CW gl fx ad (cj_e W e (ej_l (cwe_ W e) s u)) st' ∧ st'.2 = st.2 := by
  refine ⟨_, og_sq (at_20 h hd he) (by simp) (by omega) (by decide) (rf_is h hu), ?_, rfl⟩
  unfold CW
  rw [hu_l hd he]
  exact cv_up h (hk_20 hd he)
theorem cu_n (h : CW gl fx ad W st) (hd : cwd_ W e = true) (he : e ≤ 100) : ∃ st', so_p (some (ad (16, e))) [3] 1 (.int x) st = some st' ∧ CW gl fx ad (cj_e W e (ej_n (cwe_ W e) x)) st' ∧ st'.2 = st.2 := by
  refine ⟨_, og_p (ro_at h hd he) (by simp) (by simp), ?_, rfl⟩
  unfold CW
  rw [hu_16 (E := ej_n (cwe_ W e) x) hd rfl rfl rfl rfl]
  have := cv_up (c := he_ ad (cj_e W e (ej_n (cwe_ W e) x)) e) h (hk_16 hd)
  rw [he_o he, cwe_s] at this ⊢
  exact this
theorem cu_g (h : CW gl fx ad W st) (hd : cwd_ W e = true) : ∃ st', so_p (some (ad (16, e))) [3, 4] 5 (.int 1) st = some st' ∧ CW gl fx ad (cj_e W e (ej_g (cwe_ W e))) st' ∧ st'.2 = st.2 := by
  have hc := cv_up (c := he_ ad (cj_e W e (ej_g (cwe_ W e))) e) h (hk_16 hd)
  by_cases he : e ≤ 100
  · refine ⟨_, og_p (ro_at h hd he) (by simp) (by simp), ?_, rfl⟩
    unfold CW
    rw [hu_16 (E := ej_g (cwe_ W e)) hd rfl rfl rfl rfl]
    rw [he_o he, cwe_s] at hc ⊢
    exact hc
  · refine ⟨_, og_p (rp_at h hd (by omega)) (by simp) (by simp), ?_, rfl⟩
    unfold CW
    rw [hu_16 (E := ej_g (cwe_ W e)) hd rfl rfl rfl rfl]
    rw [he_p (by omega), cwe_s] at hc ⊢
    exact hc
/-- an outcome, then closed -/
theorem cu_s (h : CW gl fx ad W st) (hd : cwd_ W e = true) (he : 100 < e) : ∃ st1 st', so_p (some (ad (16, e))) [4] 1 (va_rf (rf_ ad u)) st = some st1 ∧ so_p (some (ad (16, e))) [4] 0 (.int 0) st1 = some st' ∧ CW gl fx ad (cj_e W e (ej_s (cwe_ W e) u)) st' ∧ st'.2 = st.2 := by
  refine ⟨_, _, og_p (rp_at h hd he) (by simp) (by simp), og_p up_s (by simp) (by simp), ?_, rfl⟩
  have hc := cv_up (c := he_ ad (cj_e W e (ej_s (cwe_ W e) u)) e) h (hk_16 hd)
  unfold CW
  rw [hu_16 (E := ej_s (cwe_ W e) u) hd rfl rfl rfl rfl]
  rw [he_p he, cwe_s] at hc ⊢
  have e1 : ∀ (c1 c2 : ce_E), st_up (st_up st (ad (16, e)) c1) (ad (16, e)) c2 = st_up st (ad (16, e)) c2 := fun c1 c2 => by
    unfold st_up
    refine Prod.ext (funext (fun q => ?_)) rfl
    show (if q = ad (16, e) then some c2 else if q = ad (16, e) then some c1 else st.1 q) = if q = ad (16, e) then some c2 else st.1 q
    split <;> rfl
  rw [e1]
  exact hc
end CWE
