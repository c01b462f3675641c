/-! The class's sweep: what is found is marked. -/
/-- marks and found entities -/
def cj_m (W : cw_W) (cc : Nat → Int32) (F : Int32 × (Nat → Option Nat)) : cw_W := (cwN_ W, cwd_ W, cwg_ W, cwe_ W, cc, cwl_ W, cwk_ W, cwC_ W, cwM_ W, cwt_ W, cwT_ W, cwL_ W, F)
section CFR
variable {gl : gl_T} {fx : fx_T} {ad : Nat × Nat → Nat} {W W' W0 : cw_W} {st st' : st_S} {Z X : zz_S} {e a b s v L g u q t h p w ref c n f o y k pos : Nat} {x op : Int32} {lost l fl fl1 fl2 : List Nat} {cc : Nat → Int32} {F : Int32 × (Nat → Option Nat)}
theorem hm_n : ∀ (k : Nat × Nat), k ≠ (0, 0) → k ≠ (6, 0) → k.1 ≠ 16 → hc_ gl ad (cj_m W cc F) k = hc_ gl ad W k
  | (0, i), h0, h6, _ => by
    have hi : i ≠ 0 := fun z => h0 (by rw [z])
    show (if i = 0 then _ else none) = (if i = 0 then _ else none)
    rw [if_neg hi, if_neg hi]
  | (1, i), _, _, _ => rfl
  | (2, i), _, _, _ => rfl
  | (3, i), _, _, _ => rfl
  | (4, i), _, _, _ => rfl
  | (5, i), _, _, _ => rfl
  | (6, i), h0, h6, _ => by
    have hi : i ≠ 0 := fun z => h6 (by rw [z])
    show (if i = 0 then _ else none) = (if i = 0 then _ else none)
    rw [if_neg hi, if_neg hi]
  | (7, i), _, _, _ => rfl
  | (8, i), _, _, _ => rfl
  | (9, i), _, _, _ => rfl
  | (10, i), _, _, _ => rfl
  | (11, i), _, _, _ => rfl
  | (12, i), _, _, _ => rfl
  | (13, i), _, _, _ => rfl
  | (14, i), _, _, _ => rfl
  | (15, i), _, _, _ => rfl
  | (16, i), _, _, h => absurd rfl h
  | (17, i), _, _, _ => rfl
  | (18, i), _, _, _ => rfl
  | (19, i), _, _, _ => rfl
  | (20, i), _, _, _ => rfl
  | (21, i), _, _, _ => rfl
  | (22, i), _, _, _ => rfl
  | (23, i), _, _, _ => rfl
  | (n + 24, i), _, _, _ => rfl
theorem hm_16 (h : cc e = cwc_ W e) : hc_ gl ad (cj_m W cc F) (16, e) = hc_ gl ad W (16, e) := by
  show (if cwd_ W e = true then some (he_ ad (cj_m W cc F) e) else none) = (if cwd_ W e = true then some (he_ ad W e) else none)
  unfold he_
  have e1 : cwc_ (cj_m W cc F) = cc := rfl
  rw [e1, h]
  rfl
theorem RW_m (h : RW Z W s) : RW Z (cj_m W cc F) s := by
  obtain ⟨h1, h2, h3, h4, h5, h6, h7, h8⟩ := h
  exact ⟨h1, h2, h3, h4, h5, h6, h7, h8⟩
/-- a mark is written -/
theorem cu_m (h : CW gl fx ad W st) (hd : cwd_ W e = true) : ∃ st', so_p (some (ad (16, e))) [3, 4] 6 (.int x) st = some st' ∧ CW gl fx ad (cj_m W (va_up (cwc_ W) e x) (cwF_ W)) st' := by
  have hc := cv_up (ad := aw_ ad W) (c := he_ ad (cj_m W (va_up (cwc_ W) e x) (cwF_ W)) e) h (hk_16 hd)
  have hcc : cwc_ (cj_m W (va_up (cwc_ W) e x) (cwF_ W)) e = x := va_up_self _ _ _
  have fin : CW gl fx ad (cj_m W (va_up (cwc_ W) e x) (cwF_ W)) (st_up st (ad (16, e)) (he_ ad (cj_m W (va_up (cwc_ W) e x) (cwF_ W)) e)) := by
    refine cv_sub (ad := aw_ ad W) hc (fun k c hk => ?_)
    by_cases k16 : k = (16, e)
    · rw [k16, ku_s]
      rw [k16, hk_16 (W := cj_m W (va_up (cwc_ W) e x) (cwF_ W)) hd] at hk
      exact hk
    · rw [ku_n k16]
      by_cases k0 : k = (0, 0)
      · rw [k0] at hk ⊢
        exact hk
      · by_cases k6 : k = (6, 0)
        · rw [k6] at hk ⊢
          exact hk
        · by_cases k1 : k.1 = 16
          · obtain ⟨m, i⟩ := k
            have k1 : m = 16 := k1
            subst k1
            rw [hm_16 (va_up_ne _ _ (fun z => k16 (by rw [z])))] at hk
            exact hk
          · rw [hm_n k k0 k6 k1] at hk
            exact hk
  by_cases he : e ≤ 100
  · refine ⟨_, og_p (ro_at h hd he) (by simp) (by simp), ?_⟩
    rw [he_o he, hcc] at fin
    exact fin
  · refine ⟨_, og_p (rp_at h hd (by omega)) (by simp) (by simp), ?_⟩
    rw [he_p (by omega), hcc] at fin
    exact fin
/-- the row of the found, then their count -/
theorem cu_F (h : CW gl fx ad W st) {i : Nat} (hi : i < 160) (hu : u = 0 ∨ cwd_ W u = true) : ∃ st', so_sq (some (ad (6, 0))) [6] [3, 4] (nI i) (rf_ ad u) st = some st' ∧ CW gl fx ad (cj_m W (cwc_ W) ((cwF_ W).1, va_up (cwF_ W).2 i (rf_ ad u))) st' := by
  refine ⟨_, og_sq (at_6 h) (by simp) hi (by decide) (rf_is h hu), ?_⟩
  have hc := cv_up (ad := aw_ ad W) (c := .inr (.inl (6, 160, va_up (cwF_ W).2 i (rf_ ad u)))) h hk_6
  refine cv_sub (ad := aw_ ad W) hc (fun k c hk => ?_)
  by_cases k6 : k = (6, 0)
  · rw [k6, ku_s]
    rw [k6] at hk
    exact hk
  · rw [ku_n k6]
    by_cases k0 : k = (0, 0)
    · rw [k0] at hk ⊢
      exact hk
    · by_cases k1 : k.1 = 16
      · obtain ⟨m, i⟩ := k
        have k1 : m = 16 := k1
        subst k1
        rw [hm_16 rfl] at hk
        exact hk
      · rw [hm_n k k0 k6 k1] at hk
        exact hk
theorem cu_F0 (h : CW gl fx ad W st) : ∃ st', so_p (some (ad (0, 0))) [0] 9 (.int x) st = some st' ∧ CW gl fx ad (cj_m W (cwc_ W) (x, (cwF_ W).2)) st' := by
  refine ⟨_, og_p (at_0 h) (by simp) (by simp), ?_⟩
  have hc := cv_up (ad := aw_ ad W) (c := .inr (.inr (0, [.ref (ad (1, 0)), .ref (ad (2, 0)), .ref (ad (3, 0)), .int (nI (cwo_ W)), .int (nI (cwp_ W)), .ref (ad (4, 0)), .ref (ad (5, 0)), .int (cwL_ W).1, .ref (ad (6, 0)), .int x]))) h hk_0
  refine cv_sub (ad := aw_ ad W) hc (fun k c hk => ?_)
  by_cases k0 : k = (0, 0)
  · rw [k0, ku_s]
    rw [k0] at hk
    exact hk
  · rw [ku_n k0]
    by_cases k6 : k = (6, 0)
    · rw [k6] at hk ⊢
      exact hk
    · by_cases k1 : k.1 = 16
      · obtain ⟨m, i⟩ := k
        have k1 : m = 16 := k1
        subst k1
        rw [hm_16 rfl] at hk
        exact hk
      · rw [hm_n k k0 k6 k1] at hk
        exact hk
/-! found entities -/
/-- the found ones are fl, in this order, and marked; else the picture is W0 -/
def FS (gl : gl_T) (fx : fx_T) (ad : Nat × Nat → Nat) (Z : zz_S) (W0 W : cw_W) (st : st_S) (fl : List Nat) : Prop :=
  CW gl fx ad W st ∧ (∃ cc F, W = cj_m W0 cc F) ∧ (cwF_ W).1 = nI fl.length ∧ (∀ i e, fl[i]? = some e → (cwF_ W).2 i = some (ad (16, e))) ∧ fl.Nodup ∧ (∀ e ∈ fl, zk_made Z e = true) ∧ ∀ e, zk_made Z e = true → cwc_ W e = if e ∈ fl then 1 else 0
/-- what was found stays, what is looked for is found, and nothing else -/
def fr_ (fl fl' : List Nat) (C : Nat → Prop) : Prop := (∃ m, fl' = fl ++ m) ∧ (∀ u, C u → u ≠ 0 → u ∈ fl') ∧ ∀ e ∈ fl', e ∈ fl ∨ C e
theorem fr_i {C : Nat → Prop} (h : ∀ u, C u → u ≠ 0 → u ∈ fl) : fr_ fl fl C := ⟨⟨[], (List.append_nil _).symm⟩, h, fun e he => Or.inl he⟩
theorem frt_ {C1 C2 C : Nat → Prop} (h1 : fr_ fl fl1 C1) (h2 : fr_ fl1 fl2 C2) (hC : ∀ u, C u ↔ C1 u ∨ C2 u) : fr_ fl fl2 C := by
  obtain ⟨⟨m1, rfl⟩, a2, a3⟩ := h1
  obtain ⟨⟨m2, rfl⟩, b2, b3⟩ := h2
  refine ⟨⟨m1 ++ m2, by rw [List.append_assoc]⟩, fun u hu h0 => ?_, fun e he => ?_⟩
  · rcases (hC u).mp hu with z | z
    · exact List.mem_append_left _ (a2 u z h0)
    · exact b2 u z h0
  · rcases b3 e he with z | z
    · rcases a3 e z with y | y
      · exact Or.inl y
      · exact Or.inr ((hC e).mpr (Or.inl y))
    · exact Or.inr ((hC e).mpr (Or.inr z))
theorem nd_lo {lo : Nat} : ∀ (n : Nat) (fl : List Nat), fl.Nodup → (∀ e ∈ fl, lo < e ∧ e ≤ lo + n) → fl.length ≤ n
  | 0, fl, _, h => by
    cases fl with
    | nil => exact Nat.le_refl _
    | cons e fl =>
      have := h e List.mem_cons_self
      omega
  | n + 1, fl, hn, h => by
    have h2 : ∀ e ∈ fl.erase (lo + (n + 1)), lo < e ∧ e ≤ lo + n := by
      intro e he
      obtain ⟨b1, b2⟩ := (List.Nodup.mem_erase_iff hn).mp he
      have := h e b2
      omega
    have ih := nd_lo n _ (hn.erase _) h2
    rw [List.length_erase] at ih
    split at ih <;> omega
theorem nd_160 (hz : zw_n Z) (hn : fl.Nodup) (h : ∀ e ∈ fl, zk_made Z e = true) : fl.length ≤ 160 := by
  have h60 := hz.2.2.2.1
  have h100 := hz.2.2.2.2.1
  have a1 := nd_lo (lo := 0) 60 (fl.filter (fun e => decide (e ≤ 100))) (hn.sublist List.filter_sublist) (fun e he => by
    have h2 := List.mem_filter.mp he
    have h3 := zk_K3 (Z := Z) (Or.inr (h e h2.1))
    have h4 := made_n0 (h e h2.1)
    have h5 : e ≤ 100 := of_decide_eq_true h2.2
    omega)
  have a2 := nd_lo (lo := 100) 100 (fl.filter (fun e => !decide (e ≤ 100))) (hn.sublist List.filter_sublist) (fun e he => by
    have h2 := List.mem_filter.mp he
    have h3 := zk_K3 (Z := Z) (Or.inr (h e h2.1))
    have h5 : ¬ e ≤ 100 := by simpa using h2.2
    omega)
  have a3 : fl.length = (fl.filter (fun e => decide (e ≤ 100))).length + (fl.filter (fun e => !decide (e ≤ 100))).length := by
    have := List.length_eq_countP_add_countP (fun e => decide (e ≤ 100)) (l := fl)
    rw [List.countP_eq_length_filter, List.countP_eq_length_filter] at this
    rw [this]
    congr 2
    refine List.filter_congr (fun x hx => ?_)
    by_cases c : x ≤ 100
    · simp [c]
    · simp [c]
  omega
theorem xP_reach_ok (hz : zw_n Z) (hR : RW Z W0 50) (h : FS gl fx ad Z W0 W st fl) (hu : zk_K Z u) : ∃ st' W' fl', xP_reach gl (some (ad (0, 0))) (rf_ ad u) st = some ((), st', 0, 0) ∧ FS gl fx ad Z W0 W' st' fl' ∧ fr_ fl fl' (fun e => e = u) := by
  obtain ⟨hW, ⟨cc, F, rfl⟩, h1, h2, h3, h4, h5⟩ := h
  unfold xP_reach
  by_cases u0 : u = 0
  · subst u0
    exact ⟨st, _, fl, ru_t rfl rfl, ⟨hW, ⟨cc, F, rfl⟩, h1, h2, h3, h4, h5⟩, fr_i (fun e he h0 => absurd he h0)⟩
  · have hum : zk_made Z u = true := hu.resolve_left u0
    have hRm : RW Z (cj_m W0 cc F) 50 := RW_m hR
    have hd : cwd_ (cj_m W0 cc F) u = true := by rw [hRm.2.1]; exact hum
    rw [rf_s u0]
    have hcu := h5 u hum
    by_cases hin : u ∈ fl
    · refine ⟨st, _, fl, ?_, ⟨hW, ⟨cc, F, rfl⟩, h1, h2, h3, h4, h5⟩, fr_i (fun e he _ => by rw [he]; exact hin)⟩
      refine ru_f (fun z => by cases z) ?_
      refine ru_g (1 : Int32) ((re_c hW hd).trans (by rw [hcu, if_pos hin])) ?_
      exact ru_f (by decide) rfl
    · have hnd : (fl ++ [u]).Nodup := by
        rw [List.nodup_append]
        exact ⟨h3, by simp, fun a ha b hb => by
          rw [List.mem_singleton] at hb
          rw [hb]
          exact fun z => hin (by rw [← z]; exact ha)⟩
      have hmd : ∀ e ∈ fl ++ [u], zk_made Z e = true := fun e he => by
        rcases List.mem_append.mp he with z | z
        · exact h4 e z
        · rw [List.mem_singleton] at z
          rw [z]
          exact hum
      have h160 := nd_160 hz hnd hmd
      rw [List.length_append, List.length_singleton] at h160
      obtain ⟨st1, a1, a2⟩ := cu_m (x := 1) hW hd
      obtain ⟨st2, b1, b2⟩ := cu_F (u := u) (i := fl.length) a2 (by omega) (Or.inr hd)
      obtain ⟨st3, c1, c2⟩ := cu_F0 (x := nI (fl.length + 1)) b2
      rw [rf_s u0] at b1 c2
      refine ⟨st3, _, fl ++ [u], ?_, ⟨c2, ⟨_, _, rfl⟩, ?_, ?_, hnd, hmd, ?_⟩, ⟨⟨[u], rfl⟩, fun e he _ => by rw [he]; exact List.mem_append_right _ (List.mem_singleton.mpr rfl), fun e he => ?_⟩⟩
      · refine ru_f (fun z => by cases z) ?_
        refine ru_g (0 : Int32) ((re_c hW hd).trans (by rw [hcu, if_neg hin])) ?_
        refine ru_t rfl ?_
        refine ru_g _ ((r0_9 hW).trans (by rw [h1])) ?_
        refine ru_g _ (r0_8 hW) ?_
        refine ru_g _ (og_n (at_6 hW) (by simp)) ?_
        refine ru_f (nI_ge (by omega) (by decide)) ?_
        refine ru_w _ a1 ?_
        refine ru_g _ (r0_8 a2) ?_
        refine ru_g (nI fl.length) ((r0_9 a2).trans (congrArg some h1)) ?_
        refine ru_w _ b1 ?_
        refine ru_g (nI fl.length) ((r0_9 b2).trans (congrArg some h1)) ?_
        rw [nI_1]
        exact ru_w _ c1 rfl
      · show nI (fl.length + 1) = nI (fl ++ [u]).length
        rw [List.length_append]
        rfl
      · intro i e hi
        show va_up F.2 fl.length (some (ad (16, u))) i = _
        by_cases hil : i < fl.length
        · rw [va_up_ne _ _ (by omega)]
          rw [List.getElem?_append_left hil] at hi
          exact h2 i e hi
        · have : i = fl.length := by
            have := (List.getElem?_eq_some_iff.mp hi).1
            rw [List.length_append, List.length_singleton] at this
            omega
          subst this
          rw [va_up_self]
          rw [List.getElem?_append_right (Nat.le_refl _), Nat.sub_self] at hi
          cases hi
          rfl
      · intro e he
        show va_up cc u 1 e = _
        by_cases z : e = u
        · rw [z, va_up_self, if_pos (List.mem_append_right _ (List.mem_singleton.mpr rfl))]
        · rw [va_up_ne _ _ z]
          have := h5 e he
          have h6 : cc e = if e ∈ fl then 1 else 0 := this
          rw [h6]
          by_cases y : e ∈ fl
          · rw [if_pos y, if_pos (List.mem_append_left _ y)]
          · rw [if_neg y, if_neg (fun w => by rcases List.mem_append.mp w with w | w; exact y w; exact z (List.mem_singleton.mp w))]
      · rcases List.mem_append.mp he with z | z
        · exact Or.inl z
        · exact Or.inr (List.mem_singleton.mp z)
end CFR
