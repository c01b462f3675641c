/-! No rings of settled promises of one home. -/
def z_it (Z : zz_S) : Nat → Nat → Nat
  | 0, p => p
  | j + 1, p => z_it Z j (et_ (ze_ Z p))
def zn_r (Z : zz_S) : Prop := ∀ w p n, 1 ≤ n → (∀ j, j < n → zk_pass Z w (z_it Z j p) = true) → z_it Z n p ≠ p
section ZRG
variable {Z X : zz_S} {w p u : Nat}
theorem zit_s : ∀ (j p : Nat), z_it Z (j + 1) p = et_ (ze_ Z (z_it Z j p))
  | 0, _ => rfl
  | j + 1, p => zit_s j (et_ (ze_ Z p))
theorem zit_a : ∀ (i j p : Nat), z_it Z (i + j) p = z_it Z j (z_it Z i p)
  | 0, j, p => by rw [Nat.zero_add]; rfl
  | i + 1, j, p => by rw [Nat.add_right_comm]; exact zit_a i j (et_ (ze_ Z p))
theorem zit_le (hz : zw_e Z) : ∀ (j p : Nat), p ≤ 200 → z_it Z j p ≤ 200
  | 0, _, h => h
  | j + 1, p, h => zit_le hz j _ (hz p h).2
theorem zn_end (h : zn_r Z) (hz : zw_e Z) (w : Nat) {u : Nat} (hu : u ≤ 200) : ∃ k, k ≤ 100 ∧ (∀ j, j < k → zk_pass Z w (z_it Z j u) = true) ∧ zk_pass Z w (z_it Z k u) = false := by
  refine Classical.byContradiction (fun hc => ?_)
  have all : ∀ n, n ≤ 101 → ∀ j, j < n → zk_pass Z w (z_it Z j u) = true := by
    intro n
    induction n with
    | zero => exact fun _ j hj => by omega
    | succ n ih =>
      intro hn j hj
      have ih2 := ih (by omega)
      by_cases hjn : j < n
      · exact ih2 j hjn
      · have : j = n := by omega
        subst this
        cases hp : zk_pass Z w (z_it Z j u) with
        | true => rfl
        | false => exact absurd ⟨j, by omega, ih2, hp⟩ hc
  have hall := all 101 (Nat.le_refl _)
  have key : ((List.range 101).map (fun j => z_it Z j u)).Nodup := by
    rw [List.nodup_iff_pairwise_ne, List.pairwise_map]
    refine List.Pairwise.imp_of_mem (R := fun a b => a < b) ?_ List.pairwise_lt_range
    intro i j hi hj hij he
    have hj := List.mem_range.mp hj
    have he : z_it Z i u = z_it Z j u := he
    refine h w (z_it Z i u) (j - i) (by omega) (fun t ht => ?_) ?_
    · rw [← zit_a]
      exact hall (i + t) (by omega)
    · rw [← zit_a, show i + (j - i) = j by omega]
      exact he.symm
  have := nd_len 100 _ key (fun q hq => by
    obtain ⟨j, hj, rfl⟩ := List.mem_map.mp hq
    have hp := hall j (List.mem_range.mp hj)
    unfold zk_pass at hp
    simp only [Bool.and_eq_true, decide_eq_true_eq] at hp
    exact ⟨hp.1.1, zit_le hz j u hu⟩)
  rw [List.length_map, List.length_range] at this
  omega
theorem zfollow_it : ∀ (k n u : Nat), k ≤ n → (∀ j, j < k → zk_pass Z w (z_it Z j u) = true) → zk_pass Z w (z_it Z k u) = false → z_follow Z w n u = z_it Z k u
  | 0, 0, _, _, _, _ => rfl
  | 0, n + 1, u, _, _, h2 => by
    unfold z_follow
    rw [if_neg (by rw [show z_it Z 0 u = u from rfl] at h2; rw [h2]; decide)]
    rfl
  | k + 1, n + 1, u, hn, h1, h2 => by
    unfold z_follow
    rw [if_pos (show zk_pass Z w u = true from h1 0 (by omega))]
    exact zfollow_it k n (et_ (ze_ Z u)) (by omega) (fun j hj => h1 (j + 1) (by omega)) h2
theorem zmeet_it : ∀ (k n u : Nat), k ≤ n → (∀ j, j < k → zk_pass Z w (z_it Z j u) = true) → zk_pass Z w (z_it Z k u) = false → (z_meet Z w p n u = true ↔ ∃ j, j ≤ k ∧ z_it Z j u = p)
  | 0, 0, u, _, _, _ => by
    unfold z_meet
    rw [decide_eq_true_eq]
    exact ⟨fun h => ⟨0, Nat.le_refl _, h⟩, fun ⟨j, hj, he⟩ => by
      have : j = 0 := by omega
      subst this
      exact he⟩
  | 0, n + 1, u, _, _, h2 => by
    have h2 : zk_pass Z w u = false := h2
    unfold z_meet
    by_cases hc : u = p
    · rw [if_pos hc]
      exact ⟨fun _ => ⟨0, Nat.le_refl _, hc⟩, fun _ => rfl⟩
    · rw [if_neg hc, if_neg (by rw [h2]; decide)]
      refine ⟨fun h => (by cases h), fun ⟨j, hj, he⟩ => ?_⟩
      have : j = 0 := by omega
      subst this
      exact absurd he hc
  | k + 1, n + 1, u, hn, h1, h2 => by
    unfold z_meet
    by_cases hc : u = p
    · rw [if_pos hc]
      exact ⟨fun _ => ⟨0, Nat.zero_le _, hc⟩, fun _ => rfl⟩
    · rw [if_neg hc, if_pos (show zk_pass Z w u = true from h1 0 (by omega))]
      refine (zmeet_it k n (et_ (ze_ Z u)) (by omega) (fun j hj => h1 (j + 1) (by omega)) h2).trans ?_
      constructor
      · rintro ⟨j, hj, he⟩
        exact ⟨j + 1, by omega, he⟩
      · rintro ⟨j, hj, he⟩
        cases j with
        | zero => exact absurd he hc
        | succ j => exact ⟨j, by omega, he⟩
theorem zn_zs (h : zs_ Z X) (hn : zn_r Z) : zn_r X := by
  have e1 : ∀ j p, z_it X j p = z_it Z j p := by
    intro j
    induction j with
    | zero => exact fun _ => rfl
    | succ j ih =>
      intro p
      show z_it X j (et_ (ze_ X p)) = z_it Z j (et_ (ze_ Z p))
      rw [ih, (h p).2.2.2]
  intro w p n h1 h2
  rw [e1]
  refine hn w p n h1 (fun j hj => ?_)
  have := h2 j hj
  rw [e1, zs_pass h] at this
  exact this
/-- a promise that was open is settled, and not to what leads back to it -/
theorem zn_settle (h : zn_r Z) (hz : zw_e Z) (hu : u ≤ 200) (hh : zh_ Z p = w) (ho : es_ (ze_ Z p) = false) (hm : z_meet Z w p 101 u = false) : zn_r (zj_e Z p (ej_s (ze_ Z p) u)) := by
  obtain ⟨k, k1, k2, k3⟩ := zn_end h hz w hu
  have hno : ∀ j, j ≤ k → z_it Z j u ≠ p := fun j hj c => by
    have := (zmeet_it (p := p) k 101 u (by omega) k2 k3).mpr ⟨j, hj, c⟩
    rw [hm] at this
    cases this
  have ep : et_ (ze_ (zj_e Z p (ej_s (ze_ Z p) u)) p) = u := by rw [ze_s]; rfl
  have en : ∀ q, q ≠ p → et_ (ze_ (zj_e Z p (ej_s (ze_ Z p) u)) q) = et_ (ze_ Z q) := fun q hq => by rw [ze_n hq]
  have pn : ∀ y q, q ≠ p → zk_pass (zj_e Z p (ej_s (ze_ Z p) u)) y q = zk_pass Z y q := fun y q hq => by
    unfold zk_pass zh_
    rw [ze_n hq]
  have pw : ∀ y, zk_pass (zj_e Z p (ej_s (ze_ Z p) u)) y p = true → y = w := fun y hy => by
    unfold zk_pass zh_ at hy
    rw [ze_s] at hy
    simp only [Bool.and_eq_true, decide_eq_true_eq] at hy
    rw [← hh]
    exact hy.1.2.symm
  generalize zj_e Z p (ej_s (ze_ Z p) u) = Y at ep en pn pw ⊢
  -- along a way that does not meet p, nothing has changed
  have way : ∀ n q, (∀ j, j < n → z_it Y j q ≠ p) → ∀ j, j ≤ n → z_it Y j q = z_it Z j q := by
    intro n q hq j
    induction j with
    | zero => exact fun _ => rfl
    | succ j ih =>
      intro hj
      rw [zit_s, zit_s, ih (by omega), en]
      rw [← ih (by omega)]
      exact hq j (by omega)
  -- no way from p back to p
  have nop : ∀ n, 1 ≤ n → (∀ j, j < n → zk_pass Y w (z_it Y j p) = true) → z_it Y n p ≠ p := by
    intro n
    induction n using Nat.strongRecOn with
    | _ n ih =>
    intro h1 h2 hc
    by_cases hex : ∃ j, 1 ≤ j ∧ j < n ∧ z_it Y j p = p
    · obtain ⟨j, j1, j2, j3⟩ := hex
      exact ih j j2 j1 (fun i hi => h2 i (by omega)) j3
    · obtain ⟨m, rfl⟩ : ∃ m, n = m + 1 := ⟨n - 1, by omega⟩
      have hs : ∀ j, z_it Y (j + 1) p = z_it Y j u := fun j => by
        show z_it _ j (et_ (ze_ Y p)) = _
        rw [ep]
      have hne : ∀ j, j < m → z_it Y j u ≠ p := fun j hj c => hex ⟨j + 1, by omega, by omega, by rw [hs]; exact c⟩
      have hway := way m u hne
      have hpass : ∀ j, j < m → zk_pass Z w (z_it Z j u) = true := fun j hj => by
        have := h2 (j + 1) (by omega)
        rw [hs, pn w _ (hne j hj), hway j (by omega)] at this
        exact this
      have hmk : m ≤ k := by
        refine Classical.byContradiction (fun c => ?_)
        have := hpass k (by omega)
        rw [k3] at this
        cases this
      rw [hs, hway m (Nat.le_refl _)] at hc
      exact hno m hmk hc
  intro y q n h1 h2 hc
  by_cases hex : ∃ j, j < n ∧ z_it Y j q = p
  · obtain ⟨j, hj, he⟩ := hex
    have hyw : y = w := pw y (by rw [← he]; exact h2 j hj)
    subst hyw
    -- turn the ring so that it begins at p
    have hper : ∀ t, z_it Y (n + t) q = z_it Y t q := fun t => by rw [zit_a, hc]
    refine nop n h1 (fun t ht => ?_) ?_
    · rw [← he, ← zit_a]
      by_cases htn : j + t < n
      · exact h2 _ htn
      · rw [show j + t = n + (j + t - n) by omega, hper]
        exact h2 _ (by omega)
    · conv => lhs; rw [← he]
      rw [← zit_a, Nat.add_comm j n, hper]
      exact he
  · have hne : ∀ j, j < n → z_it Y j q ≠ p := fun j hj c => hex ⟨j, hj, c⟩
    have hway := way n q hne
    rw [hway n (Nat.le_refl _)] at hc
    refine h y q n h1 (fun j hj => ?_) hc
    have := h2 j hj
    rw [pn y _ (hne j hj), hway j (by omega)] at this
    exact this
theorem zmeet_0 (hp : p ≠ 0) : ∀ n, z_meet Z w p n 0 = false
  | 0 => by unfold z_meet; simp; omega
  | n + 1 => by
    unfold z_meet
    rw [if_neg (by omega), if_neg]
    unfold zk_pass
    simp
end ZRG
