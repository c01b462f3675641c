/-! The class's constructor: pictures on the way. -/
/-- an empty list's object -/
def lo_ (gl : gl_T) : ce_E := .inr (.inr (6, [.ref gl.1, .int 0, .int 0]))
/-- where the cells lie -/
def ia_ (n0 n : Nat) (k : Nat × Nat) : Nat := match k.1 with
  | 0 => n0
  | 1 => n0 + 1
  | 2 => n0 + 2
  | 3 => n0 + 3
  | 4 => n0 + 4
  | 5 => n0 + 5
  | 6 => n0 + 6
  | 7 => n0 + 36 + k.2 * (9 + 2 * n)
  | 8 => n0 + 37 + k.2 * (9 + 2 * n)
  | 9 => n0 + 39 + k.2 * (9 + 2 * n)
  | 10 => n0 + 38 + k.2 * (9 + 2 * n)
  | 11 => n0 + 40 + k.2 / 4 * (9 + 2 * n) + 2 * (k.2 % 4)
  | 12 => n0 + 41 + k.2 / 4 * (9 + 2 * n) + 2 * (k.2 % 4)
  | 13 => n0 + 7 + 3 * k.2
  | 14 => n0 + 8 + 3 * k.2
  | 15 => n0 + 9 + 3 * k.2
  | 16 => n0 + 31 + (k.2 - 1) * (9 + 2 * n)
  | 17 => n0 + 32 + (k.2 - 1) * (9 + 2 * n)
  | 18 => n0 + 33 + (k.2 - 1) * (9 + 2 * n)
  | 19 => n0 + 34 + (k.2 - 1) * (9 + 2 * n)
  | 20 => n0 + 35 + (k.2 - 1) * (9 + 2 * n)
  | 21 => 0
  | 22 => k.2
  | 23 => k.2
  | _ => 0
/-- what lies there: G programs, V vats, Y begun, U objects, B channels of the vat that is begun -/
def ib_ (gl : gl_T) (ad : Nat × Nat → Nat) (n G V Y U B : Nat) (k : Nat × Nat) : Option ce_E := match k.1 with
  | 0 => if k.2 = 0 then some (.inr (.inr (0, [.ref (ad (1, 0)), .ref (ad (2, 0)), .ref (ad (3, 0)), .int 0, .int 0, .ref (ad (4, 0)), .ref (ad (5, 0)), .int 0, .ref (ad (6, 0)), .int 0]))) else none
  | 1 => if k.2 = 0 then some (.inr (.inl (4, n, fun v => if v < V then some (ad (7, v)) else none))) else none
  | 2 => if k.2 = 0 then some (.inr (.inl (5, 8, fun g => if g < G then some (ad (13, g)) else none))) else none
  | 3 => if k.2 = 0 then some (.inr (.inl (6, 201, fun e => if 1 ≤ e ∧ e ≤ U then some (ad (16, e)) else none))) else none
  | 4 => if k.2 = 0 then some (.inr (.inr (1, [.null, .int 0, .null, .int 0]))) else none
  | 5 => if k.2 = 0 then some (.inr (.inl (7, 100, fun _ => none))) else none
  | 6 => if k.2 = 0 then some (.inr (.inl (6, 160, fun _ => none))) else none
  | 7 => if k.2 < Y then some (.inr (.inr (5, [.ref (ad (16, k.2 + 1)), .ref (ad (8, k.2)), .ref (ad (9, k.2)), .ref (ad (10, k.2)), .int 0]))) else none
  | 8 => if k.2 < Y then some (lo_ gl) else none
  | 9 => if k.2 < Y then some (.inr (.inl (8, n, fun b => if (k.2 < V ∧ b < n) ∨ (k.2 = V ∧ b < B) then some (ad (11, 4 * k.2 + b)) else none))) else none
  | 10 => if k.2 < Y then some (.inl (0, 10, fun _ => 0)) else none
  | 11 => if (k.2 / 4 < V ∧ k.2 % 4 < n) ∨ (k.2 / 4 = V ∧ k.2 % 4 < B) then some (.inr (.inr (7, [.ref (ad (12, k.2))]))) else none
  | 12 => if (k.2 / 4 < V ∧ k.2 % 4 < n) ∨ (k.2 / 4 = V ∧ k.2 % 4 < B) then some (lo_ gl) else none
  | 13 => if k.2 < G then some (.inr (.inr (2, [.ref (ad (14, k.2)), .ref (ad (15, k.2)), .int 0]))) else none
  | 14 => if k.2 < G then some (.inl (0, 8, fun _ => 0)) else none
  | 15 => if k.2 < G then some (.inl (0, 8, fun _ => 0)) else none
  | 16 => if 1 ≤ k.2 ∧ k.2 ≤ U then some (.inr (.inr (3, [.int (nI (k.2 - 1)), .int 0, .ref (ad (20, k.2)), .int (nI k.2), .int (nI (k.2 - 1)), .int 0, .int 0, .ref (ad (17, k.2)), .ref (ad (18, k.2)), .ref (ad (19, k.2))]))) else none
  | 17 => if 1 ≤ k.2 ∧ k.2 ≤ U then some (.inl (0, 4, fun _ => 0)) else none
  | 18 => if 1 ≤ k.2 ∧ k.2 ≤ U then some (.inl (0, 4, fun _ => 0)) else none
  | 19 => if 1 ≤ k.2 ∧ k.2 ≤ U then some (.inl (0, 16, fun _ => 0)) else none
  | 20 => if 1 ≤ k.2 ∧ k.2 ≤ U then some (.inr (.inl (6, 4, fun _ => none))) else none
  | _ => none
section CIB
variable {gl : gl_T} {fx : fx_T} {ad : Nat × Nat → Nat} {n G V Y U B v b g : Nat} {st : st_S}
theorem hif {α : Type} {c c' : Prop} [Decidable c] [Decidable c'] {a x : α} (h : (if c then some a else none) = some x) (hc : c → c') : (if c' then some a else none) = some x := by
  by_cases z : c
  · rw [if_pos z] at h
    rw [if_pos (hc z)]
    exact h
  · rw [if_neg z] at h
    cases h
theorem hic {α : Type} {c : Prop} [Decidable c] {a x : α} (h : (if c then some a else none) = some x) : c := by
  by_cases z : c
  · exact z
  · rw [if_neg z] at h
    cases h
theorem hiv {α : Type} {c : Prop} [Decidable c] {a x : α} (h : (if c then some a else none) = some x) : some a = some x := by
  rw [if_pos (hic h)] at h
  exact h
theorem ve_lt {f : Nat → Nat} : va_up (fun v => if v < G then some (f v) else none) G (some (f G)) = fun v => if v < G + 1 then some (f v) else none := by
  funext v
  by_cases z : v = G
  · rw [z, va_up_self, if_pos (Nat.lt_succ_self _)]
  · rw [va_up_ne _ _ z]
    by_cases y : v < G
    · rw [if_pos y, if_pos (by omega)]
    · rw [if_neg y, if_neg (by omega)]
theorem ve_le {f : Nat → Nat} : va_up (fun e => if 1 ≤ e ∧ e ≤ G then some (f e) else none) (G + 1) (some (f (G + 1))) = fun e => if 1 ≤ e ∧ e ≤ G + 1 then some (f e) else none := by
  funext v
  by_cases z : v = G + 1
  · rw [z, va_up_self, if_pos (by omega)]
  · rw [va_up_ne _ _ z]
    by_cases y : 1 ≤ v ∧ v ≤ G
    · rw [if_pos y, if_pos (by omega)]
    · rw [if_neg y, if_neg (by omega)]
theorem ib_1 : ∀ (q : Nat × Nat) (x : ce_E), ib_ gl ad n (G + 1) 0 0 0 0 q = some x → (ku_ (ku_ (ku_ (ku_ (ib_ gl ad n G 0 0 0 0) (13, G) (.inr (.inr (2, [.ref (ad (14, G)), .ref (ad (15, G)), .int 0])))) (14, G) (.inl (0, 8, fun _ => 0))) (15, G) (.inl (0, 8, fun _ => 0))) (2, 0) (.inr (.inl (5, 8, fun g => if g < G + 1 then some (ad (13, g)) else none)))) q = some x
  | (0, i), x, h => by
    rw [ku_n (k := (2, 0)) (q := (0, i)) (fun z => by cases z), ku_n (k := (15, G)) (q := (0, i)) (fun z => by cases z), ku_n (k := (14, G)) (q := (0, i)) (fun z => by cases z), ku_n (k := (13, G)) (q := (0, i)) (fun z => by cases z)]
    exact h
  | (1, i), x, h => by
    rw [ku_n (k := (2, 0)) (q := (1, i)) (fun z => by cases z), ku_n (k := (15, G)) (q := (1, i)) (fun z => by cases z), ku_n (k := (14, G)) (q := (1, i)) (fun z => by cases z), ku_n (k := (13, G)) (q := (1, i)) (fun z => by cases z)]
    exact h
  | (2, i), x, h => by
    by_cases hne : i = 0
    · rw [hne] at h ⊢
      rw [ku_s]
      exact h
    · rw [ku_n (k := (2, 0)) (q := (2, i)) (fun z => hne (congrArg Prod.snd z)), ku_n (k := (15, G)) (q := (2, i)) (fun z => by cases z), ku_n (k := (14, G)) (q := (2, i)) (fun z => by cases z), ku_n (k := (13, G)) (q := (2, i)) (fun z => by cases z)]
      exact absurd (hic h) hne
  | (3, i), x, h => by
    rw [ku_n (k := (2, 0)) (q := (3, i)) (fun z => by cases z), ku_n (k := (15, G)) (q := (3, i)) (fun z => by cases z), ku_n (k := (14, G)) (q := (3, i)) (fun z => by cases z), ku_n (k := (13, G)) (q := (3, i)) (fun z => by cases z)]
    exact h
  | (4, i), x, h => by
    rw [ku_n (k := (2, 0)) (q := (4, i)) (fun z => by cases z), ku_n (k := (15, G)) (q := (4, i)) (fun z => by cases z), ku_n (k := (14, G)) (q := (4, i)) (fun z => by cases z), ku_n (k := (13, G)) (q := (4, i)) (fun z => by cases z)]
    exact h
  | (5, i), x, h => by
    rw [ku_n (k := (2, 0)) (q := (5, i)) (fun z => by cases z), ku_n (k := (15, G)) (q := (5, i)) (fun z => by cases z), ku_n (k := (14, G)) (q := (5, i)) (fun z => by cases z), ku_n (k := (13, G)) (q := (5, i)) (fun z => by cases z)]
    exact h
  | (6, i), x, h => by
    rw [ku_n (k := (2, 0)) (q := (6, i)) (fun z => by cases z), ku_n (k := (15, G)) (q := (6, i)) (fun z => by cases z), ku_n (k := (14, G)) (q := (6, i)) (fun z => by cases z), ku_n (k := (13, G)) (q := (6, i)) (fun z => by cases z)]
    exact h
  | (7, i), x, h => by
    rw [ku_n (k := (2, 0)) (q := (7, i)) (fun z => by cases z), ku_n (k := (15, G)) (q := (7, i)) (fun z => by cases z), ku_n (k := (14, G)) (q := (7, i)) (fun z => by cases z), ku_n (k := (13, G)) (q := (7, i)) (fun z => by cases z)]
    exact h
  | (8, i), x, h => by
    rw [ku_n (k := (2, 0)) (q := (8, i)) (fun z => by cases z), ku_n (k := (15, G)) (q := (8, i)) (fun z => by cases z), ku_n (k := (14, G)) (q := (8, i)) (fun z => by cases z), ku_n (k := (13, G)) (q := (8, i)) (fun z => by cases z)]
    exact h
  | (9, i), x, h => by
    rw [ku_n (k := (2, 0)) (q := (9, i)) (fun z => by cases z), ku_n (k := (15, G)) (q := (9, i)) (fun z => by cases z), ku_n (k := (14, G)) (q := (9, i)) (fun z => by cases z), ku_n (k := (13, G)) (q := (9, i)) (fun z => by cases z)]
    exact h
  | (10, i), x, h => by
    rw [ku_n (k := (2, 0)) (q := (10, i)) (fun z => by cases z), ku_n (k := (15, G)) (q := (10, i)) (fun z => by cases z), ku_n (k := (14, G)) (q := (10, i)) (fun z => by cases z), ku_n (k := (13, G)) (q := (10, i)) (fun z => by cases z)]
    exact h
  | (11, i), x, h => by
    rw [ku_n (k := (2, 0)) (q := (11, i)) (fun z => by cases z), ku_n (k := (15, G)) (q := (11, i)) (fun z => by cases z), ku_n (k := (14, G)) (q := (11, i)) (fun z => by cases z), ku_n (k := (13, G)) (q := (11, i)) (fun z => by cases z)]
    exact h
  | (12, i), x, h => by
    rw [ku_n (k := (2, 0)) (q := (12, i)) (fun z => by cases z), ku_n (k := (15, G)) (q := (12, i)) (fun z => by cases z), ku_n (k := (14, G)) (q := (12, i)) (fun z => by cases z), ku_n (k := (13, G)) (q := (12, i)) (fun z => by cases z)]
    exact h
  | (13, i), x, h => by
    by_cases hne : i = G
    · rw [hne] at h ⊢
      rw [ku_n (k := (2, 0)) (q := (13, G)) (fun z => by cases z), ku_n (k := (15, G)) (q := (13, G)) (fun z => by cases z), ku_n (k := (14, G)) (q := (13, G)) (fun z => by cases z), ku_s]
      exact hiv h
    · rw [ku_n (k := (2, 0)) (q := (13, i)) (fun z => by cases z), ku_n (k := (15, G)) (q := (13, i)) (fun z => by cases z), ku_n (k := (14, G)) (q := (13, i)) (fun z => by cases z), ku_n (k := (13, G)) (q := (13, i)) (fun z => hne (congrArg Prod.snd z))]
      exact hif h (fun c => by show i < G; omega)
  | (14, i), x, h => by
    by_cases hne : i = G
    · rw [hne] at h ⊢
      rw [ku_n (k := (2, 0)) (q := (14, G)) (fun z => by cases z), ku_n (k := (15, G)) (q := (14, G)) (fun z => by cases z), ku_s]
      exact hiv h
    · rw [ku_n (k := (2, 0)) (q := (14, i)) (fun z => by cases z), ku_n (k := (15, G)) (q := (14, i)) (fun z => by cases z), ku_n (k := (14, G)) (q := (14, i)) (fun z => hne (congrArg Prod.snd z)), ku_n (k := (13, G)) (q := (14, i)) (fun z => by cases z)]
      exact hif h (fun c => by show i < G; omega)
  | (15, i), x, h => by
    by_cases hne : i = G
    · rw [hne] at h ⊢
      rw [ku_n (k := (2, 0)) (q := (15, G)) (fun z => by cases z), ku_s]
      exact hiv h
    · rw [ku_n (k := (2, 0)) (q := (15, i)) (fun z => by cases z), ku_n (k := (15, G)) (q := (15, i)) (fun z => hne (congrArg Prod.snd z)), ku_n (k := (14, G)) (q := (15, i)) (fun z => by cases z), ku_n (k := (13, G)) (q := (15, i)) (fun z => by cases z)]
      exact hif h (fun c => by show i < G; omega)
  | (16, i), x, h => by
    rw [ku_n (k := (2, 0)) (q := (16, i)) (fun z => by cases z), ku_n (k := (15, G)) (q := (16, i)) (fun z => by cases z), ku_n (k := (14, G)) (q := (16, i)) (fun z => by cases z), ku_n (k := (13, G)) (q := (16, i)) (fun z => by cases z)]
    exact h
  | (17, i), x, h => by
    rw [ku_n (k := (2, 0)) (q := (17, i)) (fun z => by cases z), ku_n (k := (15, G)) (q := (17, i)) (fun z => by cases z), ku_n (k := (14, G)) (q := (17, i)) (fun z => by cases z), ku_n (k := (13, G)) (q := (17, i)) (fun z => by cases z)]
    exact h
  | (18, i), x, h => by
    rw [ku_n (k := (2, 0)) (q := (18, i)) (fun z => by cases z), ku_n (k := (15, G)) (q := (18, i)) (fun z => by cases z), ku_n (k := (14, G)) (q := (18, i)) (fun z => by cases z), ku_n (k := (13, G)) (q := (18, i)) (fun z => by cases z)]
    exact h
  | (19, i), x, h => by
    rw [ku_n (k := (2, 0)) (q := (19, i)) (fun z => by cases z), ku_n (k := (15, G)) (q := (19, i)) (fun z => by cases z), ku_n (k := (14, G)) (q := (19, i)) (fun z => by cases z), ku_n (k := (13, G)) (q := (19, i)) (fun z => by cases z)]
    exact h
  | (20, i), x, h => by
    rw [ku_n (k := (2, 0)) (q := (20, i)) (fun z => by cases z), ku_n (k := (15, G)) (q := (20, i)) (fun z => by cases z), ku_n (k := (14, G)) (q := (20, i)) (fun z => by cases z), ku_n (k := (13, G)) (q := (20, i)) (fun z => by cases z)]
    exact h
  | (m + 21, i), x, h => by cases h
theorem ib_2 : ∀ (q : Nat × Nat) (x : ce_E), ib_ gl ad n 8 v v (v + 1) 0 q = some x → (ku_ (ku_ (ku_ (ku_ (ku_ (ku_ (ib_ gl ad n 8 v v v 0) (16, (v + 1)) (.inr (.inr (3, [.int (nI v), .int 0, .ref (ad (20, v + 1)), .int (nI (v + 1)), .int (nI v), .int 0, .int 0, .ref (ad (17, v + 1)), .ref (ad (18, v + 1)), .ref (ad (19, v + 1))])))) (17, (v + 1)) (.inl (0, 4, fun _ => 0))) (18, (v + 1)) (.inl (0, 4, fun _ => 0))) (19, (v + 1)) (.inl (0, 16, fun _ => 0))) (20, (v + 1)) (.inr (.inl (6, 4, fun _ => none)))) (3, 0) (.inr (.inl (6, 201, fun e => if 1 ≤ e ∧ e ≤ v + 1 then some (ad (16, e)) else none)))) q = some x
  | (0, i), x, h => by
    rw [ku_n (k := (3, 0)) (q := (0, i)) (fun z => by cases z), ku_n (k := (20, (v + 1))) (q := (0, i)) (fun z => by cases z), ku_n (k := (19, (v + 1))) (q := (0, i)) (fun z => by cases z), ku_n (k := (18, (v + 1))) (q := (0, i)) (fun z => by cases z), ku_n (k := (17, (v + 1))) (q := (0, i)) (fun z => by cases z), ku_n (k := (16, (v + 1))) (q := (0, i)) (fun z => by cases z)]
    exact h
  | (1, i), x, h => by
    rw [ku_n (k := (3, 0)) (q := (1, i)) (fun z => by cases z), ku_n (k := (20, (v + 1))) (q := (1, i)) (fun z => by cases z), ku_n (k := (19, (v + 1))) (q := (1, i)) (fun z => by cases z), ku_n (k := (18, (v + 1))) (q := (1, i)) (fun z => by cases z), ku_n (k := (17, (v + 1))) (q := (1, i)) (fun z => by cases z), ku_n (k := (16, (v + 1))) (q := (1, i)) (fun z => by cases z)]
    exact h
  | (2, i), x, h => by
    rw [ku_n (k := (3, 0)) (q := (2, i)) (fun z => by cases z), ku_n (k := (20, (v + 1))) (q := (2, i)) (fun z => by cases z), ku_n (k := (19, (v + 1))) (q := (2, i)) (fun z => by cases z), ku_n (k := (18, (v + 1))) (q := (2, i)) (fun z => by cases z), ku_n (k := (17, (v + 1))) (q := (2, i)) (fun z => by cases z), ku_n (k := (16, (v + 1))) (q := (2, i)) (fun z => by cases z)]
    exact h
  | (3, i), x, h => by
    by_cases hne : i = 0
    · rw [hne] at h ⊢
      rw [ku_s]
      exact h
    · rw [ku_n (k := (3, 0)) (q := (3, i)) (fun z => hne (congrArg Prod.snd z)), ku_n (k := (20, (v + 1))) (q := (3, i)) (fun z => by cases z), ku_n (k := (19, (v + 1))) (q := (3, i)) (fun z => by cases z), ku_n (k := (18, (v + 1))) (q := (3, i)) (fun z => by cases z), ku_n (k := (17, (v + 1))) (q := (3, i)) (fun z => by cases z), ku_n (k := (16, (v + 1))) (q := (3, i)) (fun z => by cases z)]
      exact absurd (hic h) hne
  | (4, i), x, h => by
    rw [ku_n (k := (3, 0)) (q := (4, i)) (fun z => by cases z), ku_n (k := (20, (v + 1))) (q := (4, i)) (fun z => by cases z), ku_n (k := (19, (v + 1))) (q := (4, i)) (fun z => by cases z), ku_n (k := (18, (v + 1))) (q := (4, i)) (fun z => by cases z), ku_n (k := (17, (v + 1))) (q := (4, i)) (fun z => by cases z), ku_n (k := (16, (v + 1))) (q := (4, i)) (fun z => by cases z)]
    exact h
  | (5, i), x, h => by
    rw [ku_n (k := (3, 0)) (q := (5, i)) (fun z => by cases z), ku_n (k := (20, (v + 1))) (q := (5, i)) (fun z => by cases z), ku_n (k := (19, (v + 1))) (q := (5, i)) (fun z => by cases z), ku_n (k := (18, (v + 1))) (q := (5, i)) (fun z => by cases z), ku_n (k := (17, (v + 1))) (q := (5, i)) (fun z => by cases z), ku_n (k := (16, (v + 1))) (q := (5, i)) (fun z => by cases z)]
    exact h
  | (6, i), x, h => by
    rw [ku_n (k := (3, 0)) (q := (6, i)) (fun z => by cases z), ku_n (k := (20, (v + 1))) (q := (6, i)) (fun z => by cases z), ku_n (k := (19, (v + 1))) (q := (6, i)) (fun z => by cases z), ku_n (k := (18, (v + 1))) (q := (6, i)) (fun z => by cases z), ku_n (k := (17, (v + 1))) (q := (6, i)) (fun z => by cases z), ku_n (k := (16, (v + 1))) (q := (6, i)) (fun z => by cases z)]
    exact h
  | (7, i), x, h => by
    rw [ku_n (k := (3, 0)) (q := (7, i)) (fun z => by cases z), ku_n (k := (20, (v + 1))) (q := (7, i)) (fun z => by cases z), ku_n (k := (19, (v + 1))) (q := (7, i)) (fun z => by cases z), ku_n (k := (18, (v + 1))) (q := (7, i)) (fun z => by cases z), ku_n (k := (17, (v + 1))) (q := (7, i)) (fun z => by cases z), ku_n (k := (16, (v + 1))) (q := (7, i)) (fun z => by cases z)]
    exact h
  | (8, i), x, h => by
    rw [ku_n (k := (3, 0)) (q := (8, i)) (fun z => by cases z), ku_n (k := (20, (v + 1))) (q := (8, i)) (fun z => by cases z), ku_n (k := (19, (v + 1))) (q := (8, i)) (fun z => by cases z), ku_n (k := (18, (v + 1))) (q := (8, i)) (fun z => by cases z), ku_n (k := (17, (v + 1))) (q := (8, i)) (fun z => by cases z), ku_n (k := (16, (v + 1))) (q := (8, i)) (fun z => by cases z)]
    exact h
  | (9, i), x, h => by
    rw [ku_n (k := (3, 0)) (q := (9, i)) (fun z => by cases z), ku_n (k := (20, (v + 1))) (q := (9, i)) (fun z => by cases z), ku_n (k := (19, (v + 1))) (q := (9, i)) (fun z => by cases z), ku_n (k := (18, (v + 1))) (q := (9, i)) (fun z => by cases z), ku_n (k := (17, (v + 1))) (q := (9, i)) (fun z => by cases z), ku_n (k := (16, (v + 1))) (q := (9, i)) (fun z => by cases z)]
    exact h
  | (10, i), x, h => by
    rw [ku_n (k := (3, 0)) (q := (10, i)) (fun z => by cases z), ku_n (k := (20, (v + 1))) (q := (10, i)) (fun z => by cases z), ku_n (k := (19, (v + 1))) (q := (10, i)) (fun z => by cases z), ku_n (k := (18, (v + 1))) (q := (10, i)) (fun z => by cases z), ku_n (k := (17, (v + 1))) (q := (10, i)) (fun z => by cases z), ku_n (k := (16, (v + 1))) (q := (10, i)) (fun z => by cases z)]
    exact h
  | (11, i), x, h => by
    rw [ku_n (k := (3, 0)) (q := (11, i)) (fun z => by cases z), ku_n (k := (20, (v + 1))) (q := (11, i)) (fun z => by cases z), ku_n (k := (19, (v + 1))) (q := (11, i)) (fun z => by cases z), ku_n (k := (18, (v + 1))) (q := (11, i)) (fun z => by cases z), ku_n (k := (17, (v + 1))) (q := (11, i)) (fun z => by cases z), ku_n (k := (16, (v + 1))) (q := (11, i)) (fun z => by cases z)]
    exact h
  | (12, i), x, h => by
    rw [ku_n (k := (3, 0)) (q := (12, i)) (fun z => by cases z), ku_n (k := (20, (v + 1))) (q := (12, i)) (fun z => by cases z), ku_n (k := (19, (v + 1))) (q := (12, i)) (fun z => by cases z), ku_n (k := (18, (v + 1))) (q := (12, i)) (fun z => by cases z), ku_n (k := (17, (v + 1))) (q := (12, i)) (fun z => by cases z), ku_n (k := (16, (v + 1))) (q := (12, i)) (fun z => by cases z)]
    exact h
  | (13, i), x, h => by
    rw [ku_n (k := (3, 0)) (q := (13, i)) (fun z => by cases z), ku_n (k := (20, (v + 1))) (q := (13, i)) (fun z => by cases z), ku_n (k := (19, (v + 1))) (q := (13, i)) (fun z => by cases z), ku_n (k := (18, (v + 1))) (q := (13, i)) (fun z => by cases z), ku_n (k := (17, (v + 1))) (q := (13, i)) (fun z => by cases z), ku_n (k := (16, (v + 1))) (q := (13, i)) (fun z => by cases z)]
    exact h
  | (14, i), x, h => by
    rw [ku_n (k := (3, 0)) (q := (14, i)) (fun z => by cases z), ku_n (k := (20, (v + 1))) (q := (14, i)) (fun z => by cases z), ku_n (k := (19, (v + 1))) (q := (14, i)) (fun z => by cases z), ku_n (k := (18, (v + 1))) (q := (14, i)) (fun z => by cases z), ku_n (k := (17, (v + 1))) (q := (14, i)) (fun z => by cases z), ku_n (k := (16, (v + 1))) (q := (14, i)) (fun z => by cases z)]
    exact h
  | (15, i), x, h => by
    rw [ku_n (k := (3, 0)) (q := (15, i)) (fun z => by cases z), ku_n (k := (20, (v + 1))) (q := (15, i)) (fun z => by cases z), ku_n (k := (19, (v + 1))) (q := (15, i)) (fun z => by cases z), ku_n (k := (18, (v + 1))) (q := (15, i)) (fun z => by cases z), ku_n (k := (17, (v + 1))) (q := (15, i)) (fun z => by cases z), ku_n (k := (16, (v + 1))) (q := (15, i)) (fun z => by cases z)]
    exact h
  | (16, i), x, h => by
    by_cases hne : i = (v + 1)
    · rw [hne] at h ⊢
      rw [ku_n (k := (3, 0)) (q := (16, (v + 1))) (fun z => by cases z), ku_n (k := (20, (v + 1))) (q := (16, (v + 1))) (fun z => by cases z), ku_n (k := (19, (v + 1))) (q := (16, (v + 1))) (fun z => by cases z), ku_n (k := (18, (v + 1))) (q := (16, (v + 1))) (fun z => by cases z), ku_n (k := (17, (v + 1))) (q := (16, (v + 1))) (fun z => by cases z), ku_s]
      exact hiv h
    · rw [ku_n (k := (3, 0)) (q := (16, i)) (fun z => by cases z), ku_n (k := (20, (v + 1))) (q := (16, i)) (fun z => by cases z), ku_n (k := (19, (v + 1))) (q := (16, i)) (fun z => by cases z), ku_n (k := (18, (v + 1))) (q := (16, i)) (fun z => by cases z), ku_n (k := (17, (v + 1))) (q := (16, i)) (fun z => by cases z), ku_n (k := (16, (v + 1))) (q := (16, i)) (fun z => hne (congrArg Prod.snd z))]
      exact hif h (fun c => by show 1 ≤ i ∧ i ≤ v; omega)
  | (17, i), x, h => by
    by_cases hne : i = (v + 1)
    · rw [hne] at h ⊢
      rw [ku_n (k := (3, 0)) (q := (17, (v + 1))) (fun z => by cases z), ku_n (k := (20, (v + 1))) (q := (17, (v + 1))) (fun z => by cases z), ku_n (k := (19, (v + 1))) (q := (17, (v + 1))) (fun z => by cases z), ku_n (k := (18, (v + 1))) (q := (17, (v + 1))) (fun z => by cases z), ku_s]
      exact hiv h
    · rw [ku_n (k := (3, 0)) (q := (17, i)) (fun z => by cases z), ku_n (k := (20, (v + 1))) (q := (17, i)) (fun z => by cases z), ku_n (k := (19, (v + 1))) (q := (17, i)) (fun z => by cases z), ku_n (k := (18, (v + 1))) (q := (17, i)) (fun z => by cases z), ku_n (k := (17, (v + 1))) (q := (17, i)) (fun z => hne (congrArg Prod.snd z)), ku_n (k := (16, (v + 1))) (q := (17, i)) (fun z => by cases z)]
      exact hif h (fun c => by show 1 ≤ i ∧ i ≤ v; omega)
  | (18, i), x, h => by
    by_cases hne : i = (v + 1)
    · rw [hne] at h ⊢
      rw [ku_n (k := (3, 0)) (q := (18, (v + 1))) (fun z => by cases z), ku_n (k := (20, (v + 1))) (q := (18, (v + 1))) (fun z => by cases z), ku_n (k := (19, (v + 1))) (q := (18, (v + 1))) (fun z => by cases z), ku_s]
      exact hiv h
    · rw [ku_n (k := (3, 0)) (q := (18, i)) (fun z => by cases z), ku_n (k := (20, (v + 1))) (q := (18, i)) (fun z => by cases z), ku_n (k := (19, (v + 1))) (q := (18, i)) (fun z => by cases z), ku_n (k := (18, (v + 1))) (q := (18, i)) (fun z => hne (congrArg Prod.snd z)), ku_n (k := (17, (v + 1))) (q := (18, i)) (fun z => by cases z), ku_n (k := (16, (v + 1))) (q := (18, i)) (fun z => by cases z)]
      exact hif h (fun c => by show 1 ≤ i ∧ i ≤ v; omega)
  | (19, i), x, h => by
    by_cases hne : i = (v + 1)
    · rw [hne] at h ⊢
      rw [ku_n (k := (3, 0)) (q := (19, (v + 1))) (fun z => by cases z), ku_n (k := (20, (v + 1))) (q := (19, (v + 1))) (fun z => by cases z), ku_s]
      exact hiv h
    · rw [ku_n (k := (3, 0)) (q := (19, i)) (fun z => by cases z), ku_n (k := (20, (v + 1))) (q := (19, i)) (fun z => by cases z), ku_n (k := (19, (v + 1))) (q := (19, i)) (fun z => hne (congrArg Prod.snd z)), ku_n (k := (18, (v + 1))) (q := (19, i)) (fun z => by cases z), ku_n (k := (17, (v + 1))) (q := (19, i)) (fun z => by cases z), ku_n (k := (16, (v + 1))) (q := (19, i)) (fun z => by cases z)]
      exact hif h (fun c => by show 1 ≤ i ∧ i ≤ v; omega)
  | (20, i), x, h => by
    by_cases hne : i = (v + 1)
    · rw [hne] at h ⊢
      rw [ku_n (k := (3, 0)) (q := (20, (v + 1))) (fun z => by cases z), ku_s]
      exact hiv h
    · rw [ku_n (k := (3, 0)) (q := (20, i)) (fun z => by cases z), ku_n (k := (20, (v + 1))) (q := (20, i)) (fun z => hne (congrArg Prod.snd z)), ku_n (k := (19, (v + 1))) (q := (20, i)) (fun z => by cases z), ku_n (k := (18, (v + 1))) (q := (20, i)) (fun z => by cases z), ku_n (k := (17, (v + 1))) (q := (20, i)) (fun z => by cases z), ku_n (k := (16, (v + 1))) (q := (20, i)) (fun z => by cases z)]
      exact hif h (fun c => by show 1 ≤ i ∧ i ≤ v; omega)
  | (m + 21, i), x, h => by cases h
theorem ib_3 : ∀ (q : Nat × Nat) (x : ce_E), ib_ gl ad n 8 v (v + 1) (v + 1) 0 q = some x → (ku_ (ku_ (ku_ (ku_ (ib_ gl ad n 8 v v (v + 1) 0) (7, v) (.inr (.inr (5, [.ref (ad (16, v + 1)), .ref (ad (8, v)), .ref (ad (9, v)), .ref (ad (10, v)), .int 0])))) (8, v) (lo_ gl)) (10, v) (.inl (0, 10, fun _ => 0))) (9, v) (.inr (.inl (8, n, fun _ => none)))) q = some x
  | (0, i), x, h => by
    rw [ku_n (k := (9, v)) (q := (0, i)) (fun z => by cases z), ku_n (k := (10, v)) (q := (0, i)) (fun z => by cases z), ku_n (k := (8, v)) (q := (0, i)) (fun z => by cases z), ku_n (k := (7, v)) (q := (0, i)) (fun z => by cases z)]
    exact h
  | (1, i), x, h => by
    rw [ku_n (k := (9, v)) (q := (1, i)) (fun z => by cases z), ku_n (k := (10, v)) (q := (1, i)) (fun z => by cases z), ku_n (k := (8, v)) (q := (1, i)) (fun z => by cases z), ku_n (k := (7, v)) (q := (1, i)) (fun z => by cases z)]
    exact h
  | (2, i), x, h => by
    rw [ku_n (k := (9, v)) (q := (2, i)) (fun z => by cases z), ku_n (k := (10, v)) (q := (2, i)) (fun z => by cases z), ku_n (k := (8, v)) (q := (2, i)) (fun z => by cases z), ku_n (k := (7, v)) (q := (2, i)) (fun z => by cases z)]
    exact h
  | (3, i), x, h => by
    rw [ku_n (k := (9, v)) (q := (3, i)) (fun z => by cases z), ku_n (k := (10, v)) (q := (3, i)) (fun z => by cases z), ku_n (k := (8, v)) (q := (3, i)) (fun z => by cases z), ku_n (k := (7, v)) (q := (3, i)) (fun z => by cases z)]
    exact h
  | (4, i), x, h => by
    rw [ku_n (k := (9, v)) (q := (4, i)) (fun z => by cases z), ku_n (k := (10, v)) (q := (4, i)) (fun z => by cases z), ku_n (k := (8, v)) (q := (4, i)) (fun z => by cases z), ku_n (k := (7, v)) (q := (4, i)) (fun z => by cases z)]
    exact h
  | (5, i), x, h => by
    rw [ku_n (k := (9, v)) (q := (5, i)) (fun z => by cases z), ku_n (k := (10, v)) (q := (5, i)) (fun z => by cases z), ku_n (k := (8, v)) (q := (5, i)) (fun z => by cases z), ku_n (k := (7, v)) (q := (5, i)) (fun z => by cases z)]
    exact h
  | (6, i), x, h => by
    rw [ku_n (k := (9, v)) (q := (6, i)) (fun z => by cases z), ku_n (k := (10, v)) (q := (6, i)) (fun z => by cases z), ku_n (k := (8, v)) (q := (6, i)) (fun z => by cases z), ku_n (k := (7, v)) (q := (6, i)) (fun z => by cases z)]
    exact h
  | (7, i), x, h => by
    by_cases hne : i = v
    · rw [hne] at h ⊢
      rw [ku_n (k := (9, v)) (q := (7, v)) (fun z => by cases z), ku_n (k := (10, v)) (q := (7, v)) (fun z => by cases z), ku_n (k := (8, v)) (q := (7, v)) (fun z => by cases z), ku_s]
      exact hiv h
    · rw [ku_n (k := (9, v)) (q := (7, i)) (fun z => by cases z), ku_n (k := (10, v)) (q := (7, i)) (fun z => by cases z), ku_n (k := (8, v)) (q := (7, i)) (fun z => by cases z), ku_n (k := (7, v)) (q := (7, i)) (fun z => hne (congrArg Prod.snd z))]
      exact hif h (fun c => by show i < v; omega)
  | (8, i), x, h => by
    by_cases hne : i = v
    · rw [hne] at h ⊢
      rw [ku_n (k := (9, v)) (q := (8, v)) (fun z => by cases z), ku_n (k := (10, v)) (q := (8, v)) (fun z => by cases z), ku_s]
      exact hiv h
    · rw [ku_n (k := (9, v)) (q := (8, i)) (fun z => by cases z), ku_n (k := (10, v)) (q := (8, i)) (fun z => by cases z), ku_n (k := (8, v)) (q := (8, i)) (fun z => hne (congrArg Prod.snd z)), ku_n (k := (7, v)) (q := (8, i)) (fun z => by cases z)]
      exact hif h (fun c => by show i < v; omega)
  | (9, i), x, h => by
    by_cases hne : i = v
    · rw [hne] at h ⊢
      rw [ku_s]
      exact (by have e0 : (fun b : Nat => if (v < v ∧ b < n) ∨ (v = v ∧ b < 0) then some (ad (11, 4 * v + b)) else none) = fun _ => none := funext (fun b => if_neg (by omega))
                rw [← e0]
                exact hiv h)
    · rw [ku_n (k := (9, v)) (q := (9, i)) (fun z => hne (congrArg Prod.snd z)), ku_n (k := (10, v)) (q := (9, i)) (fun z => by cases z), ku_n (k := (8, v)) (q := (9, i)) (fun z => by cases z), ku_n (k := (7, v)) (q := (9, i)) (fun z => by cases z)]
      exact hif h (fun c => by show i < v; omega)
  | (10, i), x, h => by
    by_cases hne : i = v
    · rw [hne] at h ⊢
      rw [ku_n (k := (9, v)) (q := (10, v)) (fun z => by cases z), ku_s]
      exact hiv h
    · rw [ku_n (k := (9, v)) (q := (10, i)) (fun z => by cases z), ku_n (k := (10, v)) (q := (10, i)) (fun z => hne (congrArg Prod.snd z)), ku_n (k := (8, v)) (q := (10, i)) (fun z => by cases z), ku_n (k := (7, v)) (q := (10, i)) (fun z => by cases z)]
      exact hif h (fun c => by show i < v; omega)
  | (11, i), x, h => by
    rw [ku_n (k := (9, v)) (q := (11, i)) (fun z => by cases z), ku_n (k := (10, v)) (q := (11, i)) (fun z => by cases z), ku_n (k := (8, v)) (q := (11, i)) (fun z => by cases z), ku_n (k := (7, v)) (q := (11, i)) (fun z => by cases z)]
    exact h
  | (12, i), x, h => by
    rw [ku_n (k := (9, v)) (q := (12, i)) (fun z => by cases z), ku_n (k := (10, v)) (q := (12, i)) (fun z => by cases z), ku_n (k := (8, v)) (q := (12, i)) (fun z => by cases z), ku_n (k := (7, v)) (q := (12, i)) (fun z => by cases z)]
    exact h
  | (13, i), x, h => by
    rw [ku_n (k := (9, v)) (q := (13, i)) (fun z => by cases z), ku_n (k := (10, v)) (q := (13, i)) (fun z => by cases z), ku_n (k := (8, v)) (q := (13, i)) (fun z => by cases z), ku_n (k := (7, v)) (q := (13, i)) (fun z => by cases z)]
    exact h
  | (14, i), x, h => by
    rw [ku_n (k := (9, v)) (q := (14, i)) (fun z => by cases z), ku_n (k := (10, v)) (q := (14, i)) (fun z => by cases z), ku_n (k := (8, v)) (q := (14, i)) (fun z => by cases z), ku_n (k := (7, v)) (q := (14, i)) (fun z => by cases z)]
    exact h
  | (15, i), x, h => by
    rw [ku_n (k := (9, v)) (q := (15, i)) (fun z => by cases z), ku_n (k := (10, v)) (q := (15, i)) (fun z => by cases z), ku_n (k := (8, v)) (q := (15, i)) (fun z => by cases z), ku_n (k := (7, v)) (q := (15, i)) (fun z => by cases z)]
    exact h
  | (16, i), x, h => by
    rw [ku_n (k := (9, v)) (q := (16, i)) (fun z => by cases z), ku_n (k := (10, v)) (q := (16, i)) (fun z => by cases z), ku_n (k := (8, v)) (q := (16, i)) (fun z => by cases z), ku_n (k := (7, v)) (q := (16, i)) (fun z => by cases z)]
    exact h
  | (17, i), x, h => by
    rw [ku_n (k := (9, v)) (q := (17, i)) (fun z => by cases z), ku_n (k := (10, v)) (q := (17, i)) (fun z => by cases z), ku_n (k := (8, v)) (q := (17, i)) (fun z => by cases z), ku_n (k := (7, v)) (q := (17, i)) (fun z => by cases z)]
    exact h
  | (18, i), x, h => by
    rw [ku_n (k := (9, v)) (q := (18, i)) (fun z => by cases z), ku_n (k := (10, v)) (q := (18, i)) (fun z => by cases z), ku_n (k := (8, v)) (q := (18, i)) (fun z => by cases z), ku_n (k := (7, v)) (q := (18, i)) (fun z => by cases z)]
    exact h
  | (19, i), x, h => by
    rw [ku_n (k := (9, v)) (q := (19, i)) (fun z => by cases z), ku_n (k := (10, v)) (q := (19, i)) (fun z => by cases z), ku_n (k := (8, v)) (q := (19, i)) (fun z => by cases z), ku_n (k := (7, v)) (q := (19, i)) (fun z => by cases z)]
    exact h
  | (20, i), x, h => by
    rw [ku_n (k := (9, v)) (q := (20, i)) (fun z => by cases z), ku_n (k := (10, v)) (q := (20, i)) (fun z => by cases z), ku_n (k := (8, v)) (q := (20, i)) (fun z => by cases z), ku_n (k := (7, v)) (q := (20, i)) (fun z => by cases z)]
    exact h
  | (m + 21, i), x, h => by cases h
theorem ve_c (hb : b < 4) (hv : v < Y) : va_up (fun c => if (v < v ∧ c < n) ∨ (v = v ∧ c < b) then some (ad (11, 4 * v + c)) else none) b (some (ad (11, 4 * v + b))) = fun c => if (v < v ∧ c < n) ∨ (v = v ∧ c < b + 1) then some (ad (11, 4 * v + c)) else none := by
  funext c
  by_cases z : c = b
  · rw [z, va_up_self, if_pos (by omega)]
  · rw [va_up_ne _ _ z]
    by_cases y : c < b
    · rw [if_pos (by omega), if_pos (by omega)]
    · rw [if_neg (by omega), if_neg (by omega)]
theorem ib_4 (hb : b < 4) : ∀ (q : Nat × Nat) (x : ce_E), ib_ gl ad n 8 v (v + 1) (v + 1) (b + 1) q = some x → (ku_ (ku_ (ku_ (ib_ gl ad n 8 v (v + 1) (v + 1) b) (11, (4 * v + b)) (.inr (.inr (7, [.ref (ad (12, 4 * v + b))])))) (12, (4 * v + b)) (lo_ gl)) (9, v) (.inr (.inl (8, n, fun c => if (v < v ∧ c < n) ∨ (v = v ∧ c < b + 1) then some (ad (11, 4 * v + c)) else none)))) q = some x
  | (0, i), x, h => by
    rw [ku_n (k := (9, v)) (q := (0, i)) (fun z => by cases z), ku_n (k := (12, (4 * v + b))) (q := (0, i)) (fun z => by cases z), ku_n (k := (11, (4 * v + b))) (q := (0, i)) (fun z => by cases z)]
    exact h
  | (1, i), x, h => by
    rw [ku_n (k := (9, v)) (q := (1, i)) (fun z => by cases z), ku_n (k := (12, (4 * v + b))) (q := (1, i)) (fun z => by cases z), ku_n (k := (11, (4 * v + b))) (q := (1, i)) (fun z => by cases z)]
    exact h
  | (2, i), x, h => by
    rw [ku_n (k := (9, v)) (q := (2, i)) (fun z => by cases z), ku_n (k := (12, (4 * v + b))) (q := (2, i)) (fun z => by cases z), ku_n (k := (11, (4 * v + b))) (q := (2, i)) (fun z => by cases z)]
    exact h
  | (3, i), x, h => by
    rw [ku_n (k := (9, v)) (q := (3, i)) (fun z => by cases z), ku_n (k := (12, (4 * v + b))) (q := (3, i)) (fun z => by cases z), ku_n (k := (11, (4 * v + b))) (q := (3, i)) (fun z => by cases z)]
    exact h
  | (4, i), x, h => by
    rw [ku_n (k := (9, v)) (q := (4, i)) (fun z => by cases z), ku_n (k := (12, (4 * v + b))) (q := (4, i)) (fun z => by cases z), ku_n (k := (11, (4 * v + b))) (q := (4, i)) (fun z => by cases z)]
    exact h
  | (5, i), x, h => by
    rw [ku_n (k := (9, v)) (q := (5, i)) (fun z => by cases z), ku_n (k := (12, (4 * v + b))) (q := (5, i)) (fun z => by cases z), ku_n (k := (11, (4 * v + b))) (q := (5, i)) (fun z => by cases z)]
    exact h
  | (6, i), x, h => by
    rw [ku_n (k := (9, v)) (q := (6, i)) (fun z => by cases z), ku_n (k := (12, (4 * v + b))) (q := (6, i)) (fun z => by cases z), ku_n (k := (11, (4 * v + b))) (q := (6, i)) (fun z => by cases z)]
    exact h
  | (7, i), x, h => by
    rw [ku_n (k := (9, v)) (q := (7, i)) (fun z => by cases z), ku_n (k := (12, (4 * v + b))) (q := (7, i)) (fun z => by cases z), ku_n (k := (11, (4 * v + b))) (q := (7, i)) (fun z => by cases z)]
    exact h
  | (8, i), x, h => by
    rw [ku_n (k := (9, v)) (q := (8, i)) (fun z => by cases z), ku_n (k := (12, (4 * v + b))) (q := (8, i)) (fun z => by cases z), ku_n (k := (11, (4 * v + b))) (q := (8, i)) (fun z => by cases z)]
    exact h
  | (9, i), x, h => by
    by_cases hne : i = v
    · rw [hne] at h ⊢
      rw [ku_s]
      exact hiv h
    · rw [ku_n (k := (9, v)) (q := (9, i)) (fun z => hne (congrArg Prod.snd z)), ku_n (k := (12, (4 * v + b))) (q := (9, i)) (fun z => by cases z), ku_n (k := (11, (4 * v + b))) (q := (9, i)) (fun z => by cases z)]
      exact (by have e0 : (fun c : Nat => if (i < v ∧ c < n) ∨ (i = v ∧ c < b + 1) then some (ad (11, 4 * i + c)) else none) = fun c : Nat => if (i < v ∧ c < n) ∨ (i = v ∧ c < b) then some (ad (11, 4 * i + c)) else none := funext (fun c => by
                  by_cases y : i < v ∧ c < n
                  · rw [if_pos (Or.inl y), if_pos (Or.inl y)]
                  · rw [if_neg (fun z => z.elim y (fun z => hne z.1)), if_neg (fun z => z.elim y (fun z => hne z.1))])
                show (if i < v + 1 then some (.inr (.inl (8, n, fun c : Nat => if (i < v ∧ c < n) ∨ (i = v ∧ c < b) then some (ad (11, 4 * i + c)) else none))) else none) = some x
                rw [← e0]
                exact h)
  | (10, i), x, h => by
    rw [ku_n (k := (9, v)) (q := (10, i)) (fun z => by cases z), ku_n (k := (12, (4 * v + b))) (q := (10, i)) (fun z => by cases z), ku_n (k := (11, (4 * v + b))) (q := (10, i)) (fun z => by cases z)]
    exact h
  | (11, i), x, h => by
    by_cases hne : i = (4 * v + b)
    · rw [hne] at h ⊢
      rw [ku_n (k := (9, v)) (q := (11, (4 * v + b))) (fun z => by cases z), ku_n (k := (12, (4 * v + b))) (q := (11, (4 * v + b))) (fun z => by cases z), ku_s]
      exact hiv h
    · rw [ku_n (k := (9, v)) (q := (11, i)) (fun z => by cases z), ku_n (k := (12, (4 * v + b))) (q := (11, i)) (fun z => by cases z), ku_n (k := (11, (4 * v + b))) (q := (11, i)) (fun z => hne (congrArg Prod.snd z))]
      exact hif h (fun c => by show (i / 4 < v ∧ i % 4 < n) ∨ (i / 4 = v ∧ i % 4 < b); have c : (i / 4 < v ∧ i % 4 < n) ∨ (i / 4 = v ∧ i % 4 < b + 1) := c; omega)
  | (12, i), x, h => by
    by_cases hne : i = (4 * v + b)
    · rw [hne] at h ⊢
      rw [ku_n (k := (9, v)) (q := (12, (4 * v + b))) (fun z => by cases z), ku_s]
      exact hiv h
    · rw [ku_n (k := (9, v)) (q := (12, i)) (fun z => by cases z), ku_n (k := (12, (4 * v + b))) (q := (12, i)) (fun z => hne (congrArg Prod.snd z)), ku_n (k := (11, (4 * v + b))) (q := (12, i)) (fun z => by cases z)]
      exact hif h (fun c => by show (i / 4 < v ∧ i % 4 < n) ∨ (i / 4 = v ∧ i % 4 < b); have c : (i / 4 < v ∧ i % 4 < n) ∨ (i / 4 = v ∧ i % 4 < b + 1) := c; omega)
  | (13, i), x, h => by
    rw [ku_n (k := (9, v)) (q := (13, i)) (fun z => by cases z), ku_n (k := (12, (4 * v + b))) (q := (13, i)) (fun z => by cases z), ku_n (k := (11, (4 * v + b))) (q := (13, i)) (fun z => by cases z)]
    exact h
  | (14, i), x, h => by
    rw [ku_n (k := (9, v)) (q := (14, i)) (fun z => by cases z), ku_n (k := (12, (4 * v + b))) (q := (14, i)) (fun z => by cases z), ku_n (k := (11, (4 * v + b))) (q := (14, i)) (fun z => by cases z)]
    exact h
  | (15, i), x, h => by
    rw [ku_n (k := (9, v)) (q := (15, i)) (fun z => by cases z), ku_n (k := (12, (4 * v + b))) (q := (15, i)) (fun z => by cases z), ku_n (k := (11, (4 * v + b))) (q := (15, i)) (fun z => by cases z)]
    exact h
  | (16, i), x, h => by
    rw [ku_n (k := (9, v)) (q := (16, i)) (fun z => by cases z), ku_n (k := (12, (4 * v + b))) (q := (16, i)) (fun z => by cases z), ku_n (k := (11, (4 * v + b))) (q := (16, i)) (fun z => by cases z)]
    exact h
  | (17, i), x, h => by
    rw [ku_n (k := (9, v)) (q := (17, i)) (fun z => by cases z), ku_n (k := (12, (4 * v + b))) (q := (17, i)) (fun z => by cases z), ku_n (k := (11, (4 * v + b))) (q := (17, i)) (fun z => by cases z)]
    exact h
  | (18, i), x, h => by
    rw [ku_n (k := (9, v)) (q := (18, i)) (fun z => by cases z), ku_n (k := (12, (4 * v + b))) (q := (18, i)) (fun z => by cases z), ku_n (k := (11, (4 * v + b))) (q := (18, i)) (fun z => by cases z)]
    exact h
  | (19, i), x, h => by
    rw [ku_n (k := (9, v)) (q := (19, i)) (fun z => by cases z), ku_n (k := (12, (4 * v + b))) (q := (19, i)) (fun z => by cases z), ku_n (k := (11, (4 * v + b))) (q := (19, i)) (fun z => by cases z)]
    exact h
  | (20, i), x, h => by
    rw [ku_n (k := (9, v)) (q := (20, i)) (fun z => by cases z), ku_n (k := (12, (4 * v + b))) (q := (20, i)) (fun z => by cases z), ku_n (k := (11, (4 * v + b))) (q := (20, i)) (fun z => by cases z)]
    exact h
  | (m + 21, i), x, h => by cases h
theorem ib_5 : ∀ (q : Nat × Nat) (x : ce_E), ib_ gl ad n 8 (v + 1) (v + 1) (v + 1) 0 q = some x → (ku_ (ib_ gl ad n 8 v (v + 1) (v + 1) n) (1, 0) (.inr (.inl (4, n, fun u => if u < v + 1 then some (ad (7, u)) else none)))) q = some x
  | (0, i), x, h => by
    rw [ku_n (k := (1, 0)) (q := (0, i)) (fun z => by cases z)]
    exact h
  | (1, i), x, h => by
    by_cases hne : i = 0
    · rw [hne] at h ⊢
      rw [ku_s]
      exact h
    · rw [ku_n (k := (1, 0)) (q := (1, i)) (fun z => hne (congrArg Prod.snd z))]
      exact absurd (hic h) hne
  | (2, i), x, h => by
    rw [ku_n (k := (1, 0)) (q := (2, i)) (fun z => by cases z)]
    exact h
  | (3, i), x, h => by
    rw [ku_n (k := (1, 0)) (q := (3, i)) (fun z => by cases z)]
    exact h
  | (4, i), x, h => by
    rw [ku_n (k := (1, 0)) (q := (4, i)) (fun z => by cases z)]
    exact h
  | (5, i), x, h => by
    rw [ku_n (k := (1, 0)) (q := (5, i)) (fun z => by cases z)]
    exact h
  | (6, i), x, h => by
    rw [ku_n (k := (1, 0)) (q := (6, i)) (fun z => by cases z)]
    exact h
  | (7, i), x, h => by
    rw [ku_n (k := (1, 0)) (q := (7, i)) (fun z => by cases z)]
    exact h
  | (8, i), x, h => by
    rw [ku_n (k := (1, 0)) (q := (8, i)) (fun z => by cases z)]
    exact h
  | (9, i), x, h => by
    rw [ku_n (k := (1, 0)) (q := (9, i)) (fun z => by cases z)]
    exact (by have hi : i < v + 1 := hic h
              have e0 : (fun c : Nat => if (i < v + 1 ∧ c < n) ∨ (i = v + 1 ∧ c < 0) then some (ad (11, 4 * i + c)) else none) = fun c : Nat => if (i < v ∧ c < n) ∨ (i = v ∧ c < n) then some (ad (11, 4 * i + c)) else none := funext (fun c => by
                by_cases y : c < n
                · rw [if_pos (by omega), if_pos (by omega)]
                · rw [if_neg (by omega), if_neg (by omega)])
              show (if i < v + 1 then some (.inr (.inl (8, n, fun c : Nat => if (i < v ∧ c < n) ∨ (i = v ∧ c < n) then some (ad (11, 4 * i + c)) else none))) else none) = some x
              rw [← e0]
              exact h)
  | (10, i), x, h => by
    rw [ku_n (k := (1, 0)) (q := (10, i)) (fun z => by cases z)]
    exact h
  | (11, i), x, h => by
    rw [ku_n (k := (1, 0)) (q := (11, i)) (fun z => by cases z)]
    exact hif h (fun c => by show (i / 4 < v ∧ i % 4 < n) ∨ (i / 4 = v ∧ i % 4 < n); have c : (i / 4 < v + 1 ∧ i % 4 < n) ∨ (i / 4 = v + 1 ∧ i % 4 < 0) := c; omega)
  | (12, i), x, h => by
    rw [ku_n (k := (1, 0)) (q := (12, i)) (fun z => by cases z)]
    exact hif h (fun c => by show (i / 4 < v ∧ i % 4 < n) ∨ (i / 4 = v ∧ i % 4 < n); have c : (i / 4 < v + 1 ∧ i % 4 < n) ∨ (i / 4 = v + 1 ∧ i % 4 < 0) := c; omega)
  | (13, i), x, h => by
    rw [ku_n (k := (1, 0)) (q := (13, i)) (fun z => by cases z)]
    exact h
  | (14, i), x, h => by
    rw [ku_n (k := (1, 0)) (q := (14, i)) (fun z => by cases z)]
    exact h
  | (15, i), x, h => by
    rw [ku_n (k := (1, 0)) (q := (15, i)) (fun z => by cases z)]
    exact h
  | (16, i), x, h => by
    rw [ku_n (k := (1, 0)) (q := (16, i)) (fun z => by cases z)]
    exact h
  | (17, i), x, h => by
    rw [ku_n (k := (1, 0)) (q := (17, i)) (fun z => by cases z)]
    exact h
  | (18, i), x, h => by
    rw [ku_n (k := (1, 0)) (q := (18, i)) (fun z => by cases z)]
    exact h
  | (19, i), x, h => by
    rw [ku_n (k := (1, 0)) (q := (19, i)) (fun z => by cases z)]
    exact h
  | (20, i), x, h => by
    rw [ku_n (k := (1, 0)) (q := (20, i)) (fun z => by cases z)]
    exact h
  | (m + 21, i), x, h => by cases h
end CIB
