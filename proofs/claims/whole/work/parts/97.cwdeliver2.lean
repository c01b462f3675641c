/-! The class: deliver does deliver. -/
section CDM
variable {gl : gl_T} {fx : fx_T} {ad : Nat × Nat → Nat} {W W' : cw_W} {st : st_S} {Z X : zz_S} {e a b s v L g u q t h p w ref c : Nat} {x : Int32} {lost l : List Nat}
theorem rd_M (hW : CW gl fx ad W st) {m : Nat × Nat × Nat × Int32 × Option Nat} (hc : cwM_ W a = some m) : st.1 a = some (.inr (.inr (9, [.int (nI m.1), va_rf (rf_ ad m.2.1), va_rf (rf_ ad m.2.2.1), .int m.2.2.2.1, va_rf m.2.2.2.2]))) := cv_at (ad := aw_ ad W) hW (hk_23 hc)
theorem pk_i4 {a b : Nat} : nI a * (4 : Int32) + nI b = nI (4 * a + b) := by
  rw [show (4 : Int32) = nI 4 from rfl, pk_mul, nI_add, Nat.mul_comm]
theorem r19 (hW : CW gl fx ad W st) (hd : cwd_ W e = true) (ha : a < 4) (hb : b < 4) : so_li (some (ad (19, e))) 0 (nI (4 * a + b)) st = some (Int32.ofInt (eo_ (cwe_ W e) a b)) := by
  rw [og_li (at_19 hW hd) (show 4 * a + b < 16 by omega) (by decide), show (4 * a + b) / 4 = a by omega, show (4 * a + b) % 4 = b by omega]
theorem xP_gift_ok (hW : CW gl fx ad W st) (hR : RW Z W s) (he : zk_made Z e = true) (ha : a < 4) (hb : b < 4) (ho : -1000000 < eo_ (ze_ Z e) a b ∧ eo_ (ze_ Z e) a b < 1000000) : ∃ st' W', xP_takeGift gl (some (ad (16, e))) (nI a) (nI b) st = some ((), st', 0, 0) ∧ CW gl fx ad W' st' ∧ RW (z_pair Z a b e 1) W' s ∧ pf_ W W' ∧ bk_ W' = bk_ W := by
  have hd : cwd_ W e = true := by rw [hR.2.1 e]; exact he
  have hE : cwe_ W e = ze_ Z e := by rw [hR.2.2.1]
  have hl := r19 hW hd ha hb
  rw [hE] at hl
  unfold xP_takeGift
  by_cases hc : 0 ≤ eo_ (ze_ Z e) a b
  · have ez : z_pair Z a b e 1 = zj_e Z e (ej_o (ze_ Z e) a b 1) := by unfold z_pair; dsimp only; rw [if_neg (by omega)]
    rw [ez]
    obtain ⟨st', c1, c2, c3⟩ := cu_o (d := 1) hW hd ha hb (y := Int32.ofInt (eo_ (cwe_ W e) a b) + 1) (oi_1 _)
    rw [hE] at c1 c2
    refine ⟨st', _, ?_, c2, RW_e hR, ⟨rfl, rfl, rfl, fun _ _ => rfl, mf_s rfl rfl rfl⟩, rfl⟩
    refine ru_g _ (re_o hW hd) ?_
    rw [pk_i4]
    refine ru_g _ hl ?_
    refine ru_t ((oi_0le ho.1 ho.2).mpr hc) ?_
    unfold xP_takeGift_b25
    refine ru_g _ (re_o hW hd) ?_
    refine ru_g _ hl ?_
    exact ru_w _ c1 rfl
  · have ez : z_pair Z a b e 1 = zj_e Z e (ej_o (ej_x (ze_ Z e) b 1) a b 1) := by unfold z_pair; dsimp only; rw [if_pos (Or.inl ⟨by omega, by omega⟩)]; rfl
    rw [ez]
    obtain ⟨st1, c1, c2, c3⟩ := cu_x (d := 1) hW hd hb (y := Int32.ofInt (ex_ (cwe_ W e) b) + 1) (oi_1 _)
    rw [hE] at c2
    have hd1 : cwd_ (cj_e W e (ej_x (ze_ Z e) b 1)) e = true := hd
    obtain ⟨st', g1, g2, g3⟩ := cu_o (d := 1) c2 hd1 ha hb (y := Int32.ofInt (eo_ (ze_ Z e) a b) + 1) (by rw [cwe_s]; exact oi_1 _)
    rw [cwe_s] at g2
    have hl1 := r19 c2 hd1 ha hb
    rw [cwe_s] at hl1
    have ee : cj_e (cj_e W e (ej_x (ze_ Z e) b 1)) e (ej_o (ej_x (ze_ Z e) b 1) a b 1) = cj_e W e (ej_o (ej_x (ze_ Z e) b 1) a b 1) := by
      unfold cj_e
      show (_, _, _, va_up (va_up (cwe_ W) e _) e _, _) = _
      rw [va_twice]
      rfl
    rw [ee] at g2
    refine ⟨st', _, ?_, g2, RW_e hR, ⟨rfl, rfl, rfl, fun _ _ => rfl, mf_s rfl rfl rfl⟩, rfl⟩
    refine ru_g _ (re_o hW hd) ?_
    rw [pk_i4]
    refine ru_g _ hl ?_
    refine ru_f (fun z => hc ((oi_0le ho.1 ho.2).mp z)) ?_
    refine ru_g _ (re_x hW hd) ?_
    refine ru_g _ (og_li (at_17 hW hd) (show b < 4 by omega) (by decide)) ?_
    refine ru_w _ c1 ?_
    unfold xP_takeGift_b25
    refine ru_g _ (re_o c2 hd1) ?_
    refine ru_g _ hl1 ?_
    exact ru_w _ g1 rfl
theorem oi_m1 (x : Int) : Int32.ofInt x - 1 = Int32.ofInt (x + -1) := i_sub x 1
theorem xP_redeem_ok (hW : CW gl fx ad W st) (hR : RW Z W s) (he : zk_made Z e = true) (ha : a < 4) (hb : b < 4) (ho : -1000000 < eo_ (ze_ Z e) a b ∧ eo_ (ze_ Z e) a b < 1000000) : ∃ st' W', xP_takeRedeem gl (some (ad (16, e))) (nI a) (nI b) st = some ((), st', 0, 0) ∧ CW gl fx ad W' st' ∧ RW (z_pair Z a b e (-1)) W' s ∧ pf_ W W' ∧ bk_ W' = bk_ W := by
  have hd : cwd_ W e = true := by rw [hR.2.1 e]; exact he
  have hE : cwe_ W e = ze_ Z e := by rw [hR.2.2.1]
  have hl := r19 hW hd ha hb
  rw [hE] at hl
  unfold xP_takeRedeem
  by_cases hc : eo_ (ze_ Z e) a b ≤ 0
  · have ez : z_pair Z a b e (-1) = zj_e Z e (ej_o (ze_ Z e) a b (-1)) := by unfold z_pair; dsimp only; rw [if_neg (by omega)]
    rw [ez]
    obtain ⟨st', c1, c2, c3⟩ := cu_o (d := -1) hW hd ha hb (y := Int32.ofInt (eo_ (cwe_ W e) a b) - 1) (oi_m1 _)
    rw [hE] at c1 c2
    refine ⟨st', _, ?_, c2, RW_e hR, ⟨rfl, rfl, rfl, fun _ _ => rfl, mf_s rfl rfl rfl⟩, rfl⟩
    refine ru_g _ (re_o hW hd) ?_
    rw [pk_i4]
    refine ru_g _ hl ?_
    refine ru_t ((oi_le0 ho.1 ho.2).mpr hc) ?_
    unfold xP_takeRedeem_b25
    refine ru_g _ (re_o hW hd) ?_
    refine ru_g _ hl ?_
    exact ru_w _ c1 rfl
  · have ez : z_pair Z a b e (-1) = zj_e Z e (ej_o (ej_x (ze_ Z e) b 1) a b (-1)) := by unfold z_pair; dsimp only; rw [if_pos (Or.inr ⟨by omega, by omega⟩)]; rfl
    rw [ez]
    obtain ⟨st1, c1, c2, c3⟩ := cu_x (d := 1) hW hd hb (y := Int32.ofInt (ex_ (cwe_ W e) b) + 1) (oi_1 _)
    rw [hE] at c2
    have hd1 : cwd_ (cj_e W e (ej_x (ze_ Z e) b 1)) e = true := hd
    obtain ⟨st', g1, g2, g3⟩ := cu_o (d := -1) c2 hd1 ha hb (y := Int32.ofInt (eo_ (ze_ Z e) a b) - 1) (by rw [cwe_s]; exact oi_m1 _)
    rw [cwe_s] at g2
    have hl1 := r19 c2 hd1 ha hb
    rw [cwe_s] at hl1
    have ee : cj_e (cj_e W e (ej_x (ze_ Z e) b 1)) e (ej_o (ej_x (ze_ Z e) b 1) a b (-1)) = cj_e W e (ej_o (ej_x (ze_ Z e) b 1) a b (-1)) := by
      unfold cj_e
      show (_, _, _, va_up (va_up (cwe_ W) e _) e _, _) = _
      rw [va_twice]
      rfl
    rw [ee] at g2
    refine ⟨st', _, ?_, g2, RW_e hR, ⟨rfl, rfl, rfl, fun _ _ => rfl, mf_s rfl rfl rfl⟩, rfl⟩
    refine ru_g _ (re_o hW hd) ?_
    rw [pk_i4]
    refine ru_g _ hl ?_
    refine ru_f (fun z => hc ((oi_le0 ho.1 ho.2).mp z)) ?_
    refine ru_g _ (re_x hW hd) ?_
    refine ru_g _ (og_li (at_17 hW hd) (show b < 4 by omega) (by decide)) ?_
    refine ru_w _ c1 ?_
    unfold xP_takeRedeem_b25
    refine ru_g _ (re_o c2 hd1) ?_
    refine ru_g _ hl1 ?_
    exact ru_w _ g1 rfl
end CDM
