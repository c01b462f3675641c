/-! The class: objects are made. -/
section CMK
variable {gl : gl_T} {fx : fx_T} {ad : Nat × Nat → Nat} {W W' : cw_W} {st st' : st_S} {Z X : zz_S} {e a b s v L g u q t h p w ref c n f y o r : Nat} {x op : Int32} {lost l : List Nat} {E : ze_E} {N : Nat × Nat × Nat}
theorem up_ad {c d : ce_E} (h : a ≠ st.2) : st_up (st_ad st d) a c = st_ad (st_up st a c) d := by
  unfold st_up st_ad
  refine Prod.ext (funext (fun q => ?_)) rfl
  show (if q = a then some c else if q = st.2 then some d else st.1 q) = if q = st.2 then some d else if q = a then some c else st.1 q
  by_cases z : q = a
  · rw [if_pos z, if_neg (by omega), if_pos z]
  · rw [if_neg z, if_neg z]
theorem c4_ : (4 : Int32).toNatClampNeg = 4 := by decide
theorem c16_ : (16 : Int32).toNatClampNeg = 16 := by decide
/-- an entity's three rows -/
theorem xE_ok {ci : Nat} {fs : List Value} {k1 k2 : Int32} (hci : ci ∈ ([3, 4] : List Nat)) (hl : fs.length = 10) : xE_init gl (some st.2) k1 k2 (st_ad st (.inr (.inr (ci, fs)))) =
    some ((), st_ad (st_ad (st_ad (st_ad st (.inr (.inr (ci, ((((fs.set 7 (.ref (st.2 + 1))).set 8 (.ref (st.2 + 2))).set 9 (.ref (st.2 + 3))).set 3 (.int k1)).set 4 (.int k2))))) (.inl (0, 4, fun _ => 0))) (.inl (0, 4, fun _ => 0))) (.inl (0, 16, fun _ => 0)), 3, 24) := by
  unfold xE_init
  rw [c4_, c16_]
  refine ru_g _ (og_c ad_s) ?_
  refine ru_g _ (og_l (m := 4) (by decide)) ?_
  refine ru_n (i2 := 2) (j2 := 20) ?_ rfl rfl
  refine ru_w _ (og_p ((ad_n (by show st.2 ≠ st.2 + 1; omega)).trans ad_s) hci (by rw [hl]; decide)) ?_
  rw [up_ad (by show st.2 ≠ st.2 + 1; omega), ad_up]
  refine ru_g _ (og_l (m := 4) (by decide)) ?_
  refine ru_n (i2 := 1) (j2 := 16) ?_ rfl rfl
  refine ru_w _ (og_p ((ad_n (by show st.2 ≠ st.2 + 1 + 1; omega)).trans ((ad_n (by show st.2 ≠ st.2 + 1; omega)).trans ad_s)) hci (by simp [hl])) ?_
  rw [up_ad (by show st.2 ≠ st.2 + 1 + 1; omega), up_ad (by show st.2 ≠ st.2 + 1; omega), ad_up]
  refine ru_g _ (og_l (m := 16) (by decide)) ?_
  refine ru_n (i2 := 0) (j2 := 0) ?_ rfl rfl
  have hat : ∀ {c1 c2 c3 c4 : ce_E}, (st_ad (st_ad (st_ad (st_ad st c1) c2) c3) c4).1 st.2 = some c1 := fun {c1 c2 c3 c4} => (ad_n (by show st.2 ≠ st.2 + 1 + 1 + 1; omega)).trans ((ad_n (by show st.2 ≠ st.2 + 1 + 1; omega)).trans ((ad_n (by show st.2 ≠ st.2 + 1; omega)).trans ad_s))
  have hup : ∀ {c1 c2 c3 c4 c5 : ce_E}, st_up (st_ad (st_ad (st_ad (st_ad st c1) c2) c3) c4) st.2 c5 = st_ad (st_ad (st_ad (st_ad st c5) c2) c3) c4 := fun {c1 c2 c3 c4 c5} => by
    rw [up_ad (by show st.2 ≠ st.2 + 1 + 1 + 1; omega), up_ad (by show st.2 ≠ st.2 + 1 + 1; omega), up_ad (by show st.2 ≠ st.2 + 1; omega), ad_up]
  refine ru_w _ (og_p hat hci (by simp [hl])) ?_
  rw [hup]
  refine ru_w _ (og_p hat hci (by simp [hl])) ?_
  rw [hup]
  refine ru_w _ (og_p hat hci (by simp [hl])) ?_
  rw [hup]
  rfl
theorem hat5 {c1 c2 c3 c4 c5 : ce_E} : (st_ad (st_ad (st_ad (st_ad (st_ad st c1) c2) c3) c4) c5).1 st.2 = some c1 := (ad_n (by show st.2 ≠ st.2 + 1 + 1 + 1 + 1; omega)).trans ((ad_n (by show st.2 ≠ st.2 + 1 + 1 + 1; omega)).trans ((ad_n (by show st.2 ≠ st.2 + 1 + 1; omega)).trans ((ad_n (by show st.2 ≠ st.2 + 1; omega)).trans ad_s)))
theorem hup5 {c1 c2 c3 c4 c5 c6 : ce_E} : st_up (st_ad (st_ad (st_ad (st_ad (st_ad st c1) c2) c3) c4) c5) st.2 c6 = st_ad (st_ad (st_ad (st_ad (st_ad st c6) c2) c3) c4) c5 := by
  rw [up_ad (by show st.2 ≠ st.2 + 1 + 1 + 1 + 1; omega), up_ad (by show st.2 ≠ st.2 + 1 + 1 + 1; omega), up_ad (by show st.2 ≠ st.2 + 1 + 1; omega), up_ad (by show st.2 ≠ st.2 + 1; omega), ad_up]
theorem hat5o {c1 c2 c3 c4 c5 : ce_E} (h : a < st.2) : (st_ad (st_ad (st_ad (st_ad (st_ad st c1) c2) c3) c4) c5).1 a = st.1 a := (ad_n (by show a ≠ st.2 + 1 + 1 + 1 + 1; omega)).trans ((ad_n (by show a ≠ st.2 + 1 + 1 + 1; omega)).trans ((ad_n (by show a ≠ st.2 + 1 + 1; omega)).trans ((ad_n (by show a ≠ st.2 + 1; omega)).trans (ad_n (by omega)))))
theorem xO_ok {k1 k2 k3 : Int32} : xO_init gl (some st.2) k1 k2 k3 (st_ad st (.inr (.inr (3, cd_3)))) =
    some ((), st_ad (st_ad (st_ad (st_ad (st_ad st (.inr (.inr (3, [.int k3, .int 0, .ref (st.2 + 4), .int k1, .int k2, .int 0, .int 0, .ref (st.2 + 1), .ref (st.2 + 2), .ref (st.2 + 3)])))) (.inl (0, 4, fun _ => 0))) (.inl (0, 4, fun _ => 0))) (.inl (0, 16, fun _ => 0))) (.inr (.inl (6, 4, fun _ => none))), 4, 28) := by
  unfold xO_init
  rw [c4_]
  refine ru_g _ (og_c ad_s) ?_
  refine ru_b (i2 := 1) (j2 := 4) (xE_ok (by simp) rfl) ?_ rfl rfl
  refine ru_g _ (og_l (m := 4) (by decide)) ?_
  refine ru_n (i2 := 0) (j2 := 0) ?_ rfl rfl
  refine ru_w _ (og_p hat5 (by simp) (by simp [cd_3])) ?_
  rw [hup5]
  refine ru_w _ (og_p hat5 (by simp) (by simp [cd_3])) ?_
  rw [hup5]
  rfl
theorem al_new : al_init gl (some st.2) (st_ad st (.inr (.inr (6, cd_6)))) = some ((), st_ad st (.inr (.inr (6, [.ref gl.1, .int 0, .int 0]))), 0, 0) := by
  have h1 : ab_init gl (some st.2) (st_ad st (.inr (.inr (6, cd_6)))) = some ((), st_ad st (.inr (.inr (6, cd_6))), 0, 0) := by
    unfold ab_init aq_init
    refine ru_g _ (og_c ad_s) ?_
    refine ru_b (i2 := 0) (j2 := 0) (ru_g _ (og_c ad_s) (ru_r (a := ()))) ?_ rfl rfl
    refine ru_w _ (og_p ad_s (by simp) (by simp [cd_6])) ?_
    rw [ad_up]
    rfl
  unfold al_init
  refine ru_g _ (og_c ad_s) ?_
  refine ru_b (i2 := 0) (j2 := 0) h1 ?_ rfl rfl
  refine ru_w _ (og_p ad_s (by simp) (by simp [cd_6])) ?_
  rw [ad_up]
  rfl
theorem xQ_ok {k1 k2 : Int32} : xQ_init gl (some st.2) k1 k2 (st_ad st (.inr (.inr (4, cd_4)))) =
    some ((), st_ad (st_ad (st_ad (st_ad (st_ad st (.inr (.inr (4, [.int 1, .null, .ref (st.2 + 4), .int k1, .int k2, .int 0, .int 0, .ref (st.2 + 1), .ref (st.2 + 2), .ref (st.2 + 3)])))) (.inl (0, 4, fun _ => 0))) (.inl (0, 4, fun _ => 0))) (.inl (0, 16, fun _ => 0))) (.inr (.inr (6, [.ref gl.1, .int 0, .int 0]))), 4, 27) := by
  unfold xQ_init
  refine ru_g _ (og_c ad_s) ?_
  refine ru_b (i2 := 1) (j2 := 3) (xE_ok (by simp) rfl) ?_ rfl rfl
  refine ru_w _ (og_p ((ad_n (by show st.2 ≠ st.2 + 1 + 1 + 1; omega)).trans ((ad_n (by show st.2 ≠ st.2 + 1 + 1; omega)).trans ((ad_n (by show st.2 ≠ st.2 + 1; omega)).trans ad_s))) (by simp) (by simp [cd_4])) ?_
  rw [up_ad (by show st.2 ≠ st.2 + 1 + 1 + 1; omega), up_ad (by show st.2 ≠ st.2 + 1 + 1; omega), up_ad (by show st.2 ≠ st.2 + 1; omega), ad_up]
  refine ru_n (i2 := 0) (j2 := 0) ?_ rfl rfl
  refine ru_b (i2 := 0) (j2 := 0) al_new ?_ rfl rfl
  refine ru_w _ (og_p hat5 (by simp) (by simp [cd_4])) ?_
  rw [hup5]
  rfl
end CMK
