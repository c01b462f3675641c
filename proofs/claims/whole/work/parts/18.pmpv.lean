/-! what they do on stores is what they do on pictures -/
/-! code -/
set_option maxHeartbeats 4000000 in
theorem kp_pm_code_b31 {m0 : Nat} {am : Nat → Nat} {gl : gl_T} : pv_ m0 am (mm_code_b31 gl ) (pm_code_b31 ) := by
  unfold mm_code_b31 pm_code_b31
  exact pv_r
set_option maxHeartbeats 4000000 in
theorem kp_pm_code_b92 {m0 : Nat} {am : Nat → Nat} {gl : gl_T} : pv_ m0 am (mm_code_b92 gl ) (pm_code_b92 ) := by
  unfold mm_code_b92 pm_code_b92
  exact pv_r
set_option maxHeartbeats 4000000 in
theorem kp_pm_code_b94 {m0 : Nat} {am : Nat → Nat} {gl : gl_T} (p1 : Int32) (p2 : Int32) (p3 : Int32) : pv_ m0 am (mm_code_b94 gl (some m0) p1 p2 p3) (pm_code_b94 p1 p2 p3) := by
  unfold mm_code_b94 pm_code_b94
  refine pv_k _ (mv_gq (k := 3) (by decide)) ?_
  refine pv_g (mv_li (k := 3) (by decide) rfl) (fun t2 => ?_)
  refine pv_k _ (mv_gq (k := 4) (by decide)) ?_
  refine pv_w (mv_si (k := 4) (by decide) rfl) ?_
  refine pv_k _ (mv_gq (k := 5) (by decide)) ?_
  refine pv_w (mv_si (k := 5) (by decide) rfl) ?_
  refine pv_k _ (mv_gq (k := 3) (by decide)) ?_
  refine pv_g (mv_li (k := 3) (by decide) rfl) (fun t3 => ?_)
  refine pv_w (mv_si (k := 3) (by decide) rfl) ?_
  exact pv_r
set_option maxHeartbeats 4000000 in
theorem kp_pm_code_b82 {m0 : Nat} {am : Nat → Nat} {gl : gl_T} (p1 : Int32) (p2 : Int32) (p3 : Int32) : pv_ m0 am (mm_code_b82 gl (some m0) p1 p2 p3) (pm_code_b82 p1 p2 p3) := by
  unfold mm_code_b82 pm_code_b82
  refine pv_if ?_ ?_
  · exact kp_pm_code_b92
  · refine pv_if ?_ ?_
    · exact kp_pm_code_b94 p1 p2 p3
    · exact kp_pm_code_b92
set_option maxHeartbeats 4000000 in
theorem kp_pm_code_b70 {m0 : Nat} {am : Nat → Nat} {gl : gl_T} (p1 : Int32) (p2 : Int32) (p3 : Int32) : pv_ m0 am (mm_code_b70 gl (some m0) p1 p2 p3) (pm_code_b70 p1 p2 p3) := by
  unfold mm_code_b70 pm_code_b70
  refine pv_if ?_ ?_
  · exact kp_pm_code_b82 p1 p2 p3
  · refine pv_if ?_ ?_
    · exact kp_pm_code_b82 p1 p2 p3
    · exact kp_pm_code_b94 p1 p2 p3
set_option maxHeartbeats 4000000 in
theorem kp_pm_code_b54 {m0 : Nat} {am : Nat → Nat} {gl : gl_T} (p1 : Int32) (p2 : Int32) (p3 : Int32) (q0 : Int32) : pv_ m0 am (mm_code_b54 gl (some m0) p1 p2 p3 q0) (pm_code_b54 p1 p2 p3 q0) := by
  unfold mm_code_b54 pm_code_b54
  refine pv_if ?_ ?_
  · exact kp_pm_code_b70 p1 p2 p3
  · refine pv_if ?_ ?_
    · exact kp_pm_code_b92
    · refine pv_if ?_ ?_
      · exact kp_pm_code_b92
      · exact kp_pm_code_b70 p1 p2 p3
set_option maxHeartbeats 4000000 in
theorem kp_pm_code_b49 {m0 : Nat} {am : Nat → Nat} {gl : gl_T} (p1 : Int32) (p2 : Int32) (p3 : Int32) : pv_ m0 am (mm_code_b49 gl (some m0) p1 p2 p3) (pm_code_b49 p1 p2 p3) := by
  unfold mm_code_b49 pm_code_b49
  exact kp_pm_code_b54 p1 p2 p3 (1 : Int32)
set_option maxHeartbeats 4000000 in
theorem kp_pm_code {m0 : Nat} {am : Nat → Nat} {gl : gl_T} (v1 : Int32) (v2 : Int32) (v3 : Int32) : pv_ m0 am (mm_code gl (some m0) v1 v2 v3) (pm_code v1 v2 v3) := by
  unfold mm_code pm_code
  refine pv_if ?_ ?_
  · exact kp_pm_code_b31
  · refine pv_if ?_ ?_
    · exact kp_pm_code_b31
    · refine pv_if ?_ ?_
      · exact kp_pm_code_b31
      · refine pv_if ?_ ?_
        · exact kp_pm_code_b31
        · refine pv_k _ (mv_gq (k := 3) (by decide)) ?_
          refine pv_g (mv_li (k := 3) (by decide) rfl) (fun t1 => ?_)
          refine pv_if ?_ ?_
          · refine pv_if ?_ ?_
            · exact kp_pm_code_b49 v1 v2 v3
            · refine pv_if ?_ ?_
              · exact kp_pm_code_b49 v1 v2 v3
              · refine pv_if ?_ ?_
                · exact kp_pm_code_b49 v1 v2 v3
                · exact kp_pm_code_b54 v1 v2 v3 (0 : Int32)
          · exact kp_pm_code_b31
/-! clear -/
set_option maxHeartbeats 4000000 in
theorem kp_pm_clear_b10 {m0 : Nat} {am : Nat → Nat} {gl : gl_T} : pv_ m0 am (mm_clear_b10 gl ) (pm_clear_b10 ) := by
  unfold mm_clear_b10 pm_clear_b10
  exact pv_r
set_option maxHeartbeats 4000000 in
theorem kp_pm_clear {m0 : Nat} {am : Nat → Nat} {gl : gl_T} (v1 : Int32) : pv_ m0 am (mm_clear gl (some m0) v1) (pm_clear v1) := by
  unfold mm_clear pm_clear
  refine pv_if ?_ ?_
  · exact kp_pm_clear_b10
  · refine pv_if ?_ ?_
    · refine pv_k _ (mv_gq (k := 3) (by decide)) ?_
      refine pv_w (mv_si (k := 3) (by decide) rfl) ?_
      exact pv_r
    · exact kp_pm_clear_b10
/-! vat -/
set_option maxHeartbeats 4000000 in
theorem kp_pm_vat_b16 {m0 : Nat} {am : Nat → Nat} {gl : gl_T} : pv_ m0 am (mm_vat_b16 gl ) (pm_vat_b16 ) := by
  unfold mm_vat_b16 pm_vat_b16
  exact pv_r
set_option maxHeartbeats 4000000 in
theorem kp_pm_vat {m0 : Nat} {am : Nat → Nat} {gl : gl_T} (v1 : Int32) : pv_ m0 am (mm_vat gl (some m0) v1) (pm_vat v1) := by
  unfold mm_vat pm_vat
  refine pv_if ?_ ?_
  · exact kp_pm_vat_b16
  · refine pv_g (mv_gi (k := 0) (by decide) (by decide)) (fun t1 => ?_)
    refine pv_if ?_ ?_
    · exact kp_pm_vat_b16
    · exact pv_r
/-! oldest -/
set_option maxHeartbeats 4000000 in
theorem kp_pm_oldest_b29 {m0 : Nat} {am : Nat → Nat} {gl : gl_T} (p2 : Int32) : pv_ m0 am (mm_oldest_b29 gl (some m0) p2) (pm_oldest_b29 p2) := by
  unfold mm_oldest_b29 pm_oldest_b29
  refine pv_g (mv_gi (k := 24) (by decide) (by decide)) (fun t3 => ?_)
  refine pv_if ?_ ?_
  · exact pv_r
  · exact pv_r
set_option maxHeartbeats 4000000 in
theorem kp_pm_oldest_b2 {m0 : Nat} {am : Nat → Nat} {gl : gl_T} : ∀ x : Int32 × Int32, pv_ m0 am (st_it (fun rec2 => (fun x : Option Nat × Int32 × Int32 => mm_oldest_b2 gl rec2 x.1 x.2.1 x.2.2)) fu_ ((fun x : Int32 × Int32 => (((some m0), x.1, x.2) : Option Nat × Int32 × Int32)) x)) (pt_ (fun rec2 => (fun x : Int32 × Int32 => pm_oldest_b2 rec2 x.1 x.2)) fu_ x) := by
  refine pv_it (fun x : Int32 × Int32 => (((some m0), x.1, x.2) : Option Nat × Int32 × Int32)) ?_ fu_
  intro sec2 rec2 hr2 x
  obtain ⟨p1, p2⟩ := x
  show pv_ m0 am (mm_oldest_b2 gl sec2 (some m0) p1 p2) (pm_oldest_b2 rec2 p1 p2)
  unfold mm_oldest_b2 pm_oldest_b2
  refine pv_g (mv_gi (k := 24) (by decide) (by decide)) (fun t1 => ?_)
  refine pv_if ?_ ?_
  · exact kp_pm_oldest_b29 p2
  · refine pv_k _ (mv_gq (k := 25) (by decide)) ?_
    refine pv_g (mv_li (k := 25) (by decide) rfl) (fun t2 => ?_)
    refine pv_if ?_ ?_
    · exact kp_pm_oldest_b29 p2
    · exact hr2 (p1, (p2 + (1 : Int32)))
set_option maxHeartbeats 4000000 in
theorem kp_pm_oldest {m0 : Nat} {am : Nat → Nat} {gl : gl_T} (v1 : Int32) : pv_ m0 am (mm_oldest gl (some m0) v1) (pm_oldest v1) := by
  unfold mm_oldest pm_oldest
  exact kp_pm_oldest_b2 (v1, (0 : Int32))
/-! unmail -/
set_option maxHeartbeats 4000000 in
theorem kp_pm_unmail_b12 {m0 : Nat} {am : Nat → Nat} {gl : gl_T} : ∀ x : Int32, pv_ m0 am (st_it (fun rec12 => (fun x : Option Nat × Int32 => mm_unmail_b12 gl rec12 x.1 x.2)) fu_ ((fun x : Int32 => (((some m0), x) : Option Nat × Int32)) x)) (pt_ (fun rec12 => (fun x : Int32 => pm_unmail_b12 rec12 x)) fu_ x) := by
  refine pv_it (fun x : Int32 => (((some m0), x) : Option Nat × Int32)) ?_ fu_
  intro sec12 rec12 hr12 x
  have hx : ∃ z, z = x := ⟨_, rfl⟩; obtain ⟨p2, rfl⟩ := hx
  show pv_ m0 am (mm_unmail_b12 gl sec12 (some m0) p2) (pm_unmail_b12 rec12 p2)
  unfold mm_unmail_b12 pm_unmail_b12
  refine pv_g (mv_gi (k := 24) (by decide) (by decide)) (fun t2 => ?_)
  refine pv_if ?_ ?_
  · exact pv_r
  · refine pv_k _ (mv_gq (k := 25) (by decide)) ?_
    refine pv_k _ (mv_gq (k := 25) (by decide)) ?_
    refine pv_g (mv_li (k := 25) (by decide) rfl) (fun t3 => ?_)
    refine pv_w (mv_si (k := 25) (by decide) rfl) ?_
    refine pv_k _ (mv_gq (k := 26) (by decide)) ?_
    refine pv_k _ (mv_gq (k := 26) (by decide)) ?_
    refine pv_g (mv_li (k := 26) (by decide) rfl) (fun t4 => ?_)
    refine pv_w (mv_si (k := 26) (by decide) rfl) ?_
    refine pv_k _ (mv_gq (k := 27) (by decide)) ?_
    refine pv_k _ (mv_gq (k := 27) (by decide)) ?_
    refine pv_g (mv_li (k := 27) (by decide) rfl) (fun t5 => ?_)
    refine pv_w (mv_si (k := 27) (by decide) rfl) ?_
    refine pv_k _ (mv_gq (k := 28) (by decide)) ?_
    refine pv_k _ (mv_gq (k := 28) (by decide)) ?_
    refine pv_g (mv_li (k := 28) (by decide) rfl) (fun t6 => ?_)
    refine pv_w (mv_si (k := 28) (by decide) rfl) ?_
    refine pv_k _ (mv_gq (k := 29) (by decide)) ?_
    refine pv_k _ (mv_gq (k := 29) (by decide)) ?_
    refine pv_g (mv_li (k := 29) (by decide) rfl) (fun t7 => ?_)
    refine pv_w (mv_si (k := 29) (by decide) rfl) ?_
    exact hr12 (p2 + (1 : Int32))
set_option maxHeartbeats 4000000 in
theorem kp_pm_unmail {m0 : Nat} {am : Nat → Nat} {gl : gl_T} (v1 : Int32) : pv_ m0 am (mm_unmail gl (some m0) v1) (pm_unmail v1) := by
  unfold mm_unmail pm_unmail
  refine pv_g (mv_gi (k := 24) (by decide) (by decide)) (fun t1 => ?_)
  refine pv_w (mv_p (k := 24) (by decide) (by decide)) ?_
  exact kp_pm_unmail_b12 v1
/-! post -/
set_option maxHeartbeats 4000000 in
theorem kp_pm_post {m0 : Nat} {am : Nat → Nat} {gl : gl_T} (v1 : Int32) (v2 : Int32) (v3 : Int32) (v4 : Int32) (v5 : Int32) (v6 : Int32) : pv_ m0 am (mm_post gl (some m0) v1 v2 v3 v4 v5 v6) (pm_post v1 v2 v3 v4 v5 v6) := by
  unfold mm_post pm_post
  refine pv_k _ (mv_gq (k := 25) (by decide)) ?_
  refine pv_g (mv_gi (k := 24) (by decide) (by decide)) (fun t1 => ?_)
  refine pv_w (mv_si (k := 25) (by decide) rfl) ?_
  refine pv_k _ (mv_gq (k := 26) (by decide)) ?_
  refine pv_g (mv_gi (k := 24) (by decide) (by decide)) (fun t2 => ?_)
  refine pv_w (mv_si (k := 26) (by decide) rfl) ?_
  refine pv_k _ (mv_gq (k := 27) (by decide)) ?_
  refine pv_g (mv_gi (k := 24) (by decide) (by decide)) (fun t3 => ?_)
  refine pv_w (mv_si (k := 27) (by decide) rfl) ?_
  refine pv_k _ (mv_gq (k := 28) (by decide)) ?_
  refine pv_g (mv_gi (k := 24) (by decide) (by decide)) (fun t4 => ?_)
  refine pv_w (mv_si (k := 28) (by decide) rfl) ?_
  refine pv_k _ (mv_gq (k := 29) (by decide)) ?_
  refine pv_g (mv_gi (k := 24) (by decide) (by decide)) (fun t5 => ?_)
  refine pv_w (mv_si (k := 29) (by decide) rfl) ?_
  refine pv_g (mv_gi (k := 24) (by decide) (by decide)) (fun t6 => ?_)
  refine pv_w (mv_p (k := 24) (by decide) (by decide)) ?_
  exact pv_r
/-! unpack -/
set_option maxHeartbeats 4000000 in
theorem kp_pm_unpack {m0 : Nat} {am : Nat → Nat} {gl : gl_T} (v1 : Int32) (v2 : Int32) (v3 : Int32) : pv_ m0 am (mm_unpack gl (some m0) v1 v2 v3) (pm_unpack v1 v2 v3) := by
  unfold mm_unpack pm_unpack
  refine pv_if ?_ ?_
  · exact pv_r
  · refine pv_k _ (mv_gq (k := 6) (by decide)) ?_
    refine pv_g (mv_li (k := 6) (by decide) rfl) (fun t1 => ?_)
    refine pv_if ?_ ?_
    · exact pv_r
    · refine pv_k _ (mv_gq (k := 16) (by decide)) ?_
      refine pv_g (mv_li (k := 16) (by decide) rfl) (fun t2 => ?_)
      refine pv_w (mv_si (k := 16) (by decide) rfl) ?_
      refine pv_k _ (mv_gq (k := 6) (by decide)) ?_
      refine pv_g (mv_li (k := 6) (by decide) rfl) (fun t3 => ?_)
      refine pv_if ?_ ?_
      · exact pv_r
      · refine pv_k _ (mv_gq (k := 6) (by decide)) ?_
        refine pv_g (mv_li (k := 6) (by decide) rfl) (fun t4 => ?_)
        refine pv_k _ mv_cm ?_
        refine pv_b (kp_pm_post (5 : Int32) (((4 : Int32) * v2) + t4) v3 v1 (0 : Int32) (0 : Int32)) (fun _ => ?_)
        exact pv_r
/-! passes -/
set_option maxHeartbeats 4000000 in
theorem kp_pm_passes_b29 {m0 : Nat} {am : Nat → Nat} {gl : gl_T} : pv_ m0 am (mm_passes_b29 gl ) (pm_passes_b29 ) := by
  unfold mm_passes_b29 pm_passes_b29
  exact pv_r
set_option maxHeartbeats 4000000 in
theorem kp_pm_passes {m0 : Nat} {am : Nat → Nat} {gl : gl_T} (v1 : Int32) (v2 : Int32) : pv_ m0 am (mm_passes gl (some m0) v1 v2) (pm_passes v1 v2) := by
  unfold mm_passes pm_passes
  refine pv_if ?_ ?_
  · exact kp_pm_passes_b29
  · refine pv_k _ (mv_gq (k := 6) (by decide)) ?_
    refine pv_g (mv_li (k := 6) (by decide) rfl) (fun t1 => ?_)
    refine pv_if ?_ ?_
    · refine pv_k _ (mv_gq (k := 8) (by decide)) ?_
      refine pv_g (mv_li (k := 8) (by decide) rfl) (fun t2 => ?_)
      refine pv_if ?_ ?_
      · exact kp_pm_passes_b29
      · exact pv_r
    · exact kp_pm_passes_b29
/-! waits -/
set_option maxHeartbeats 4000000 in
theorem kp_pm_waits_b29 {m0 : Nat} {am : Nat → Nat} {gl : gl_T} {sec4 : Option Nat × Int32 × Int32 × Int32 → st_M Int32} {rec4 : Int32 × Int32 × Int32 → pm_M Int32} (hr4 : ∀ x, pv_ m0 am (sec4 ((fun x : Int32 × Int32 × Int32 => (((some m0), x.1, x.2.1, x.2.2) : Option Nat × Int32 × Int32 × Int32)) x)) (rec4 x)) (p1 : Int32) (p3 : Int32) (q0 : Int32) : pv_ m0 am (mm_waits_b29 gl sec4 (some m0) p1 p3 q0) (pm_waits_b29 rec4 p1 p3 q0) := by
  unfold mm_waits_b29 pm_waits_b29
  exact hr4 (p1, q0, (p3 + (1 : Int32)))
set_option maxHeartbeats 4000000 in
theorem kp_pm_waits_b4 {m0 : Nat} {am : Nat → Nat} {gl : gl_T} : ∀ x : Int32 × Int32 × Int32, pv_ m0 am (st_it (fun rec4 => (fun x : Option Nat × Int32 × Int32 × Int32 => mm_waits_b4 gl rec4 x.1 x.2.1 x.2.2.1 x.2.2.2)) fu_ ((fun x : Int32 × Int32 × Int32 => (((some m0), x.1, x.2.1, x.2.2) : Option Nat × Int32 × Int32 × Int32)) x)) (pt_ (fun rec4 => (fun x : Int32 × Int32 × Int32 => pm_waits_b4 rec4 x.1 x.2.1 x.2.2)) fu_ x) := by
  refine pv_it (fun x : Int32 × Int32 × Int32 => (((some m0), x.1, x.2.1, x.2.2) : Option Nat × Int32 × Int32 × Int32)) ?_ fu_
  intro sec4 rec4 hr4 x
  obtain ⟨p1, p2, p3⟩ := x
  show pv_ m0 am (mm_waits_b4 gl sec4 (some m0) p1 p2 p3) (pm_waits_b4 rec4 p1 p2 p3)
  unfold mm_waits_b4 pm_waits_b4
  refine pv_g (mv_gi (k := 18) (by decide) (by decide)) (fun t1 => ?_)
  refine pv_if ?_ ?_
  · exact pv_r
  · refine pv_k _ (mv_gq (k := 19) (by decide)) ?_
    refine pv_g (mv_li (k := 19) (by decide) rfl) (fun t2 => ?_)
    refine pv_if ?_ ?_
    · exact kp_pm_waits_b29 hr4 p1 p3 (p2 + (1 : Int32))
    · exact kp_pm_waits_b29 hr4 p1 p3 p2
set_option maxHeartbeats 4000000 in
theorem kp_pm_waits {m0 : Nat} {am : Nat → Nat} {gl : gl_T} (v1 : Int32) : pv_ m0 am (mm_waits gl (some m0) v1) (pm_waits v1) := by
  unfold mm_waits pm_waits
  exact kp_pm_waits_b4 (v1, (0 : Int32), (0 : Int32))
/-! pack -/
set_option maxHeartbeats 4000000 in
theorem kp_pm_pack {m0 : Nat} {am : Nat → Nat} {gl : gl_T} (v1 : Int32) (v2 : Int32) (v3 : Int32) : pv_ m0 am (mm_pack gl (some m0) v1 v2 v3) (pm_pack v1 v2 v3) := by
  unfold mm_pack pm_pack
  refine pv_if ?_ ?_
  · exact pv_r
  · refine pv_k _ (mv_gq (k := 6) (by decide)) ?_
    refine pv_g (mv_li (k := 6) (by decide) rfl) (fun t1 => ?_)
    refine pv_if ?_ ?_
    · refine pv_k _ (mv_gq (k := 15) (by decide)) ?_
      refine pv_g (mv_li (k := 15) (by decide) rfl) (fun t2 => ?_)
      refine pv_w (mv_si (k := 15) (by decide) rfl) ?_
      exact pv_r
    · refine pv_if ?_ ?_
      · exact pv_r
      · refine pv_k _ mv_cm ?_
        refine pv_b (kp_pm_post (4 : Int32) (((4 : Int32) * v1) + t1) v3 v2 (0 : Int32) (0 : Int32)) (fun _ => ?_)
        exact pv_r
/-! rest -/
set_option maxHeartbeats 4000000 in
theorem kp_pm_rest {m0 : Nat} {am : Nat → Nat} {gl : gl_T} (v1 : Int32) (v2 : Int32) (v3 : Int32) (v4 : Int32) (v5 : Int32) : pv_ m0 am (mm_rest gl (some m0) v1 v2 v3 v4 v5) (pm_rest v1 v2 v3 v4 v5) := by
  unfold mm_rest pm_rest
  refine pv_k _ (mv_gq (k := 19) (by decide)) ?_
  refine pv_g (mv_gi (k := 18) (by decide) (by decide)) (fun t1 => ?_)
  refine pv_w (mv_si (k := 19) (by decide) rfl) ?_
  refine pv_k _ (mv_gq (k := 20) (by decide)) ?_
  refine pv_g (mv_gi (k := 18) (by decide) (by decide)) (fun t2 => ?_)
  refine pv_w (mv_si (k := 20) (by decide) rfl) ?_
  refine pv_k _ (mv_gq (k := 21) (by decide)) ?_
  refine pv_g (mv_gi (k := 18) (by decide) (by decide)) (fun t3 => ?_)
  refine pv_w (mv_si (k := 21) (by decide) rfl) ?_
  refine pv_k _ (mv_gq (k := 22) (by decide)) ?_
  refine pv_g (mv_gi (k := 18) (by decide) (by decide)) (fun t4 => ?_)
  refine pv_w (mv_si (k := 22) (by decide) rfl) ?_
  refine pv_k _ (mv_gq (k := 23) (by decide)) ?_
  refine pv_g (mv_gi (k := 18) (by decide) (by decide)) (fun t5 => ?_)
  refine pv_w (mv_si (k := 23) (by decide) rfl) ?_
  refine pv_g (mv_gi (k := 18) (by decide) (by decide)) (fun t6 => ?_)
  refine pv_w (mv_p (k := 18) (by decide) (by decide)) ?_
  exact pv_r
/-! go -/
set_option maxHeartbeats 4000000 in
theorem kp_pm_go_b102 {m0 : Nat} {am : Nat → Nat} {gl : gl_T} (q0 : Int32) : pv_ m0 am (mm_go_b102 gl q0 (some m0)) (pm_go_b102 q0) := by
  unfold mm_go_b102 pm_go_b102
  refine pv_w (mv_p (k := 30) (by decide) (by decide)) ?_
  exact pv_r
set_option maxHeartbeats 4000000 in
theorem kp_pm_go_b72 {m0 : Nat} {am : Nat → Nat} {gl : gl_T} (p5 : Int32) : pv_ m0 am (mm_go_b72 gl (some m0) p5) (pm_go_b72 p5) := by
  unfold mm_go_b72 pm_go_b72
  refine pv_k _ (mv_gq (k := 31) (by decide)) ?_
  refine pv_g (mv_gi (k := 30) (by decide) (by decide)) (fun t11 => ?_)
  refine pv_w (mv_si (k := 31) (by decide) rfl) ?_
  refine pv_if ?_ ?_
  · refine pv_g (mv_gi (k := 30) (by decide) (by decide)) (fun t12 => ?_)
    exact kp_pm_go_b102 t12
  · refine pv_g (mv_gi (k := 30) (by decide) (by decide)) (fun t13 => ?_)
    exact kp_pm_go_b102 (t13 + (1 : Int32))
set_option maxHeartbeats 4000000 in
theorem kp_pm_go_b173 {m0 : Nat} {am : Nat → Nat} {gl : gl_T} (p3 : Int32) (p4 : Int32) (p5 : Int32) (p6 : Int32) (q0 : Int32) : pv_ m0 am (mm_go_b173 gl p3 p4 p5 p6 q0 (some m0)) (pm_go_b173 p3 p4 p5 p6 q0) := by
  unfold mm_go_b173 pm_go_b173
  refine pv_k _ mv_cm ?_
  refine pv_b (kp_pm_rest q0 p6 p3 p4 p5) (fun _ => ?_)
  exact pv_r
set_option maxHeartbeats 4000000 in
theorem kp_pm_go_b108 {m0 : Nat} {am : Nat → Nat} {gl : gl_T} (p1 : Int32) (p3 : Int32) (p4 : Int32) (p5 : Int32) (p6 : Int32) : pv_ m0 am (mm_go_b108 gl (some m0) p1 p3 p4 p5 p6) (pm_go_b108 p1 p3 p4 p5 p6) := by
  unfold mm_go_b108 pm_go_b108
  refine pv_k _ (mv_gq (k := 6) (by decide)) ?_
  refine pv_g (mv_li (k := 6) (by decide) rfl) (fun t5 => ?_)
  refine pv_if ?_ ?_
  · refine pv_if ?_ ?_
    · exact kp_pm_go_b173 p3 p4 p5 p6 p1
    · exact kp_pm_go_b173 p3 p4 p5 p6 p6
  · refine pv_k _ (mv_gq (k := 6) (by decide)) ?_
    refine pv_g (mv_li (k := 6) (by decide) rfl) (fun t6 => ?_)
    refine pv_k _ mv_cm ?_
    refine pv_b (kp_pm_pack p1 t6 p4) (fun _ => ?_)
    refine pv_k _ (mv_gq (k := 6) (by decide)) ?_
    refine pv_g (mv_li (k := 6) (by decide) rfl) (fun t8 => ?_)
    refine pv_k _ mv_cm ?_
    refine pv_b (kp_pm_post (1 : Int32) (((4 : Int32) * p1) + t8) p6 p3 p4 p5) (fun _ => ?_)
    exact pv_r
set_option maxHeartbeats 4000000 in
theorem kp_pm_go_b38 {m0 : Nat} {am : Nat → Nat} {gl : gl_T} (p1 : Int32) (p3 : Int32) (p4 : Int32) (p5 : Int32) (p6 : Int32) : pv_ m0 am (mm_go_b38 gl (some m0) p1 p3 p4 p5 p6) (pm_go_b38 p1 p3 p4 p5 p6) := by
  unfold mm_go_b38 pm_go_b38
  refine pv_if ?_ ?_
  · exact kp_pm_go_b72 p5
  · refine pv_if ?_ ?_
    · exact kp_pm_go_b108 p1 p3 p4 p5 p6
    · refine pv_k _ (mv_gq (k := 6) (by decide)) ?_
      refine pv_g (mv_li (k := 6) (by decide) rfl) (fun t3 => ?_)
      refine pv_if ?_ ?_
      · refine pv_k _ mv_cm ?_
        refine pv_b (kp_pm_waits p6) (fun t4 => ?_)
        refine pv_if ?_ ?_
        · exact kp_pm_go_b108 p1 p3 p4 p5 p6
        · exact kp_pm_go_b72 p5
      · exact kp_pm_go_b108 p1 p3 p4 p5 p6
set_option maxHeartbeats 4000000 in
theorem kp_pm_go_b6 {m0 : Nat} {am : Nat → Nat} {gl : gl_T} : ∀ x : Int32 × Int32 × Int32 × Int32 × Int32 × Int32, pv_ m0 am (st_it (fun rec6 => (fun x : Option Nat × Int32 × Int32 × Int32 × Int32 × Int32 × Int32 => mm_go_b6 gl rec6 x.1 x.2.1 x.2.2.1 x.2.2.2.1 x.2.2.2.2.1 x.2.2.2.2.2.1 x.2.2.2.2.2.2)) fu_ ((fun x : Int32 × Int32 × Int32 × Int32 × Int32 × Int32 => (((some m0), x.1, x.2.1, x.2.2.1, x.2.2.2.1, x.2.2.2.2.1, x.2.2.2.2.2) : Option Nat × Int32 × Int32 × Int32 × Int32 × Int32 × Int32)) x)) (pt_ (fun rec6 => (fun x : Int32 × Int32 × Int32 × Int32 × Int32 × Int32 => pm_go_b6 rec6 x.1 x.2.1 x.2.2.1 x.2.2.2.1 x.2.2.2.2.1 x.2.2.2.2.2)) fu_ x) := by
  refine pv_it (fun x : Int32 × Int32 × Int32 × Int32 × Int32 × Int32 => (((some m0), x.1, x.2.1, x.2.2.1, x.2.2.2.1, x.2.2.2.2.1, x.2.2.2.2.2) : Option Nat × Int32 × Int32 × Int32 × Int32 × Int32 × Int32)) ?_ fu_
  intro sec6 rec6 hr6 x
  obtain ⟨p1, p3, p4, p5, p6, p7⟩ := x
  show pv_ m0 am (mm_go_b6 gl sec6 (some m0) p1 p3 p4 p5 p6 p7) (pm_go_b6 rec6 p1 p3 p4 p5 p6 p7)
  unfold mm_go_b6 pm_go_b6
  refine pv_if ?_ ?_
  · exact kp_pm_go_b38 p1 p3 p4 p5 p6
  · refine pv_k _ mv_cm ?_
    refine pv_b (kp_pm_passes p1 p6) (fun t1 => ?_)
    refine pv_if ?_ ?_
    · exact kp_pm_go_b38 p1 p3 p4 p5 p6
    · refine pv_k _ (mv_gq (k := 9) (by decide)) ?_
      refine pv_g (mv_li (k := 9) (by decide) rfl) (fun t2 => ?_)
      exact hr6 (p1, p3, p4, p5, t2, (p7 + (1 : Int32)))
set_option maxHeartbeats 4000000 in
theorem kp_pm_go {m0 : Nat} {am : Nat → Nat} {gl : gl_T} (v1 : Int32) (v2 : Int32) (v3 : Int32) (v4 : Int32) (v5 : Int32) : pv_ m0 am (mm_go gl (some m0) v1 v2 v3 v4 v5) (pm_go v1 v2 v3 v4 v5) := by
  unfold mm_go pm_go
  exact kp_pm_go_b6 (v1, v3, v4, v5, v2, (0 : Int32))
/-! unrest -/
set_option maxHeartbeats 4000000 in
theorem kp_pm_unrest_b12 {m0 : Nat} {am : Nat → Nat} {gl : gl_T} : ∀ x : Int32, pv_ m0 am (st_it (fun rec12 => (fun x : Option Nat × Int32 => mm_unrest_b12 gl rec12 x.1 x.2)) fu_ ((fun x : Int32 => (((some m0), x) : Option Nat × Int32)) x)) (pt_ (fun rec12 => (fun x : Int32 => pm_unrest_b12 rec12 x)) fu_ x) := by
  refine pv_it (fun x : Int32 => (((some m0), x) : Option Nat × Int32)) ?_ fu_
  intro sec12 rec12 hr12 x
  have hx : ∃ z, z = x := ⟨_, rfl⟩; obtain ⟨p2, rfl⟩ := hx
  show pv_ m0 am (mm_unrest_b12 gl sec12 (some m0) p2) (pm_unrest_b12 rec12 p2)
  unfold mm_unrest_b12 pm_unrest_b12
  refine pv_g (mv_gi (k := 18) (by decide) (by decide)) (fun t2 => ?_)
  refine pv_if ?_ ?_
  · exact pv_r
  · refine pv_k _ (mv_gq (k := 19) (by decide)) ?_
    refine pv_k _ (mv_gq (k := 19) (by decide)) ?_
    refine pv_g (mv_li (k := 19) (by decide) rfl) (fun t3 => ?_)
    refine pv_w (mv_si (k := 19) (by decide) rfl) ?_
    refine pv_k _ (mv_gq (k := 20) (by decide)) ?_
    refine pv_k _ (mv_gq (k := 20) (by decide)) ?_
    refine pv_g (mv_li (k := 20) (by decide) rfl) (fun t4 => ?_)
    refine pv_w (mv_si (k := 20) (by decide) rfl) ?_
    refine pv_k _ (mv_gq (k := 21) (by decide)) ?_
    refine pv_k _ (mv_gq (k := 21) (by decide)) ?_
    refine pv_g (mv_li (k := 21) (by decide) rfl) (fun t5 => ?_)
    refine pv_w (mv_si (k := 21) (by decide) rfl) ?_
    refine pv_k _ (mv_gq (k := 22) (by decide)) ?_
    refine pv_k _ (mv_gq (k := 22) (by decide)) ?_
    refine pv_g (mv_li (k := 22) (by decide) rfl) (fun t6 => ?_)
    refine pv_w (mv_si (k := 22) (by decide) rfl) ?_
    refine pv_k _ (mv_gq (k := 23) (by decide)) ?_
    refine pv_k _ (mv_gq (k := 23) (by decide)) ?_
    refine pv_g (mv_li (k := 23) (by decide) rfl) (fun t7 => ?_)
    refine pv_w (mv_si (k := 23) (by decide) rfl) ?_
    exact hr12 (p2 + (1 : Int32))
set_option maxHeartbeats 4000000 in
theorem kp_pm_unrest {m0 : Nat} {am : Nat → Nat} {gl : gl_T} (v1 : Int32) : pv_ m0 am (mm_unrest gl (some m0) v1) (pm_unrest v1) := by
  unfold mm_unrest pm_unrest
  refine pv_g (mv_gi (k := 18) (by decide) (by decide)) (fun t1 => ?_)
  refine pv_w (mv_p (k := 18) (by decide) (by decide)) ?_
  exact kp_pm_unrest_b12 v1
/-! settle -/
set_option maxHeartbeats 4000000 in
theorem kp_pm_settle_b137 {m0 : Nat} {am : Nat → Nat} {gl : gl_T} : ∀ x : Int32 × Int32 × Int32, pv_ m0 am (st_it (fun rec137 => (fun x : Option Nat × Int32 × Int32 × Int32 => mm_settle_b137 gl rec137 x.1 x.2.1 x.2.2.1 x.2.2.2)) fu_ ((fun x : Int32 × Int32 × Int32 => (((some m0), x.1, x.2.1, x.2.2) : Option Nat × Int32 × Int32 × Int32)) x)) (pt_ (fun rec137 => (fun x : Int32 × Int32 × Int32 => pm_settle_b137 rec137 x.1 x.2.1 x.2.2)) fu_ x) := by
  refine pv_it (fun x : Int32 × Int32 × Int32 => (((some m0), x.1, x.2.1, x.2.2) : Option Nat × Int32 × Int32 × Int32)) ?_ fu_
  intro sec137 rec137 hr137 x
  obtain ⟨p1, p2, p5⟩ := x
  show pv_ m0 am (mm_settle_b137 gl sec137 (some m0) p1 p2 p5) (pm_settle_b137 rec137 p1 p2 p5)
  unfold mm_settle_b137 pm_settle_b137
  refine pv_g (mv_gi (k := 18) (by decide) (by decide)) (fun t10 => ?_)
  refine pv_if ?_ ?_
  · exact pv_r
  · refine pv_k _ (mv_gq (k := 19) (by decide)) ?_
    refine pv_g (mv_li (k := 19) (by decide) rfl) (fun t11 => ?_)
    refine pv_if ?_ ?_
    · refine pv_k _ (mv_gq (k := 21) (by decide)) ?_
      refine pv_g (mv_li (k := 21) (by decide) rfl) (fun t12 => ?_)
      refine pv_k _ (mv_gq (k := 22) (by decide)) ?_
      refine pv_g (mv_li (k := 22) (by decide) rfl) (fun t13 => ?_)
      refine pv_k _ (mv_gq (k := 23) (by decide)) ?_
      refine pv_g (mv_li (k := 23) (by decide) rfl) (fun t14 => ?_)
      refine pv_k _ mv_cm ?_
      refine pv_b (kp_pm_unrest p5) (fun _ => ?_)
      refine pv_k _ (mv_gq (k := 9) (by decide)) ?_
      refine pv_g (mv_li (k := 9) (by decide) rfl) (fun t16 => ?_)
      refine pv_k _ mv_cm ?_
      refine pv_b (kp_pm_go p1 t16 t12 t13 t14) (fun _ => ?_)
      exact hr137 (p1, p2, p5)
    · exact hr137 (p1, p2, (p5 + (1 : Int32)))
set_option maxHeartbeats 4000000 in
theorem kp_pm_settle_b133 {m0 : Nat} {am : Nat → Nat} {gl : gl_T} (p1 : Int32) (p2 : Int32) (q0 : Int32) (q1 : Int32) : pv_ m0 am (mm_settle_b133 gl (some m0) p1 p2 q0 q1 (some (am 9))) (pm_settle_b133 p1 p2 q0 q1) := by
  unfold mm_settle_b133 pm_settle_b133
  refine pv_w (mv_si (k := 9) (by decide) rfl) ?_
  exact kp_pm_settle_b137 (p1, p2, (0 : Int32))
set_option maxHeartbeats 4000000 in
theorem kp_pm_settle_b110 {m0 : Nat} {am : Nat → Nat} {gl : gl_T} (p1 : Int32) (p2 : Int32) (p3 : Int32) (p4 : Int32) : pv_ m0 am (mm_settle_b110 gl (some m0) p1 p2 p3 p4) (pm_settle_b110 p1 p2 p3 p4) := by
  unfold mm_settle_b110 pm_settle_b110
  refine pv_k _ (mv_gq (k := 8) (by decide)) ?_
  refine pv_g mv_z (fun _ => ?_)
  refine pv_w (mv_si (k := 8) (by decide) rfl) ?_
  refine pv_k _ (mv_gq (k := 9) (by decide)) ?_
  refine pv_if ?_ ?_
  · exact kp_pm_settle_b133 p1 p2 (0 : Int32) p2
  · exact kp_pm_settle_b133 p1 p2 p3 p2
set_option maxHeartbeats 4000000 in
theorem kp_pm_settle_b72 {m0 : Nat} {am : Nat → Nat} {gl : gl_T} : ∀ x : Int32 × Int32 × Int32 × Int32 × Int32, pv_ m0 am (st_it (fun rec72 => (fun x : Option Nat × Int32 × Int32 × Int32 × Int32 × Int32 => mm_settle_b72 gl rec72 x.1 x.2.1 x.2.2.1 x.2.2.2.1 x.2.2.2.2.1 x.2.2.2.2.2)) fu_ ((fun x : Int32 × Int32 × Int32 × Int32 × Int32 => (((some m0), x.1, x.2.1, x.2.2.1, x.2.2.2.1, x.2.2.2.2) : Option Nat × Int32 × Int32 × Int32 × Int32 × Int32)) x)) (pt_ (fun rec72 => (fun x : Int32 × Int32 × Int32 × Int32 × Int32 => pm_settle_b72 rec72 x.1 x.2.1 x.2.2.1 x.2.2.2.1 x.2.2.2.2)) fu_ x) := by
  refine pv_it (fun x : Int32 × Int32 × Int32 × Int32 × Int32 => (((some m0), x.1, x.2.1, x.2.2.1, x.2.2.2.1, x.2.2.2.2) : Option Nat × Int32 × Int32 × Int32 × Int32 × Int32)) ?_ fu_
  intro sec72 rec72 hr72 x
  obtain ⟨p1, p2, p3, p4, p5⟩ := x
  show pv_ m0 am (mm_settle_b72 gl sec72 (some m0) p1 p2 p3 p4 p5) (pm_settle_b72 rec72 p1 p2 p3 p4 p5)
  unfold mm_settle_b72 pm_settle_b72
  refine pv_if ?_ ?_
  · exact kp_pm_settle_b110 p1 p2 p3 p4
  · refine pv_if ?_ ?_
    · exact kp_pm_settle_b110 p1 p2 p3 p4
    · refine pv_k _ mv_cm ?_
      refine pv_b (kp_pm_passes p1 p4) (fun t8 => ?_)
      refine pv_if ?_ ?_
      · exact kp_pm_settle_b110 p1 p2 p3 p4
      · refine pv_k _ (mv_gq (k := 9) (by decide)) ?_
        refine pv_g (mv_li (k := 9) (by decide) rfl) (fun t9 => ?_)
        exact hr72 (p1, p2, p3, t9, (p5 + (1 : Int32)))
set_option maxHeartbeats 4000000 in
theorem kp_pm_settle {m0 : Nat} {am : Nat → Nat} {gl : gl_T} (v1 : Int32) (v2 : Int32) (v3 : Int32) : pv_ m0 am (mm_settle gl (some m0) v1 v2 v3) (pm_settle v1 v2 v3) := by
  unfold mm_settle pm_settle
  refine pv_if ?_ ?_
  · exact pv_r
  · refine pv_k _ (mv_gq (k := 6) (by decide)) ?_
    refine pv_g (mv_li (k := 6) (by decide) rfl) (fun t1 => ?_)
    refine pv_if ?_ ?_
    · refine pv_k _ (mv_gq (k := 7) (by decide)) ?_
      refine pv_g (mv_li (k := 7) (by decide) rfl) (fun t2 => ?_)
      refine pv_if ?_ ?_
      · refine pv_k _ (mv_gq (k := 8) (by decide)) ?_
        refine pv_g (mv_li (k := 8) (by decide) rfl) (fun t3 => ?_)
        refine pv_if ?_ ?_
        · exact kp_pm_settle_b72 (v1, v2, v3, v3, (0 : Int32))
        · exact pv_r
      · exact pv_r
    · refine pv_k _ (mv_gq (k := 6) (by decide)) ?_
      refine pv_g (mv_li (k := 6) (by decide) rfl) (fun t4 => ?_)
      refine pv_k _ mv_cm ?_
      refine pv_b (kp_pm_pack v1 t4 v3) (fun _ => ?_)
      refine pv_k _ (mv_gq (k := 6) (by decide)) ?_
      refine pv_g (mv_li (k := 6) (by decide) rfl) (fun t6 => ?_)
      refine pv_k _ mv_cm ?_
      refine pv_b (kp_pm_post (2 : Int32) (((4 : Int32) * v1) + t6) v2 (0 : Int32) v3 (0 : Int32)) (fun _ => ?_)
      exact pv_r
/-! pair -/
set_option maxHeartbeats 4000000 in
theorem kp_pm_pair_b50 {m0 : Nat} {am : Nat → Nat} {gl : gl_T} (p2 : Int32) (p3 : Int32) (p4 : Int32) (p5 : Int32) (q0 : Int32) : pv_ m0 am (mm_pair_b50 gl (some m0) p2 p3 p4 p5 q0) (pm_pair_b50 p2 p3 p4 p5 q0) := by
  unfold mm_pair_b50 pm_pair_b50
  refine pv_k _ (mv_gq (k := 17) (by decide)) ?_
  refine pv_k _ (mv_gq (k := 17) (by decide)) ?_
  refine pv_g (mv_li (k := 17) (by decide) rfl) (fun t3 => ?_)
  refine pv_w (mv_si (k := 17) (by decide) rfl) ?_
  refine pv_if ?_ ?_
  · exact pv_r
  · refine pv_k _ (mv_gq (k := 15) (by decide)) ?_
    refine pv_g (mv_li (k := 15) (by decide) rfl) (fun t4 => ?_)
    refine pv_w (mv_si (k := 15) (by decide) rfl) ?_
    exact pv_r
set_option maxHeartbeats 4000000 in
theorem kp_pm_pair {m0 : Nat} {am : Nat → Nat} {gl : gl_T} (v1 : Int32) (v2 : Int32) (v3 : Int32) (v4 : Int32) : pv_ m0 am (mm_pair gl (some m0) v1 v2 v3 v4) (pm_pair v1 v2 v3 v4) := by
  unfold mm_pair pm_pair
  refine pv_if ?_ ?_
  · refine pv_k _ (mv_gq (k := 17) (by decide)) ?_
    refine pv_g (mv_li (k := 17) (by decide) rfl) (fun t1 => ?_)
    refine pv_if ?_ ?_
    · exact kp_pm_pair_b50 v2 v3 v4 ((((16 : Int32) * v3) + ((4 : Int32) * v1)) + v2) (0 : Int32)
    · exact kp_pm_pair_b50 v2 v3 v4 ((((16 : Int32) * v3) + ((4 : Int32) * v1)) + v2) (1 : Int32)
  · refine pv_k _ (mv_gq (k := 17) (by decide)) ?_
    refine pv_g (mv_li (k := 17) (by decide) rfl) (fun t2 => ?_)
    refine pv_if ?_ ?_
    · exact kp_pm_pair_b50 v2 v3 v4 ((((16 : Int32) * v3) + ((4 : Int32) * v1)) + v2) (0 : Int32)
    · exact kp_pm_pair_b50 v2 v3 v4 ((((16 : Int32) * v3) + ((4 : Int32) * v1)) + v2) (1 : Int32)
/-! mourn -/
set_option maxHeartbeats 4000000 in
theorem kp_pm_mourn_b2 {m0 : Nat} {am : Nat → Nat} {gl : gl_T} : ∀ x : Int32 × Int32, pv_ m0 am (st_it (fun rec2 => (fun x : Option Nat × Int32 × Int32 => mm_mourn_b2 gl rec2 x.1 x.2.1 x.2.2)) fu_ ((fun x : Int32 × Int32 => (((some m0), x.1, x.2) : Option Nat × Int32 × Int32)) x)) (pt_ (fun rec2 => (fun x : Int32 × Int32 => pm_mourn_b2 rec2 x.1 x.2)) fu_ x) := by
  refine pv_it (fun x : Int32 × Int32 => (((some m0), x.1, x.2) : Option Nat × Int32 × Int32)) ?_ fu_
  intro sec2 rec2 hr2 x
  obtain ⟨p1, p2⟩ := x
  show pv_ m0 am (mm_mourn_b2 gl sec2 (some m0) p1 p2) (pm_mourn_b2 rec2 p1 p2)
  unfold mm_mourn_b2 pm_mourn_b2
  refine pv_g (mv_gi (k := 30) (by decide) (by decide)) (fun t1 => ?_)
  refine pv_if ?_ ?_
  · refine pv_w (mv_p (k := 30) (by decide) (by decide)) ?_
    exact pv_r
  · refine pv_k _ (mv_gq (k := 31) (by decide)) ?_
    refine pv_g (mv_li (k := 31) (by decide) rfl) (fun t2 => ?_)
    refine pv_k _ mv_cm ?_
    refine pv_b (kp_pm_settle p1 t2 (0 : Int32)) (fun _ => ?_)
    exact hr2 (p1, (p2 + (1 : Int32)))
set_option maxHeartbeats 4000000 in
theorem kp_pm_mourn {m0 : Nat} {am : Nat → Nat} {gl : gl_T} (v1 : Int32) : pv_ m0 am (mm_mourn gl (some m0) v1) (pm_mourn v1) := by
  unfold mm_mourn pm_mourn
  exact kp_pm_mourn_b2 (v1, (0 : Int32))
/-! deliver -/
set_option maxHeartbeats 4000000 in
theorem kp_pm_deliver_b21 {m0 : Nat} {am : Nat → Nat} {gl : gl_T} : pv_ m0 am (mm_deliver_b21 gl ) (pm_deliver_b21 ) := by
  unfold mm_deliver_b21 pm_deliver_b21
  exact pv_r
set_option maxHeartbeats 4000000 in
theorem kp_pm_deliver_b183 {m0 : Nat} {am : Nat → Nat} {gl : gl_T} (p2 : Int32) (p4 : Int32) : pv_ m0 am (mm_deliver_b183 gl (some m0) p2 p4) (pm_deliver_b183 p2 p4) := by
  unfold mm_deliver_b183 pm_deliver_b183
  refine pv_k _ mv_cm ?_
  refine pv_b (kp_pm_mourn p2) (fun _ => ?_)
  exact pv_r
set_option maxHeartbeats 4000000 in
theorem kp_pm_deliver_b167 {m0 : Nat} {am : Nat → Nat} {gl : gl_T} (p1 : Int32) (p2 : Int32) (p4 : Int32) (p5 : Int32) (p6 : Int32) : pv_ m0 am (mm_deliver_b167 gl (some m0) p1 p2 p4 p5 p6) (pm_deliver_b167 p1 p2 p4 p5 p6) := by
  unfold mm_deliver_b167 pm_deliver_b167
  refine pv_if ?_ ?_
  · refine pv_k _ mv_cm ?_
    refine pv_b (kp_pm_pair p6 p1 p5 (-1 : Int32)) (fun _ => ?_)
    exact kp_pm_deliver_b183 p2 p4
  · exact kp_pm_deliver_b183 p2 p4
set_option maxHeartbeats 4000000 in
theorem kp_pm_deliver_b151 {m0 : Nat} {am : Nat → Nat} {gl : gl_T} (p1 : Int32) (p2 : Int32) (p4 : Int32) (p5 : Int32) (p6 : Int32) : pv_ m0 am (mm_deliver_b151 gl (some m0) p1 p2 p4 p5 p6) (pm_deliver_b151 p1 p2 p4 p5 p6) := by
  unfold mm_deliver_b151 pm_deliver_b151
  refine pv_if ?_ ?_
  · refine pv_k _ mv_cm ?_
    refine pv_b (kp_pm_pair p1 p6 p5 (1 : Int32)) (fun _ => ?_)
    exact kp_pm_deliver_b167 p1 p2 p4 p5 p6
  · exact kp_pm_deliver_b167 p1 p2 p4 p5 p6
set_option maxHeartbeats 4000000 in
theorem kp_pm_deliver_b129 {m0 : Nat} {am : Nat → Nat} {gl : gl_T} (p1 : Int32) (p2 : Int32) (p4 : Int32) (p5 : Int32) (p6 : Int32) : pv_ m0 am (mm_deliver_b129 gl (some m0) p1 p2 p4 p5 p6) (pm_deliver_b129 p1 p2 p4 p5 p6) := by
  unfold mm_deliver_b129 pm_deliver_b129
  refine pv_if ?_ ?_
  · refine pv_k _ (mv_gq (k := 15) (by decide)) ?_
    refine pv_g (mv_li (k := 15) (by decide) rfl) (fun t13 => ?_)
    refine pv_w (mv_si (k := 15) (by decide) rfl) ?_
    exact kp_pm_deliver_b151 p1 p2 p4 p5 p6
  · exact kp_pm_deliver_b151 p1 p2 p4 p5 p6
set_option maxHeartbeats 4000000 in
theorem kp_pm_deliver_b114 {m0 : Nat} {am : Nat → Nat} {gl : gl_T} (p1 : Int32) (p2 : Int32) (p4 : Int32) (p5 : Int32) (p6 : Int32) (p7 : Int32) : pv_ m0 am (mm_deliver_b114 gl (some m0) p1 p2 p4 p5 p6 p7) (pm_deliver_b114 p1 p2 p4 p5 p6 p7) := by
  unfold mm_deliver_b114 pm_deliver_b114
  refine pv_if ?_ ?_
  · refine pv_k _ mv_cm ?_
    refine pv_b (kp_pm_settle p2 p5 p7) (fun _ => ?_)
    exact kp_pm_deliver_b129 p1 p2 p4 p5 p6
  · exact kp_pm_deliver_b129 p1 p2 p4 p5 p6
set_option maxHeartbeats 4000000 in
theorem kp_pm_deliver {m0 : Nat} {am : Nat → Nat} {gl : gl_T} (v1 : Int32) (v2 : Int32) : pv_ m0 am (mm_deliver gl (some m0) v1 v2) (pm_deliver v1 v2) := by
  unfold mm_deliver pm_deliver
  refine pv_k _ mv_cm ?_
  refine pv_b (kp_pm_vat v1) (fun t1 => ?_)
  refine pv_if ?_ ?_
  · exact kp_pm_deliver_b21
  · refine pv_k _ mv_cm ?_
    refine pv_b (kp_pm_vat v2) (fun t2 => ?_)
    refine pv_if ?_ ?_
    · exact kp_pm_deliver_b21
    · refine pv_if ?_ ?_
      · exact kp_pm_deliver_b21
      · refine pv_k _ mv_cm ?_
        refine pv_b (kp_pm_oldest (((4 : Int32) * v1) + v2)) (fun t3 => ?_)
        refine pv_if ?_ ?_
        · refine pv_k _ (mv_gq (k := 25) (by decide)) ?_
          refine pv_g (mv_li (k := 25) (by decide) rfl) (fun t4 => ?_)
          refine pv_k _ (mv_gq (k := 26) (by decide)) ?_
          refine pv_g (mv_li (k := 26) (by decide) rfl) (fun t5 => ?_)
          refine pv_k _ (mv_gq (k := 27) (by decide)) ?_
          refine pv_g (mv_li (k := 27) (by decide) rfl) (fun t6 => ?_)
          refine pv_k _ (mv_gq (k := 28) (by decide)) ?_
          refine pv_g (mv_li (k := 28) (by decide) rfl) (fun t7 => ?_)
          refine pv_k _ (mv_gq (k := 29) (by decide)) ?_
          refine pv_g (mv_li (k := 29) (by decide) rfl) (fun t8 => ?_)
          refine pv_k _ mv_cm ?_
          refine pv_b (kp_pm_unmail t3) (fun _ => ?_)
          refine pv_k _ mv_cm ?_
          refine pv_b (kp_pm_unpack v1 v2 t7) (fun _ => ?_)
          refine pv_if ?_ ?_
          · refine pv_k _ mv_cm ?_
            refine pv_b (kp_pm_go v2 t5 t6 t7 t8) (fun _ => ?_)
            exact kp_pm_deliver_b114 v1 v2 (t4 / (16 : Int32)) t5 t6 t7
          · exact kp_pm_deliver_b114 v1 v2 (t4 / (16 : Int32)) t5 t6 t7
        · exact pv_r
/-! give -/
set_option maxHeartbeats 4000000 in
theorem kp_pm_give_b25 {m0 : Nat} {am : Nat → Nat} {gl : gl_T} : pv_ m0 am (mm_give_b25 gl ) (pm_give_b25 ) := by
  unfold mm_give_b25 pm_give_b25
  exact pv_r
set_option maxHeartbeats 4000000 in
theorem kp_pm_give_b79 {m0 : Nat} {am : Nat → Nat} {gl : gl_T} : pv_ m0 am (mm_give_b79 gl ) (pm_give_b79 ) := by
  unfold mm_give_b79 pm_give_b79
  exact pv_r
set_option maxHeartbeats 4000000 in
theorem kp_pm_give {m0 : Nat} {am : Nat → Nat} {gl : gl_T} (v1 : Int32) (v2 : Int32) (v3 : Int32) : pv_ m0 am (mm_give gl (some m0) v1 v2 v3) (pm_give v1 v2 v3) := by
  unfold mm_give pm_give
  refine pv_k _ mv_cm ?_
  refine pv_b (kp_pm_vat v1) (fun t1 => ?_)
  refine pv_if ?_ ?_
  · exact kp_pm_give_b25
  · refine pv_k _ mv_cm ?_
    refine pv_b (kp_pm_vat v3) (fun t2 => ?_)
    refine pv_if ?_ ?_
    · exact kp_pm_give_b25
    · refine pv_if ?_ ?_
      · exact kp_pm_give_b25
      · refine pv_if ?_ ?_
        · refine pv_k _ (mv_gq (k := 13) (by decide)) ?_
          refine pv_w (mv_si (k := 13) (by decide) rfl) ?_
          refine pv_if ?_ ?_
          · exact kp_pm_give_b79
          · refine pv_k _ (mv_gq (k := 15) (by decide)) ?_
            refine pv_g (mv_li (k := 15) (by decide) rfl) (fun t3 => ?_)
            refine pv_w (mv_si (k := 15) (by decide) rfl) ?_
            refine pv_k _ (mv_gq (k := 16) (by decide)) ?_
            refine pv_g (mv_li (k := 16) (by decide) rfl) (fun t4 => ?_)
            refine pv_w (mv_si (k := 16) (by decide) rfl) ?_
            exact kp_pm_give_b79 
        · exact kp_pm_give_b25
/-! inbox -/
set_option maxHeartbeats 4000000 in
theorem kp_pm_inbox_b37 {m0 : Nat} {am : Nat → Nat} {gl : gl_T} {sec4 : Option Nat × Int32 × Int32 × Int32 → st_M Int32} {rec4 : Int32 × Int32 × Int32 → pm_M Int32} (hr4 : ∀ x, pv_ m0 am (sec4 ((fun x : Int32 × Int32 × Int32 => (((some m0), x.1, x.2.1, x.2.2) : Option Nat × Int32 × Int32 × Int32)) x)) (rec4 x)) (p1 : Int32) (p3 : Int32) (q0 : Int32) : pv_ m0 am (mm_inbox_b37 gl sec4 (some m0) p1 p3 q0) (pm_inbox_b37 rec4 p1 p3 q0) := by
  unfold mm_inbox_b37 pm_inbox_b37
  exact hr4 (p1, q0, (p3 + (1 : Int32)))
set_option maxHeartbeats 4000000 in
theorem kp_pm_inbox_b44 {m0 : Nat} {am : Nat → Nat} {gl : gl_T} (p2 : Int32) : pv_ m0 am (mm_inbox_b44 gl p2) (pm_inbox_b44 p2) := by
  unfold mm_inbox_b44 pm_inbox_b44
  exact pv_r
set_option maxHeartbeats 4000000 in
theorem kp_pm_inbox_b4 {m0 : Nat} {am : Nat → Nat} {gl : gl_T} : ∀ x : Int32 × Int32 × Int32, pv_ m0 am (st_it (fun rec4 => (fun x : Option Nat × Int32 × Int32 × Int32 => mm_inbox_b4 gl rec4 x.1 x.2.1 x.2.2.1 x.2.2.2)) fu_ ((fun x : Int32 × Int32 × Int32 => (((some m0), x.1, x.2.1, x.2.2) : Option Nat × Int32 × Int32 × Int32)) x)) (pt_ (fun rec4 => (fun x : Int32 × Int32 × Int32 => pm_inbox_b4 rec4 x.1 x.2.1 x.2.2)) fu_ x) := by
  refine pv_it (fun x : Int32 × Int32 × Int32 => (((some m0), x.1, x.2.1, x.2.2) : Option Nat × Int32 × Int32 × Int32)) ?_ fu_
  intro sec4 rec4 hr4 x
  obtain ⟨p1, p2, p3⟩ := x
  show pv_ m0 am (mm_inbox_b4 gl sec4 (some m0) p1 p2 p3) (pm_inbox_b4 rec4 p1 p2 p3)
  unfold mm_inbox_b4 pm_inbox_b4
  refine pv_g (mv_gi (k := 18) (by decide) (by decide)) (fun t1 => ?_)
  refine pv_if ?_ ?_
  · exact kp_pm_inbox_b44 p2
  · refine pv_k _ mv_cm ?_
    refine pv_b (kp_pm_vat p1) (fun t2 => ?_)
    refine pv_if ?_ ?_
    · exact kp_pm_inbox_b44 p2
    · refine pv_k _ (mv_gq (k := 19) (by decide)) ?_
      refine pv_g (mv_li (k := 19) (by decide) rfl) (fun t3 => ?_)
      refine pv_if ?_ ?_
      · exact kp_pm_inbox_b37 hr4 p1 p3 (p2 + (1 : Int32))
      · exact kp_pm_inbox_b37 hr4 p1 p3 p2
set_option maxHeartbeats 4000000 in
theorem kp_pm_inbox {m0 : Nat} {am : Nat → Nat} {gl : gl_T} (v1 : Int32) : pv_ m0 am (mm_inbox gl (some m0) v1) (pm_inbox v1) := by
  unfold mm_inbox pm_inbox
  exact kp_pm_inbox_b4 (v1, (0 : Int32), (0 : Int32))
/-! poke -/
set_option maxHeartbeats 4000000 in
theorem kp_pm_poke_b18 {m0 : Nat} {am : Nat → Nat} {gl : gl_T} : pv_ m0 am (mm_poke_b18 gl ) (pm_poke_b18 ) := by
  unfold mm_poke_b18 pm_poke_b18
  exact pv_r
set_option maxHeartbeats 4000000 in
theorem kp_pm_poke {m0 : Nat} {am : Nat → Nat} {gl : gl_T} (v1 : Int32) (v2 : Int32) : pv_ m0 am (mm_poke gl (some m0) v1 v2) (pm_poke v1 v2) := by
  unfold mm_poke pm_poke
  refine pv_k _ mv_cm ?_
  refine pv_b (kp_pm_vat v1) (fun t1 => ?_)
  refine pv_if ?_ ?_
  · exact kp_pm_poke_b18
  · refine pv_k _ mv_cm ?_
    refine pv_b (kp_pm_inbox v1) (fun t2 => ?_)
    refine pv_if ?_ ?_
    · refine pv_k _ mv_cm ?_
      refine pv_b (kp_pm_rest v1 (v1 + (1 : Int32)) v2 (0 : Int32) (0 : Int32)) (fun _ => ?_)
      exact pv_r
    · exact kp_pm_poke_b18
/-! fresh -/
set_option maxHeartbeats 4000000 in
theorem kp_pm_fresh {m0 : Nat} {am : Nat → Nat} {gl : gl_T} (v1 : Int32) (v2 : Int32) : pv_ m0 am (mm_fresh gl (some m0) v1 v2) (pm_fresh v1 v2) := by
  unfold mm_fresh pm_fresh
  refine pv_g (mv_gi (k := 1) (by decide) (by decide)) (fun t1 => ?_)
  refine pv_if ?_ ?_
  · refine pv_g (mv_gi (k := 1) (by decide) (by decide)) (fun t2 => ?_)
    refine pv_w (mv_p (k := 1) (by decide) (by decide)) ?_
    refine pv_k _ (mv_gq (k := 6) (by decide)) ?_
    refine pv_g (mv_gi (k := 1) (by decide) (by decide)) (fun t3 => ?_)
    refine pv_w (mv_si (k := 6) (by decide) rfl) ?_
    refine pv_k _ (mv_gq (k := 11) (by decide)) ?_
    refine pv_g (mv_gi (k := 1) (by decide) (by decide)) (fun t4 => ?_)
    refine pv_w (mv_si (k := 11) (by decide) rfl) ?_
    refine pv_k _ (mv_gq (k := 12) (by decide)) ?_
    refine pv_g (mv_gi (k := 1) (by decide) (by decide)) (fun t5 => ?_)
    refine pv_g (mv_gi (k := 34) (by decide) (by decide)) (fun t6 => ?_)
    refine pv_w (mv_si (k := 12) (by decide) rfl) ?_
    refine pv_k _ (mv_gq (k := 13) (by decide)) ?_
    refine pv_g (mv_gi (k := 1) (by decide) (by decide)) (fun t7 => ?_)
    refine pv_g (mv_gi (k := 35) (by decide) (by decide)) (fun t8 => ?_)
    refine pv_w (mv_si (k := 13) (by decide) rfl) ?_
    refine pv_g (mv_gi (k := 1) (by decide) (by decide)) (fun t9 => ?_)
    exact pv_r
  · exact pv_r
/-! send -/
set_option maxHeartbeats 4000000 in
theorem kp_pm_send_b13 {m0 : Nat} {am : Nat → Nat} {gl : gl_T} : pv_ m0 am (mm_send_b13 gl ) (pm_send_b13 ) := by
  unfold mm_send_b13 pm_send_b13
  exact pv_r
set_option maxHeartbeats 4000000 in
theorem kp_pm_send {m0 : Nat} {am : Nat → Nat} {gl : gl_T} (v1 : Int32) (v2 : Int32) : pv_ m0 am (mm_send gl (some m0) v1 v2) (pm_send v1 v2) := by
  unfold mm_send pm_send
  refine pv_if ?_ ?_
  · exact kp_pm_send_b13
  · refine pv_g (mv_gi (k := 2) (by decide) (by decide)) (fun t1 => ?_)
    refine pv_if ?_ ?_
    · refine pv_g (mv_gi (k := 2) (by decide) (by decide)) (fun t2 => ?_)
      refine pv_w (mv_p (k := 2) (by decide) (by decide)) ?_
      refine pv_g (mv_gi (k := 2) (by decide) (by decide)) (fun t3 => ?_)
      refine pv_k _ (mv_gq (k := 6) (by decide)) ?_
      refine pv_g (mv_li (k := 6) (by decide) rfl) (fun t4 => ?_)
      refine pv_k _ (mv_gq (k := 6) (by decide)) ?_
      refine pv_w (mv_si (k := 6) (by decide) rfl) ?_
      refine pv_if ?_ ?_
      · refine pv_g (mv_gi (k := 34) (by decide) (by decide)) (fun t5 => ?_)
        refine pv_g (mv_gi (k := 35) (by decide) (by decide)) (fun t6 => ?_)
        refine pv_k _ mv_cm ?_
        refine pv_b (kp_pm_go v1 v2 t5 t6 ((100 : Int32) + t3)) (fun _ => ?_)
        refine pv_k _ mv_cm ?_
        refine pv_b (kp_pm_mourn v1) (fun _ => ?_)
        exact pv_r
      · refine pv_g (mv_gi (k := 35) (by decide) (by decide)) (fun t9 => ?_)
        refine pv_k _ mv_cm ?_
        refine pv_b (kp_pm_pack v1 t4 t9) (fun _ => ?_)
        refine pv_g (mv_gi (k := 34) (by decide) (by decide)) (fun t11 => ?_)
        refine pv_g (mv_gi (k := 35) (by decide) (by decide)) (fun t12 => ?_)
        refine pv_k _ mv_cm ?_
        refine pv_b (kp_pm_post (1 : Int32) (((4 : Int32) * v1) + t4) v2 t11 t12 ((100 : Int32) + t3)) (fun _ => ?_)
        refine pv_k _ (mv_gq (k := 15) (by decide)) ?_
        refine pv_w (mv_si (k := 15) (by decide) rfl) ?_
        refine pv_k _ (mv_gq (k := 16) (by decide)) ?_
        refine pv_w (mv_si (k := 16) (by decide) rfl) ?_
        exact pv_r
    · exact kp_pm_send_b13
/-! put -/
set_option maxHeartbeats 4000000 in
theorem kp_pm_put {m0 : Nat} {am : Nat → Nat} {gl : gl_T} (v1 : Int32) : pv_ m0 am (mm_put gl (some m0) v1) (pm_put v1) := by
  unfold mm_put pm_put
  refine pv_k _ (mv_gq (k := 33) (by decide)) ?_
  refine pv_k _ (mv_gq (k := 32) (by decide)) ?_
  refine pv_g (mv_li (k := 32) (by decide) rfl) (fun t1 => ?_)
  refine pv_g (mv_gi (k := 34) (by decide) (by decide)) (fun t2 => ?_)
  refine pv_w (mv_si (k := 33) (by decide) rfl) ?_
  refine pv_k _ (mv_gq (k := 32) (by decide)) ?_
  refine pv_g (mv_li (k := 32) (by decide) rfl) (fun t3 => ?_)
  refine pv_w (mv_si (k := 32) (by decide) rfl) ?_
  exact pv_r
/-! act -/
set_option maxHeartbeats 4000000 in
theorem kp_pm_act_b204 {m0 : Nat} {am : Nat → Nat} {gl : gl_T} : pv_ m0 am (mm_act_b204 gl ) (pm_act_b204 ) := by
  unfold mm_act_b204 pm_act_b204
  exact pv_r
set_option maxHeartbeats 4000000 in
theorem kp_pm_act {m0 : Nat} {am : Nat → Nat} {gl : gl_T} (v1 : Int32) (v2 : Int32) (v3 : Int32) (v4 : Int32) : pv_ m0 am (mm_act gl (some m0) v1 v2 v3 v4) (pm_act v1 v2 v3 v4) := by
  unfold mm_act pm_act
  refine pv_if ?_ ?_
  · refine pv_w (mv_p (k := 34) (by decide) (by decide)) ?_
    exact kp_pm_act_b204 
  · refine pv_if ?_ ?_
    · refine pv_g (mv_gi (k := 34) (by decide) (by decide)) (fun t1 => ?_)
      refine pv_k _ (mv_gq (k := 12) (by decide)) ?_
      refine pv_g (mv_li (k := 12) (by decide) rfl) (fun t2 => ?_)
      refine pv_w (mv_p (k := 34) (by decide) (by decide)) ?_
      exact kp_pm_act_b204 
    · refine pv_if ?_ ?_
      · refine pv_k _ (mv_gq (k := 12) (by decide)) ?_
        refine pv_g (mv_gi (k := 34) (by decide) (by decide)) (fun t3 => ?_)
        refine pv_w (mv_si (k := 12) (by decide) rfl) ?_
        exact kp_pm_act_b204 
      · refine pv_if ?_ ?_
        · refine pv_k _ (mv_gq (k := 13) (by decide)) ?_
          refine pv_g (mv_gi (k := 35) (by decide) (by decide)) (fun t4 => ?_)
          refine pv_w (mv_si (k := 13) (by decide) rfl) ?_
          exact kp_pm_act_b204 
        · refine pv_if ?_ ?_
          · refine pv_k _ (mv_gq (k := 13) (by decide)) ?_
            refine pv_g (mv_li (k := 13) (by decide) rfl) (fun t5 => ?_)
            refine pv_w (mv_p (k := 35) (by decide) (by decide)) ?_
            exact kp_pm_act_b204 
          · refine pv_if ?_ ?_
            · refine pv_w (mv_p (k := 35) (by decide) (by decide)) ?_
              exact kp_pm_act_b204 
            · refine pv_if ?_ ?_
              · refine pv_k _ mv_cm ?_
                refine pv_b (kp_pm_fresh v1 v4) (fun t6 => ?_)
                refine pv_w (mv_p (k := 35) (by decide) (by decide)) ?_
                exact kp_pm_act_b204 
              · refine pv_if ?_ ?_
                · refine pv_k _ (mv_gq (k := 13) (by decide)) ?_
                  refine pv_g (mv_li (k := 13) (by decide) rfl) (fun t7 => ?_)
                  refine pv_k _ mv_cm ?_
                  refine pv_b (kp_pm_send v1 t7) (fun t8 => ?_)
                  refine pv_w (mv_p (k := 35) (by decide) (by decide)) ?_
                  exact kp_pm_act_b204 
                · refine pv_if ?_ ?_
                  · refine pv_g (mv_gi (k := 34) (by decide) (by decide)) (fun t9 => ?_)
                    refine pv_if ?_ ?_
                    · exact pv_r
                    · exact pv_r
                  · refine pv_if ?_ ?_
                    · refine pv_k _ mv_cm ?_
                      refine pv_b (kp_pm_put v1) (fun _ => ?_)
                      exact kp_pm_act_b204 
                    · refine pv_w (mv_p (k := 35) (by decide) (by decide)) ?_
                      exact kp_pm_act_b204 
/-! turn -/
set_option maxHeartbeats 4000000 in
theorem kp_pm_turn_b42 {m0 : Nat} {am : Nat → Nat} {gl : gl_T} : pv_ m0 am (mm_turn_b42 gl ) (pm_turn_b42 ) := by
  unfold mm_turn_b42 pm_turn_b42
  exact pv_r
set_option maxHeartbeats 4000000 in
theorem kp_pm_turn_b95 {m0 : Nat} {am : Nat → Nat} {gl : gl_T} : ∀ x : Int32 × Int32 × Int32 × Int32 × Int32, pv_ m0 am (st_it (fun rec95 => (fun x : Option Nat × Int32 × Int32 × Int32 × Int32 × Int32 => mm_turn_b95 gl rec95 x.1 x.2.1 x.2.2.1 x.2.2.2.1 x.2.2.2.2.1 x.2.2.2.2.2)) fu_ ((fun x : Int32 × Int32 × Int32 × Int32 × Int32 => (((some m0), x.1, x.2.1, x.2.2.1, x.2.2.2.1, x.2.2.2.2) : Option Nat × Int32 × Int32 × Int32 × Int32 × Int32)) x)) (pt_ (fun rec95 => (fun x : Int32 × Int32 × Int32 × Int32 × Int32 => pm_turn_b95 rec95 x.1 x.2.1 x.2.2.1 x.2.2.2.1 x.2.2.2.2)) fu_ x) := by
  refine pv_it (fun x : Int32 × Int32 × Int32 × Int32 × Int32 => (((some m0), x.1, x.2.1, x.2.2.1, x.2.2.2.1, x.2.2.2.2) : Option Nat × Int32 × Int32 × Int32 × Int32 × Int32)) ?_ fu_
  intro sec95 rec95 hr95 x
  obtain ⟨p1, p3, p4, p5, p6⟩ := x
  show pv_ m0 am (mm_turn_b95 gl sec95 (some m0) p1 p3 p4 p5 p6) (pm_turn_b95 rec95 p1 p3 p4 p5 p6)
  unfold mm_turn_b95 pm_turn_b95
  refine pv_k _ (mv_gq (k := 3) (by decide)) ?_
  refine pv_g (mv_li (k := 3) (by decide) rfl) (fun t11 => ?_)
  refine pv_if ?_ ?_
  · refine pv_g (mv_gi (k := 35) (by decide) (by decide)) (fun t12 => ?_)
    refine pv_k _ mv_cm ?_
    refine pv_b (kp_pm_settle p1 p4 t12) (fun _ => ?_)
    refine pv_k _ mv_cm ?_
    refine pv_b (kp_pm_mourn p1) (fun _ => ?_)
    exact pv_r
  · refine pv_k _ (mv_gq (k := 4) (by decide)) ?_
    refine pv_g (mv_li (k := 4) (by decide) rfl) (fun t15 => ?_)
    refine pv_k _ (mv_gq (k := 5) (by decide)) ?_
    refine pv_g (mv_li (k := 5) (by decide) rfl) (fun t16 => ?_)
    refine pv_k _ mv_cm ?_
    refine pv_b (kp_pm_act p1 p3 t15 t16) (fun t17 => ?_)
    exact hr95 (p1, p3, p4, p5, ((p6 + (1 : Int32)) + t17))
set_option maxHeartbeats 4000000 in
theorem kp_pm_turn_b26 {m0 : Nat} {am : Nat → Nat} {gl : gl_T} (p1 : Int32) (p2 : Int32) : pv_ m0 am (mm_turn_b26 gl (some m0) p1 p2) (pm_turn_b26 p1 p2) := by
  unfold mm_turn_b26 pm_turn_b26
  refine pv_k _ mv_cm ?_
  refine pv_b (kp_pm_vat p1) (fun t3 => ?_)
  refine pv_if ?_ ?_
  · exact kp_pm_turn_b42
  · refine pv_g (mv_gi (k := 18) (by decide) (by decide)) (fun t4 => ?_)
    refine pv_if ?_ ?_
    · refine pv_k _ (mv_gq (k := 20) (by decide)) ?_
      refine pv_g (mv_li (k := 20) (by decide) rfl) (fun t5 => ?_)
      refine pv_k _ (mv_gq (k := 21) (by decide)) ?_
      refine pv_g (mv_li (k := 21) (by decide) rfl) (fun t6 => ?_)
      refine pv_w (mv_p (k := 34) (by decide) (by decide)) ?_
      refine pv_k _ (mv_gq (k := 22) (by decide)) ?_
      refine pv_g (mv_li (k := 22) (by decide) rfl) (fun t7 => ?_)
      refine pv_w (mv_p (k := 35) (by decide) (by decide)) ?_
      refine pv_k _ (mv_gq (k := 23) (by decide)) ?_
      refine pv_g (mv_li (k := 23) (by decide) rfl) (fun t8 => ?_)
      refine pv_k _ mv_cm ?_
      refine pv_b (kp_pm_unrest p2) (fun _ => ?_)
      refine pv_k _ (mv_gq (k := 11) (by decide)) ?_
      refine pv_g (mv_li (k := 11) (by decide) rfl) (fun t10 => ?_)
      exact kp_pm_turn_b95 (p1, t5, t8, t10, (0 : Int32))
    · exact kp_pm_turn_b42
set_option maxHeartbeats 4000000 in
theorem kp_pm_turn_b2 {m0 : Nat} {am : Nat → Nat} {gl : gl_T} : ∀ x : Int32 × Int32, pv_ m0 am (st_it (fun rec2 => (fun x : Option Nat × Int32 × Int32 => mm_turn_b2 gl rec2 x.1 x.2.1 x.2.2)) fu_ ((fun x : Int32 × Int32 => (((some m0), x.1, x.2) : Option Nat × Int32 × Int32)) x)) (pt_ (fun rec2 => (fun x : Int32 × Int32 => pm_turn_b2 rec2 x.1 x.2)) fu_ x) := by
  refine pv_it (fun x : Int32 × Int32 => (((some m0), x.1, x.2) : Option Nat × Int32 × Int32)) ?_ fu_
  intro sec2 rec2 hr2 x
  obtain ⟨p1, p2⟩ := x
  show pv_ m0 am (mm_turn_b2 gl sec2 (some m0) p1 p2) (pm_turn_b2 rec2 p1 p2)
  unfold mm_turn_b2 pm_turn_b2
  refine pv_g (mv_gi (k := 18) (by decide) (by decide)) (fun t1 => ?_)
  refine pv_if ?_ ?_
  · exact kp_pm_turn_b26 p1 p2
  · refine pv_k _ (mv_gq (k := 19) (by decide)) ?_
    refine pv_g (mv_li (k := 19) (by decide) rfl) (fun t2 => ?_)
    refine pv_if ?_ ?_
    · exact kp_pm_turn_b26 p1 p2
    · exact hr2 (p1, (p2 + (1 : Int32)))
set_option maxHeartbeats 4000000 in
theorem kp_pm_turn {m0 : Nat} {am : Nat → Nat} {gl : gl_T} (v1 : Int32) : pv_ m0 am (mm_turn gl (some m0) v1) (pm_turn v1) := by
  unfold mm_turn pm_turn
  exact kp_pm_turn_b2 (v1, (0 : Int32))
/-! made -/
set_option maxHeartbeats 4000000 in
theorem kp_pm_made_b30 {m0 : Nat} {am : Nat → Nat} {gl : gl_T} : pv_ m0 am (mm_made_b30 gl ) (pm_made_b30 ) := by
  unfold mm_made_b30 pm_made_b30
  exact pv_r
set_option maxHeartbeats 4000000 in
theorem kp_pm_made_b34 {m0 : Nat} {am : Nat → Nat} {gl : gl_T} : pv_ m0 am (mm_made_b34 gl ) (pm_made_b34 ) := by
  unfold mm_made_b34 pm_made_b34
  exact pv_r
set_option maxHeartbeats 4000000 in
theorem kp_pm_made_b13 {m0 : Nat} {am : Nat → Nat} {gl : gl_T} (p1 : Int32) : pv_ m0 am (mm_made_b13 gl (some m0) p1) (pm_made_b13 p1) := by
  unfold mm_made_b13 pm_made_b13
  refine pv_if ?_ ?_
  · exact kp_pm_made_b34
  · refine pv_g (mv_gi (k := 2) (by decide) (by decide)) (fun t2 => ?_)
    refine pv_if ?_ ?_
    · exact kp_pm_made_b34
    · exact kp_pm_made_b30
set_option maxHeartbeats 4000000 in
theorem kp_pm_made {m0 : Nat} {am : Nat → Nat} {gl : gl_T} (v1 : Int32) : pv_ m0 am (mm_made gl (some m0) v1) (pm_made v1) := by
  unfold mm_made pm_made
  refine pv_if ?_ ?_
  · exact kp_pm_made_b13 v1
  · refine pv_g (mv_gi (k := 1) (by decide) (by decide)) (fun t1 => ?_)
    refine pv_if ?_ ?_
    · exact kp_pm_made_b30
    · exact kp_pm_made_b13 v1
/-! lives -/
set_option maxHeartbeats 4000000 in
theorem kp_pm_lives_b21 {m0 : Nat} {am : Nat → Nat} {gl : gl_T} : pv_ m0 am (mm_lives_b21 gl ) (pm_lives_b21 ) := by
  unfold mm_lives_b21 pm_lives_b21
  exact pv_r
set_option maxHeartbeats 4000000 in
theorem kp_pm_lives {m0 : Nat} {am : Nat → Nat} {gl : gl_T} (v1 : Int32) : pv_ m0 am (mm_lives gl (some m0) v1) (pm_lives v1) := by
  unfold mm_lives pm_lives
  refine pv_k _ mv_cm ?_
  refine pv_b (kp_pm_made v1) (fun t1 => ?_)
  refine pv_if ?_ ?_
  · exact kp_pm_lives_b21
  · refine pv_k _ (mv_gq (k := 7) (by decide)) ?_
    refine pv_g (mv_li (k := 7) (by decide) rfl) (fun t2 => ?_)
    refine pv_if ?_ ?_
    · exact pv_r
    · exact kp_pm_lives_b21
/-! rooted -/
set_option maxHeartbeats 4000000 in
theorem kp_pm_rooted_b45 {m0 : Nat} {am : Nat → Nat} {gl : gl_T} {sec16 : Option Nat × Int32 × Int32 × Int32 → st_M Int32} {rec16 : Int32 × Int32 × Int32 → pm_M Int32} (hr16 : ∀ x, pv_ m0 am (sec16 ((fun x : Int32 × Int32 × Int32 => (((some m0), x.1, x.2.1, x.2.2) : Option Nat × Int32 × Int32 × Int32)) x)) (rec16 x)) (p2 : Int32) (p4 : Int32) (q0 : Int32) : pv_ m0 am (mm_rooted_b45 gl sec16 (some m0) p2 p4 q0) (pm_rooted_b45 rec16 p2 p4 q0) := by
  unfold mm_rooted_b45 pm_rooted_b45
  exact hr16 (p2, q0, (p4 + (1 : Int32)))
set_option maxHeartbeats 4000000 in
theorem kp_pm_rooted_b40 {m0 : Nat} {am : Nat → Nat} {gl : gl_T} {sec16 : Option Nat × Int32 × Int32 × Int32 → st_M Int32} {rec16 : Int32 × Int32 × Int32 → pm_M Int32} (hr16 : ∀ x, pv_ m0 am (sec16 ((fun x : Int32 × Int32 × Int32 => (((some m0), x.1, x.2.1, x.2.2) : Option Nat × Int32 × Int32 × Int32)) x)) (rec16 x)) (p2 : Int32) (p4 : Int32) : pv_ m0 am (mm_rooted_b40 gl sec16 (some m0) p2 p4) (pm_rooted_b40 rec16 p2 p4) := by
  unfold mm_rooted_b40 pm_rooted_b40
  exact kp_pm_rooted_b45 hr16 p2 p4 (1 : Int32)
set_option maxHeartbeats 4000000 in
theorem kp_pm_rooted_b86 {m0 : Nat} {am : Nat → Nat} {gl : gl_T} {sec55 : Option Nat × Int32 × Int32 × Int32 → st_M Int32} {rec55 : Int32 × Int32 × Int32 → pm_M Int32} (hr55 : ∀ x, pv_ m0 am (sec55 ((fun x : Int32 × Int32 × Int32 => (((some m0), x.1, x.2.1, x.2.2) : Option Nat × Int32 × Int32 × Int32)) x)) (rec55 x)) (p2 : Int32) (p4 : Int32) (q0 : Int32) : pv_ m0 am (mm_rooted_b86 gl sec55 (some m0) p2 p4 q0) (pm_rooted_b86 rec55 p2 p4 q0) := by
  unfold mm_rooted_b86 pm_rooted_b86
  exact hr55 (p2, q0, (p4 + (1 : Int32)))
set_option maxHeartbeats 4000000 in
theorem kp_pm_rooted_b81 {m0 : Nat} {am : Nat → Nat} {gl : gl_T} {sec55 : Option Nat × Int32 × Int32 × Int32 → st_M Int32} {rec55 : Int32 × Int32 × Int32 → pm_M Int32} (hr55 : ∀ x, pv_ m0 am (sec55 ((fun x : Int32 × Int32 × Int32 => (((some m0), x.1, x.2.1, x.2.2) : Option Nat × Int32 × Int32 × Int32)) x)) (rec55 x)) (p2 : Int32) (p4 : Int32) : pv_ m0 am (mm_rooted_b81 gl sec55 (some m0) p2 p4) (pm_rooted_b81 rec55 p2 p4) := by
  unfold mm_rooted_b81 pm_rooted_b81
  exact kp_pm_rooted_b86 hr55 p2 p4 (1 : Int32)
set_option maxHeartbeats 4000000 in
theorem kp_pm_rooted_b55 {m0 : Nat} {am : Nat → Nat} {gl : gl_T} : ∀ x : Int32 × Int32 × Int32, pv_ m0 am (st_it (fun rec55 => (fun x : Option Nat × Int32 × Int32 × Int32 => mm_rooted_b55 gl rec55 x.1 x.2.1 x.2.2.1 x.2.2.2)) fu_ ((fun x : Int32 × Int32 × Int32 => (((some m0), x.1, x.2.1, x.2.2) : Option Nat × Int32 × Int32 × Int32)) x)) (pt_ (fun rec55 => (fun x : Int32 × Int32 × Int32 => pm_rooted_b55 rec55 x.1 x.2.1 x.2.2)) fu_ x) := by
  refine pv_it (fun x : Int32 × Int32 × Int32 => (((some m0), x.1, x.2.1, x.2.2) : Option Nat × Int32 × Int32 × Int32)) ?_ fu_
  intro sec55 rec55 hr55 x
  obtain ⟨p2, p3, p4⟩ := x
  show pv_ m0 am (mm_rooted_b55 gl sec55 (some m0) p2 p3 p4) (pm_rooted_b55 rec55 p2 p3 p4)
  unfold mm_rooted_b55 pm_rooted_b55
  refine pv_if ?_ ?_
  · exact pv_g mv_z (fun _ => pv_r)
  · refine pv_if ?_ ?_
    · refine pv_k _ (mv_gq (k := 17) (by decide)) ?_
      refine pv_g (mv_li (k := 17) (by decide) rfl) (fun t2 => ?_)
      refine pv_if ?_ ?_
      · exact kp_pm_rooted_b86 hr55 p2 p4 (0 : Int32)
      · exact kp_pm_rooted_b81 hr55 p2 p4
    · exact kp_pm_rooted_b81 hr55 p2 p4
set_option maxHeartbeats 4000000 in
theorem kp_pm_rooted_b16 {m0 : Nat} {am : Nat → Nat} {gl : gl_T} : ∀ x : Int32 × Int32 × Int32, pv_ m0 am (st_it (fun rec16 => (fun x : Option Nat × Int32 × Int32 × Int32 => mm_rooted_b16 gl rec16 x.1 x.2.1 x.2.2.1 x.2.2.2)) fu_ ((fun x : Int32 × Int32 × Int32 => (((some m0), x.1, x.2.1, x.2.2) : Option Nat × Int32 × Int32 × Int32)) x)) (pt_ (fun rec16 => (fun x : Int32 × Int32 × Int32 => pm_rooted_b16 rec16 x.1 x.2.1 x.2.2)) fu_ x) := by
  refine pv_it (fun x : Int32 × Int32 × Int32 => (((some m0), x.1, x.2.1, x.2.2) : Option Nat × Int32 × Int32 × Int32)) ?_ fu_
  intro sec16 rec16 hr16 x
  obtain ⟨p2, p3, p4⟩ := x
  show pv_ m0 am (mm_rooted_b16 gl sec16 (some m0) p2 p3 p4) (pm_rooted_b16 rec16 p2 p3 p4)
  unfold mm_rooted_b16 pm_rooted_b16
  refine pv_if ?_ ?_
  · exact kp_pm_rooted_b55 (p2, p3, (0 : Int32))
  · refine pv_if ?_ ?_
    · refine pv_k _ (mv_gq (k := 15) (by decide)) ?_
      refine pv_g (mv_li (k := 15) (by decide) rfl) (fun t1 => ?_)
      refine pv_if ?_ ?_
      · exact kp_pm_rooted_b45 hr16 p2 p4 (0 : Int32)
      · exact kp_pm_rooted_b40 hr16 p2 p4
    · exact kp_pm_rooted_b40 hr16 p2 p4
set_option maxHeartbeats 4000000 in
theorem kp_pm_rooted_b12 {m0 : Nat} {am : Nat → Nat} {gl : gl_T} (p2 : Int32) (q0 : Int32) : pv_ m0 am (mm_rooted_b12 gl (some m0) p2 q0) (pm_rooted_b12 p2 q0) := by
  unfold mm_rooted_b12 pm_rooted_b12
  exact kp_pm_rooted_b16 (p2, q0, (0 : Int32))
set_option maxHeartbeats 4000000 in
theorem kp_pm_rooted {m0 : Nat} {am : Nat → Nat} {gl : gl_T} (v1 : Int32) (v2 : Int32) : pv_ m0 am (mm_rooted gl (some m0) v1 v2) (pm_rooted v1 v2) := by
  unfold mm_rooted pm_rooted
  refine pv_if ?_ ?_
  · exact kp_pm_rooted_b12 v2 (1 : Int32)
  · exact kp_pm_rooted_b12 v2 (0 : Int32)
/-! mark -/
set_option maxHeartbeats 4000000 in
theorem kp_pm_mark {m0 : Nat} {am : Nat → Nat} {gl : gl_T} (v1 : Int32) : pv_ m0 am (mm_mark gl (some m0) v1) (pm_mark v1) := by
  unfold mm_mark pm_mark
  refine pv_if ?_ ?_
  · exact pv_r
  · refine pv_k _ (mv_gq (k := 10) (by decide)) ?_
    refine pv_g (mv_li (k := 10) (by decide) rfl) (fun t1 => ?_)
    refine pv_if ?_ ?_
    · refine pv_k _ (mv_gq (k := 10) (by decide)) ?_
      refine pv_g mv_z (fun _ => ?_)
      refine pv_w (mv_si (k := 10) (by decide) rfl) ?_
      refine pv_w (mv_p (k := 14) (by decide) (by decide)) ?_
      exact pv_r
    · exact pv_r
/-! spread -/
set_option maxHeartbeats 4000000 in
theorem kp_pm_spread_b98 {m0 : Nat} {am : Nat → Nat} {gl : gl_T} {sec2 : Option Nat × Int32 × Int32 → st_M Unit} {rec2 : Int32 × Int32 → pm_M Unit} (hr2 : ∀ x, pv_ m0 am (sec2 ((fun x : Int32 × Int32 => (((some m0), x.1, x.2) : Option Nat × Int32 × Int32)) x)) (rec2 x)) (p1 : Int32) (p2 : Int32) : pv_ m0 am (mm_spread_b98 gl sec2 (some m0) p1 p2) (pm_spread_b98 rec2 p1 p2) := by
  unfold mm_spread_b98 pm_spread_b98
  exact hr2 (p1, (p2 + (1 : Int32)))
set_option maxHeartbeats 4000000 in
theorem kp_pm_spread_b67 {m0 : Nat} {am : Nat → Nat} {gl : gl_T} {sec2 : Option Nat × Int32 × Int32 → st_M Unit} {rec2 : Int32 × Int32 → pm_M Unit} (hr2 : ∀ x, pv_ m0 am (sec2 ((fun x : Int32 × Int32 => (((some m0), x.1, x.2) : Option Nat × Int32 × Int32)) x)) (rec2 x)) : ∀ x : Int32 × Int32 × Int32, pv_ m0 am (st_it (fun rec67 => (fun x : Option Nat × Int32 × Int32 × Int32 => mm_spread_b67 gl sec2 rec67 x.1 x.2.1 x.2.2.1 x.2.2.2)) fu_ ((fun x : Int32 × Int32 × Int32 => (((some m0), x.1, x.2.1, x.2.2) : Option Nat × Int32 × Int32 × Int32)) x)) (pt_ (fun rec67 => (fun x : Int32 × Int32 × Int32 => pm_spread_b67 rec2 rec67 x.1 x.2.1 x.2.2)) fu_ x) := by
  refine pv_it (fun x : Int32 × Int32 × Int32 => (((some m0), x.1, x.2.1, x.2.2) : Option Nat × Int32 × Int32 × Int32)) ?_ fu_
  intro sec67 rec67 hr67 x
  obtain ⟨p1, p2, p3⟩ := x
  show pv_ m0 am (mm_spread_b67 gl sec2 sec67 (some m0) p1 p2 p3) (pm_spread_b67 rec2 rec67 p1 p2 p3)
  unfold mm_spread_b67 pm_spread_b67
  refine pv_if ?_ ?_
  · exact kp_pm_spread_b98 hr2 p1 p2
  · refine pv_if ?_ ?_
    · exact kp_pm_spread_b98 hr2 p1 p2
    · refine pv_k _ (mv_gq (k := 13) (by decide)) ?_
      refine pv_g (mv_li (k := 13) (by decide) rfl) (fun t7 => ?_)
      refine pv_k _ mv_cm ?_
      refine pv_b (kp_pm_mark t7) (fun _ => ?_)
      exact hr67 (p1, p2, (p3 + (1 : Int32)))
set_option maxHeartbeats 4000000 in
theorem kp_pm_spread_b65 {m0 : Nat} {am : Nat → Nat} {gl : gl_T} {sec2 : Option Nat × Int32 × Int32 → st_M Unit} {rec2 : Int32 × Int32 → pm_M Unit} (hr2 : ∀ x, pv_ m0 am (sec2 ((fun x : Int32 × Int32 => (((some m0), x.1, x.2) : Option Nat × Int32 × Int32)) x)) (rec2 x)) (p1 : Int32) (p2 : Int32) : pv_ m0 am (mm_spread_b65 gl sec2 (some m0) p1 p2) (pm_spread_b65 rec2 p1 p2) := by
  unfold mm_spread_b65 pm_spread_b65
  exact kp_pm_spread_b67 hr2 (p1, p2, (0 : Int32))
set_option maxHeartbeats 4000000 in
theorem kp_pm_spread_b62 {m0 : Nat} {am : Nat → Nat} {gl : gl_T} {sec2 : Option Nat × Int32 × Int32 → st_M Unit} {rec2 : Int32 × Int32 → pm_M Unit} (hr2 : ∀ x, pv_ m0 am (sec2 ((fun x : Int32 × Int32 => (((some m0), x.1, x.2) : Option Nat × Int32 × Int32)) x)) (rec2 x)) (p1 : Int32) (p2 : Int32) (q0 : Int32) : pv_ m0 am (mm_spread_b62 gl sec2 (some m0) p1 p2 q0 (some m0)) (pm_spread_b62 rec2 p1 p2 q0) := by
  unfold mm_spread_b62 pm_spread_b62
  refine pv_k _ mv_cm ?_
  refine pv_b (kp_pm_mark q0) (fun _ => ?_)
  exact kp_pm_spread_b65 hr2 p1 p2
set_option maxHeartbeats 4000000 in
theorem kp_pm_spread_b164 {m0 : Nat} {am : Nat → Nat} {gl : gl_T} {sec106 : Option Nat × Int32 × Int32 → st_M Unit} {rec106 : Int32 × Int32 → pm_M Unit} (hr106 : ∀ x, pv_ m0 am (sec106 ((fun x : Int32 × Int32 => (((some m0), x.1, x.2) : Option Nat × Int32 × Int32)) x)) (rec106 x)) (p1 : Int32) (p2 : Int32) : pv_ m0 am (mm_spread_b164 gl sec106 (some m0) p1 p2) (pm_spread_b164 rec106 p1 p2) := by
  unfold mm_spread_b164 pm_spread_b164
  exact hr106 (p1, (p2 + (1 : Int32)))
set_option maxHeartbeats 4000000 in
theorem kp_pm_spread_b106 {m0 : Nat} {am : Nat → Nat} {gl : gl_T} : ∀ x : Int32 × Int32, pv_ m0 am (st_it (fun rec106 => (fun x : Option Nat × Int32 × Int32 => mm_spread_b106 gl rec106 x.1 x.2.1 x.2.2)) fu_ ((fun x : Int32 × Int32 => (((some m0), x.1, x.2) : Option Nat × Int32 × Int32)) x)) (pt_ (fun rec106 => (fun x : Int32 × Int32 => pm_spread_b106 rec106 x.1 x.2)) fu_ x) := by
  refine pv_it (fun x : Int32 × Int32 => (((some m0), x.1, x.2) : Option Nat × Int32 × Int32)) ?_ fu_
  intro sec106 rec106 hr106 x
  obtain ⟨p1, p2⟩ := x
  show pv_ m0 am (mm_spread_b106 gl sec106 (some m0) p1 p2) (pm_spread_b106 rec106 p1 p2)
  unfold mm_spread_b106 pm_spread_b106
  refine pv_g (mv_gi (k := 18) (by decide) (by decide)) (fun t9 => ?_)
  refine pv_if ?_ ?_
  · exact pv_r
  · refine pv_k _ (mv_gq (k := 19) (by decide)) ?_
    refine pv_g (mv_li (k := 19) (by decide) rfl) (fun t10 => ?_)
    refine pv_if ?_ ?_
    · exact kp_pm_spread_b164 hr106 p1 p2
    · refine pv_k _ (mv_gq (k := 6) (by decide)) ?_
      refine pv_k _ (mv_gq (k := 19) (by decide)) ?_
      refine pv_g (mv_li (k := 19) (by decide) rfl) (fun t11 => ?_)
      refine pv_g (mv_li (k := 6) (by decide) rfl) (fun t12 => ?_)
      refine pv_if ?_ ?_
      · refine pv_k _ (mv_gq (k := 10) (by decide)) ?_
        refine pv_k _ (mv_gq (k := 19) (by decide)) ?_
        refine pv_g (mv_li (k := 19) (by decide) rfl) (fun t13 => ?_)
        refine pv_g (mv_li (k := 10) (by decide) rfl) (fun t14 => ?_)
        refine pv_if ?_ ?_
        · exact kp_pm_spread_b164 hr106 p1 p2
        · refine pv_k _ (mv_gq (k := 22) (by decide)) ?_
          refine pv_g (mv_li (k := 22) (by decide) rfl) (fun t15 => ?_)
          refine pv_k _ mv_cm ?_
          refine pv_b (kp_pm_mark t15) (fun _ => ?_)
          exact kp_pm_spread_b164 hr106 p1 p2
      · exact kp_pm_spread_b164 hr106 p1 p2
set_option maxHeartbeats 4000000 in
theorem kp_pm_spread_b2 {m0 : Nat} {am : Nat → Nat} {gl : gl_T} : ∀ x : Int32 × Int32, pv_ m0 am (st_it (fun rec2 => (fun x : Option Nat × Int32 × Int32 => mm_spread_b2 gl rec2 x.1 x.2.1 x.2.2)) fu_ ((fun x : Int32 × Int32 => (((some m0), x.1, x.2) : Option Nat × Int32 × Int32)) x)) (pt_ (fun rec2 => (fun x : Int32 × Int32 => pm_spread_b2 rec2 x.1 x.2)) fu_ x) := by
  refine pv_it (fun x : Int32 × Int32 => (((some m0), x.1, x.2) : Option Nat × Int32 × Int32)) ?_ fu_
  intro sec2 rec2 hr2 x
  obtain ⟨p1, p2⟩ := x
  show pv_ m0 am (mm_spread_b2 gl sec2 (some m0) p1 p2) (pm_spread_b2 rec2 p1 p2)
  unfold mm_spread_b2 pm_spread_b2
  refine pv_if ?_ ?_
  · exact kp_pm_spread_b106 (p1, (0 : Int32))
  · refine pv_k _ mv_cm ?_
    refine pv_b (kp_pm_lives p2) (fun t1 => ?_)
    refine pv_if ?_ ?_
    · exact kp_pm_spread_b98 hr2 p1 p2
    · refine pv_k _ (mv_gq (k := 6) (by decide)) ?_
      refine pv_g (mv_li (k := 6) (by decide) rfl) (fun t2 => ?_)
      refine pv_if ?_ ?_
      · refine pv_k _ (mv_gq (k := 10) (by decide)) ?_
        refine pv_g (mv_li (k := 10) (by decide) rfl) (fun t3 => ?_)
        refine pv_if ?_ ?_
        · exact kp_pm_spread_b98 hr2 p1 p2
        · refine pv_if ?_ ?_
          · exact kp_pm_spread_b65 hr2 p1 p2
          · refine pv_k _ (mv_gq (k := 8) (by decide)) ?_
            refine pv_g (mv_li (k := 8) (by decide) rfl) (fun t4 => ?_)
            refine pv_if ?_ ?_
            · exact kp_pm_spread_b62 hr2 p1 p2 (0 : Int32)
            · refine pv_k _ (mv_gq (k := 9) (by decide)) ?_
              refine pv_g (mv_li (k := 9) (by decide) rfl) (fun t5 => ?_)
              exact kp_pm_spread_b62 hr2 p1 p2 t5
      · exact kp_pm_spread_b98 hr2 p1 p2
set_option maxHeartbeats 4000000 in
theorem kp_pm_spread {m0 : Nat} {am : Nat → Nat} {gl : gl_T} (v1 : Int32) : pv_ m0 am (mm_spread gl (some m0) v1) (pm_spread v1) := by
  unfold mm_spread pm_spread
  exact kp_pm_spread_b2 (v1, (1 : Int32))
/-! sweep -/
set_option maxHeartbeats 4000000 in
theorem kp_pm_sweep_b56 {m0 : Nat} {am : Nat → Nat} {gl : gl_T} {sec12 : Option Nat × Int32 × Int32 → st_M Int32} {rec12 : Int32 × Int32 → pm_M Int32} (hr12 : ∀ x, pv_ m0 am (sec12 ((fun x : Int32 × Int32 => (((some m0), x.1, x.2) : Option Nat × Int32 × Int32)) x)) (rec12 x)) (p1 : Int32) (p2 : Int32) (q0 : Int32) (q1 : Int32) : pv_ m0 am (mm_sweep_b56 gl sec12 (some m0) p1 p2 q0 q1 (some (am 10))) (pm_sweep_b56 rec12 p1 p2 q0 q1) := by
  unfold mm_sweep_b56 pm_sweep_b56
  refine pv_g mv_z (fun _ => ?_)
  refine pv_w (mv_si (k := 10) (by decide) rfl) ?_
  exact hr12 (p1, (p2 + (1 : Int32)))
set_option maxHeartbeats 4000000 in
theorem kp_pm_sweep_b55 {m0 : Nat} {am : Nat → Nat} {gl : gl_T} {sec12 : Option Nat × Int32 × Int32 → st_M Int32} {rec12 : Int32 × Int32 → pm_M Int32} (hr12 : ∀ x, pv_ m0 am (sec12 ((fun x : Int32 × Int32 => (((some m0), x.1, x.2) : Option Nat × Int32 × Int32)) x)) (rec12 x)) (p1 : Int32) (p2 : Int32) (q0 : Int32) : pv_ m0 am (mm_sweep_b55 gl sec12 (some m0) p1 p2 q0 (some (am 10))) (pm_sweep_b55 rec12 p1 p2 q0) := by
  unfold mm_sweep_b55 pm_sweep_b55
  exact kp_pm_sweep_b56 hr12 p1 p2 (0 : Int32) q0
set_option maxHeartbeats 4000000 in
theorem kp_pm_sweep_b142 {m0 : Nat} {am : Nat → Nat} {gl : gl_T} {sec65 : Option Nat × Int32 × Int32 → st_M Int32} {rec65 : Int32 × Int32 → pm_M Int32} (hr65 : ∀ x, pv_ m0 am (sec65 ((fun x : Int32 × Int32 => (((some m0), x.1, x.2) : Option Nat × Int32 × Int32)) x)) (rec65 x)) (p1 : Int32) (p2 : Int32) : pv_ m0 am (mm_sweep_b142 gl sec65 (some m0) p1 p2) (pm_sweep_b142 rec65 p1 p2) := by
  unfold mm_sweep_b142 pm_sweep_b142
  exact hr65 (p1, (p2 + (1 : Int32)))
set_option maxHeartbeats 4000000 in
theorem kp_pm_sweep_b233 {m0 : Nat} {am : Nat → Nat} {gl : gl_T} {sec189 : Option Nat × Int32 × Int32 × Int32 → st_M Int32} {rec189 : Int32 × Int32 × Int32 → pm_M Int32} (hr189 : ∀ x, pv_ m0 am (sec189 ((fun x : Int32 × Int32 × Int32 => (((some m0), x.1, x.2.1, x.2.2) : Option Nat × Int32 × Int32 × Int32)) x)) (rec189 x)) (p1 : Int32) (p2 : Int32) (p3 : Int32) : pv_ m0 am (mm_sweep_b233 gl sec189 (some m0) p1 p2 p3) (pm_sweep_b233 rec189 p1 p2 p3) := by
  unfold mm_sweep_b233 pm_sweep_b233
  exact hr189 (p1, p2, (p3 + (1 : Int32)))
set_option maxHeartbeats 4000000 in
theorem kp_pm_sweep_b305 {m0 : Nat} {am : Nat → Nat} {gl : gl_T} {sec241 : Option Nat × Int32 × Int32 × Int32 → st_M Int32} {rec241 : Int32 × Int32 × Int32 → pm_M Int32} (hr241 : ∀ x, pv_ m0 am (sec241 ((fun x : Int32 × Int32 × Int32 => (((some m0), x.1, x.2.1, x.2.2) : Option Nat × Int32 × Int32 × Int32)) x)) (rec241 x)) (p1 : Int32) (p2 : Int32) (p3 : Int32) : pv_ m0 am (mm_sweep_b305 gl sec241 (some m0) p1 p2 p3) (pm_sweep_b305 rec241 p1 p2 p3) := by
  unfold mm_sweep_b305 pm_sweep_b305
  exact hr241 (p1, p2, (p3 + (1 : Int32)))
set_option maxHeartbeats 4000000 in
theorem kp_pm_sweep_b241 {m0 : Nat} {am : Nat → Nat} {gl : gl_T} : ∀ x : Int32 × Int32 × Int32, pv_ m0 am (st_it (fun rec241 => (fun x : Option Nat × Int32 × Int32 × Int32 => mm_sweep_b241 gl rec241 x.1 x.2.1 x.2.2.1 x.2.2.2)) fu_ ((fun x : Int32 × Int32 × Int32 => (((some m0), x.1, x.2.1, x.2.2) : Option Nat × Int32 × Int32 × Int32)) x)) (pt_ (fun rec241 => (fun x : Int32 × Int32 × Int32 => pm_sweep_b241 rec241 x.1 x.2.1 x.2.2)) fu_ x) := by
  refine pv_it (fun x : Int32 × Int32 × Int32 => (((some m0), x.1, x.2.1, x.2.2) : Option Nat × Int32 × Int32 × Int32)) ?_ fu_
  intro sec241 rec241 hr241 x
  obtain ⟨p1, p2, p3⟩ := x
  show pv_ m0 am (mm_sweep_b241 gl sec241 (some m0) p1 p2 p3) (pm_sweep_b241 rec241 p1 p2 p3)
  unfold mm_sweep_b241 pm_sweep_b241
  refine pv_if ?_ ?_
  · exact pv_r
  · refine pv_k _ (mv_gq (k := 16) (by decide)) ?_
    refine pv_g (mv_li (k := 16) (by decide) rfl) (fun t21 => ?_)
    refine pv_if ?_ ?_
    · exact kp_pm_sweep_b305 hr241 p1 p2 p3
    · refine pv_k _ (mv_gq (k := 10) (by decide)) ?_
      refine pv_g (mv_li (k := 10) (by decide) rfl) (fun t22 => ?_)
      refine pv_if ?_ ?_
      · refine pv_k _ (mv_gq (k := 16) (by decide)) ?_
        refine pv_w (mv_si (k := 16) (by decide) rfl) ?_
        refine pv_k _ (mv_gq (k := 6) (by decide)) ?_
        refine pv_g (mv_li (k := 6) (by decide) rfl) (fun t23 => ?_)
        refine pv_k _ mv_cm ?_
        refine pv_b (kp_pm_post (3 : Int32) (((4 : Int32) * p1) + t23) p3 t21 (0 : Int32) (0 : Int32)) (fun _ => ?_)
        exact kp_pm_sweep_b305 hr241 p1 p2 p3
      · exact kp_pm_sweep_b305 hr241 p1 p2 p3
set_option maxHeartbeats 4000000 in
theorem kp_pm_sweep_b189 {m0 : Nat} {am : Nat → Nat} {gl : gl_T} : ∀ x : Int32 × Int32 × Int32, pv_ m0 am (st_it (fun rec189 => (fun x : Option Nat × Int32 × Int32 × Int32 => mm_sweep_b189 gl rec189 x.1 x.2.1 x.2.2.1 x.2.2.2)) fu_ ((fun x : Int32 × Int32 × Int32 => (((some m0), x.1, x.2.1, x.2.2) : Option Nat × Int32 × Int32 × Int32)) x)) (pt_ (fun rec189 => (fun x : Int32 × Int32 × Int32 => pm_sweep_b189 rec189 x.1 x.2.1 x.2.2)) fu_ x) := by
  refine pv_it (fun x : Int32 × Int32 × Int32 => (((some m0), x.1, x.2.1, x.2.2) : Option Nat × Int32 × Int32 × Int32)) ?_ fu_
  intro sec189 rec189 hr189 x
  obtain ⟨p1, p2, p3⟩ := x
  show pv_ m0 am (mm_sweep_b189 gl sec189 (some m0) p1 p2 p3) (pm_sweep_b189 rec189 p1 p2 p3)
  unfold mm_sweep_b189 pm_sweep_b189
  refine pv_if ?_ ?_
  · exact kp_pm_sweep_b241 (p1, p2, (1 : Int32))
  · refine pv_k _ mv_cm ?_
    refine pv_b (kp_pm_lives p3) (fun t18 => ?_)
    refine pv_if ?_ ?_
    · exact kp_pm_sweep_b233 hr189 p1 p2 p3
    · refine pv_k _ (mv_gq (k := 6) (by decide)) ?_
      refine pv_g (mv_li (k := 6) (by decide) rfl) (fun t19 => ?_)
      refine pv_if ?_ ?_
      · refine pv_k _ (mv_gq (k := 10) (by decide)) ?_
        refine pv_g (mv_li (k := 10) (by decide) rfl) (fun t20 => ?_)
        refine pv_if ?_ ?_
        · refine pv_k _ (mv_gq (k := 7) (by decide)) ?_
          refine pv_g mv_z (fun _ => ?_)
          refine pv_w (mv_si (k := 7) (by decide) rfl) ?_
          exact kp_pm_sweep_b233 hr189 p1 (p2 + (1 : Int32)) p3
        · exact kp_pm_sweep_b233 hr189 p1 p2 p3
      · exact kp_pm_sweep_b233 hr189 p1 p2 p3
set_option maxHeartbeats 4000000 in
theorem kp_pm_sweep_b185 {m0 : Nat} {am : Nat → Nat} {gl : gl_T} (p1 : Int32) : pv_ m0 am (mm_sweep_b185 gl (some m0) p1) (pm_sweep_b185 p1) := by
  unfold mm_sweep_b185 pm_sweep_b185
  exact kp_pm_sweep_b189 (p1, (0 : Int32), (1 : Int32))
set_option maxHeartbeats 4000000 in
theorem kp_pm_sweep_b155 {m0 : Nat} {am : Nat → Nat} {gl : gl_T} : ∀ x : Int32 × Int32, pv_ m0 am (st_it (fun rec155 => (fun x : Option Nat × Int32 × Int32 => mm_sweep_b155 gl rec155 x.1 x.2.1 x.2.2)) fu_ ((fun x : Int32 × Int32 => (((some m0), x.1, x.2) : Option Nat × Int32 × Int32)) x)) (pt_ (fun rec155 => (fun x : Int32 × Int32 => pm_sweep_b155 rec155 x.1 x.2)) fu_ x) := by
  refine pv_it (fun x : Int32 × Int32 => (((some m0), x.1, x.2) : Option Nat × Int32 × Int32)) ?_ fu_
  intro sec155 rec155 hr155 x
  obtain ⟨p1, p2⟩ := x
  show pv_ m0 am (mm_sweep_b155 gl sec155 (some m0) p1 p2) (pm_sweep_b155 rec155 p1 p2)
  unfold mm_sweep_b155 pm_sweep_b155
  refine pv_if ?_ ?_
  · exact kp_pm_sweep_b185 p1
  · refine pv_g (mv_gi (k := 14) (by decide) (by decide)) (fun t16 => ?_)
    refine pv_if ?_ ?_
    · exact kp_pm_sweep_b185 p1
    · refine pv_w (mv_p (k := 14) (by decide) (by decide)) ?_
      refine pv_k _ mv_cm ?_
      refine pv_b (kp_pm_spread p1) (fun _ => ?_)
      exact hr155 (p1, (p2 + (1 : Int32)))
set_option maxHeartbeats 4000000 in
theorem kp_pm_sweep_b65 {m0 : Nat} {am : Nat → Nat} {gl : gl_T} : ∀ x : Int32 × Int32, pv_ m0 am (st_it (fun rec65 => (fun x : Option Nat × Int32 × Int32 => mm_sweep_b65 gl rec65 x.1 x.2.1 x.2.2)) fu_ ((fun x : Int32 × Int32 => (((some m0), x.1, x.2) : Option Nat × Int32 × Int32)) x)) (pt_ (fun rec65 => (fun x : Int32 × Int32 => pm_sweep_b65 rec65 x.1 x.2)) fu_ x) := by
  refine pv_it (fun x : Int32 × Int32 => (((some m0), x.1, x.2) : Option Nat × Int32 × Int32)) ?_ fu_
  intro sec65 rec65 hr65 x
  obtain ⟨p1, p2⟩ := x
  show pv_ m0 am (mm_sweep_b65 gl sec65 (some m0) p1 p2) (pm_sweep_b65 rec65 p1 p2)
  unfold mm_sweep_b65 pm_sweep_b65
  refine pv_g (mv_gi (k := 18) (by decide) (by decide)) (fun t5 => ?_)
  refine pv_if ?_ ?_
  · refine pv_w (mv_p (k := 14) (by decide) (by decide)) ?_
    exact kp_pm_sweep_b155 (p1, (0 : Int32))
  · refine pv_k _ (mv_gq (k := 19) (by decide)) ?_
    refine pv_g (mv_li (k := 19) (by decide) rfl) (fun t6 => ?_)
    refine pv_if ?_ ?_
    · refine pv_k _ (mv_gq (k := 20) (by decide)) ?_
      refine pv_g (mv_li (k := 20) (by decide) rfl) (fun t7 => ?_)
      refine pv_k _ mv_cm ?_
      refine pv_b (kp_pm_mark t7) (fun _ => ?_)
      refine pv_k _ (mv_gq (k := 22) (by decide)) ?_
      refine pv_g (mv_li (k := 22) (by decide) rfl) (fun t9 => ?_)
      refine pv_k _ mv_cm ?_
      refine pv_b (kp_pm_mark t9) (fun _ => ?_)
      exact kp_pm_sweep_b142 hr65 p1 p2
    · refine pv_k _ (mv_gq (k := 19) (by decide)) ?_
      refine pv_g (mv_li (k := 19) (by decide) rfl) (fun t11 => ?_)
      refine pv_if ?_ ?_
      · exact kp_pm_sweep_b142 hr65 p1 p2
      · refine pv_k _ (mv_gq (k := 6) (by decide)) ?_
        refine pv_k _ (mv_gq (k := 19) (by decide)) ?_
        refine pv_g (mv_li (k := 19) (by decide) rfl) (fun t12 => ?_)
        refine pv_g (mv_li (k := 6) (by decide) rfl) (fun t13 => ?_)
        refine pv_if ?_ ?_
        · refine pv_k _ (mv_gq (k := 19) (by decide)) ?_
          refine pv_g (mv_li (k := 19) (by decide) rfl) (fun t14 => ?_)
          refine pv_k _ mv_cm ?_
          refine pv_b (kp_pm_mark t14) (fun _ => ?_)
          exact kp_pm_sweep_b142 hr65 p1 p2
        · exact kp_pm_sweep_b142 hr65 p1 p2
set_option maxHeartbeats 4000000 in
theorem kp_pm_sweep_b12 {m0 : Nat} {am : Nat → Nat} {gl : gl_T} : ∀ x : Int32 × Int32, pv_ m0 am (st_it (fun rec12 => (fun x : Option Nat × Int32 × Int32 => mm_sweep_b12 gl rec12 x.1 x.2.1 x.2.2)) fu_ ((fun x : Int32 × Int32 => (((some m0), x.1, x.2) : Option Nat × Int32 × Int32)) x)) (pt_ (fun rec12 => (fun x : Int32 × Int32 => pm_sweep_b12 rec12 x.1 x.2)) fu_ x) := by
  refine pv_it (fun x : Int32 × Int32 => (((some m0), x.1, x.2) : Option Nat × Int32 × Int32)) ?_ fu_
  intro sec12 rec12 hr12 x
  obtain ⟨p1, p2⟩ := x
  show pv_ m0 am (mm_sweep_b12 gl sec12 (some m0) p1 p2) (pm_sweep_b12 rec12 p1 p2)
  unfold mm_sweep_b12 pm_sweep_b12
  refine pv_if ?_ ?_
  · exact kp_pm_sweep_b65 (p1, (0 : Int32))
  · refine pv_k _ (mv_gq (k := 10) (by decide)) ?_
    refine pv_k _ mv_cm ?_
    refine pv_b (kp_pm_lives p2) (fun t2 => ?_)
    refine pv_if ?_ ?_
    · exact kp_pm_sweep_b55 hr12 p1 p2 p2
    · refine pv_k _ (mv_gq (k := 6) (by decide)) ?_
      refine pv_g (mv_li (k := 6) (by decide) rfl) (fun t3 => ?_)
      refine pv_if ?_ ?_
      · refine pv_k _ mv_cm ?_
        refine pv_b (kp_pm_rooted p1 p2) (fun t4 => ?_)
        refine pv_if ?_ ?_
        · exact kp_pm_sweep_b55 hr12 p1 p2 p2
        · exact kp_pm_sweep_b56 hr12 p1 p2 (1 : Int32) p2
      · exact kp_pm_sweep_b55 hr12 p1 p2 p2
set_option maxHeartbeats 4000000 in
theorem kp_pm_sweep {m0 : Nat} {am : Nat → Nat} {gl : gl_T} (v1 : Int32) : pv_ m0 am (mm_sweep gl (some m0) v1) (pm_sweep v1) := by
  unfold mm_sweep pm_sweep
  refine pv_k _ mv_cm ?_
  refine pv_b (kp_pm_vat v1) (fun t1 => ?_)
  refine pv_if ?_ ?_
  · exact pv_r
  · exact kp_pm_sweep_b12 (v1, (1 : Int32))
/-! flying -/
set_option maxHeartbeats 4000000 in
theorem kp_pm_flying_b55 {m0 : Nat} {am : Nat → Nat} {gl : gl_T} {sec5 : Option Nat × Int32 × Int32 × Int32 × Int32 → st_M Int32} {rec5 : Int32 × Int32 × Int32 × Int32 → pm_M Int32} (hr5 : ∀ x, pv_ m0 am (sec5 ((fun x : Int32 × Int32 × Int32 × Int32 => (((some m0), x.1, x.2.1, x.2.2.1, x.2.2.2) : Option Nat × Int32 × Int32 × Int32 × Int32)) x)) (rec5 x)) (p1 : Int32) (p2 : Int32) (p4 : Int32) (q0 : Int32) : pv_ m0 am (mm_flying_b55 gl sec5 (some m0) p1 p2 p4 q0) (pm_flying_b55 rec5 p1 p2 p4 q0) := by
  unfold mm_flying_b55 pm_flying_b55
  exact hr5 (p1, p2, q0, (p4 + (1 : Int32)))
set_option maxHeartbeats 4000000 in
theorem kp_pm_flying_b62 {m0 : Nat} {am : Nat → Nat} {gl : gl_T} (p3 : Int32) : pv_ m0 am (mm_flying_b62 gl p3) (pm_flying_b62 p3) := by
  unfold mm_flying_b62 pm_flying_b62
  exact pv_r
set_option maxHeartbeats 4000000 in
theorem kp_pm_flying_b5 {m0 : Nat} {am : Nat → Nat} {gl : gl_T} : ∀ x : Int32 × Int32 × Int32 × Int32, pv_ m0 am (st_it (fun rec5 => (fun x : Option Nat × Int32 × Int32 × Int32 × Int32 => mm_flying_b5 gl rec5 x.1 x.2.1 x.2.2.1 x.2.2.2.1 x.2.2.2.2)) fu_ ((fun x : Int32 × Int32 × Int32 × Int32 => (((some m0), x.1, x.2.1, x.2.2.1, x.2.2.2) : Option Nat × Int32 × Int32 × Int32 × Int32)) x)) (pt_ (fun rec5 => (fun x : Int32 × Int32 × Int32 × Int32 => pm_flying_b5 rec5 x.1 x.2.1 x.2.2.1 x.2.2.2)) fu_ x) := by
  refine pv_it (fun x : Int32 × Int32 × Int32 × Int32 => (((some m0), x.1, x.2.1, x.2.2.1, x.2.2.2) : Option Nat × Int32 × Int32 × Int32 × Int32)) ?_ fu_
  intro sec5 rec5 hr5 x
  obtain ⟨p1, p2, p3, p4⟩ := x
  show pv_ m0 am (mm_flying_b5 gl sec5 (some m0) p1 p2 p3 p4) (pm_flying_b5 rec5 p1 p2 p3 p4)
  unfold mm_flying_b5 pm_flying_b5
  refine pv_g (mv_gi (k := 24) (by decide) (by decide)) (fun t1 => ?_)
  refine pv_if ?_ ?_
  · exact kp_pm_flying_b62 p3
  · refine pv_k _ mv_cm ?_
    refine pv_b (kp_pm_vat p1) (fun t2 => ?_)
    refine pv_if ?_ ?_
    · exact kp_pm_flying_b62 p3
    · refine pv_k _ mv_cm ?_
      refine pv_b (kp_pm_vat p2) (fun t3 => ?_)
      refine pv_if ?_ ?_
      · exact kp_pm_flying_b62 p3
      · refine pv_k _ (mv_gq (k := 25) (by decide)) ?_
        refine pv_g (mv_li (k := 25) (by decide) rfl) (fun t4 => ?_)
        refine pv_if ?_ ?_
        · exact kp_pm_flying_b55 hr5 p1 p2 p4 (p3 + (1 : Int32))
        · exact kp_pm_flying_b55 hr5 p1 p2 p4 p3
set_option maxHeartbeats 4000000 in
theorem kp_pm_flying {m0 : Nat} {am : Nat → Nat} {gl : gl_T} (v1 : Int32) (v2 : Int32) : pv_ m0 am (mm_flying gl (some m0) v1 v2) (pm_flying v1 v2) := by
  unfold mm_flying pm_flying
  exact kp_pm_flying_b5 (v1, v2, (0 : Int32), (0 : Int32))
/-! counts -/
set_option maxHeartbeats 4000000 in
theorem kp_pm_counts_b42 {m0 : Nat} {am : Nat → Nat} {gl : gl_T} : pv_ m0 am (mm_counts_b42 gl ) (pm_counts_b42 ) := by
  unfold mm_counts_b42 pm_counts_b42
  exact pv_r
set_option maxHeartbeats 4000000 in
theorem kp_pm_counts_b94 {m0 : Nat} {am : Nat → Nat} {gl : gl_T} : pv_ m0 am (mm_counts_b94 gl ) (pm_counts_b94 ) := by
  unfold mm_counts_b94 pm_counts_b94
  exact pv_r
set_option maxHeartbeats 4000000 in
theorem kp_pm_counts_b98 {m0 : Nat} {am : Nat → Nat} {gl : gl_T} : pv_ m0 am (mm_counts_b98 gl ) (pm_counts_b98 ) := by
  unfold mm_counts_b98 pm_counts_b98
  exact pv_r
set_option maxHeartbeats 4000000 in
theorem kp_pm_counts_b74 {m0 : Nat} {am : Nat → Nat} {gl : gl_T} (p2 : Int32) (p3 : Int32) : pv_ m0 am (mm_counts_b74 gl (some m0) p2 p3) (pm_counts_b74 p2 p3) := by
  unfold mm_counts_b74 pm_counts_b74
  refine pv_if ?_ ?_
  · refine pv_if ?_ ?_
    · exact kp_pm_counts_b98
    · refine pv_k _ (mv_gq (k := 8) (by decide)) ?_
      refine pv_g (mv_li (k := 8) (by decide) rfl) (fun t5 => ?_)
      refine pv_if ?_ ?_
      · exact kp_pm_counts_b98
      · exact kp_pm_counts_b94
  · exact kp_pm_counts_b98
set_option maxHeartbeats 4000000 in
theorem kp_pm_counts_b54 {m0 : Nat} {am : Nat → Nat} {gl : gl_T} (p2 : Int32) (p3 : Int32) : pv_ m0 am (mm_counts_b54 gl (some m0) p2 p3) (pm_counts_b54 p2 p3) := by
  unfold mm_counts_b54 pm_counts_b54
  refine pv_if ?_ ?_
  · refine pv_if ?_ ?_
    · exact kp_pm_counts_b74 p2 p3
    · refine pv_k _ (mv_gq (k := 8) (by decide)) ?_
      refine pv_g (mv_li (k := 8) (by decide) rfl) (fun t4 => ?_)
      refine pv_if ?_ ?_
      · exact kp_pm_counts_b94
      · exact kp_pm_counts_b74 p2 p3
  · exact kp_pm_counts_b74 p2 p3
set_option maxHeartbeats 4000000 in
theorem kp_pm_counts {m0 : Nat} {am : Nat → Nat} {gl : gl_T} (v1 : Int32) (v2 : Int32) (v3 : Int32) : pv_ m0 am (mm_counts gl (some m0) v1 v2 v3) (pm_counts v1 v2 v3) := by
  unfold mm_counts pm_counts
  refine pv_if ?_ ?_
  · refine pv_k _ (mv_gq (k := 16) (by decide)) ?_
    refine pv_g (mv_li (k := 16) (by decide) rfl) (fun t1 => ?_)
    refine pv_if ?_ ?_
    · exact pv_r
    · exact pv_r
  · refine pv_k _ mv_cm ?_
    refine pv_b (kp_pm_lives v3) (fun t2 => ?_)
    refine pv_if ?_ ?_
    · exact kp_pm_counts_b42
    · refine pv_k _ (mv_gq (k := 6) (by decide)) ?_
      refine pv_g (mv_li (k := 6) (by decide) rfl) (fun t3 => ?_)
      refine pv_if ?_ ?_
      · refine pv_if ?_ ?_
        · refine pv_if ?_ ?_
          · exact kp_pm_counts_b94
          · exact kp_pm_counts_b54 v2 v3
        · exact kp_pm_counts_b54 v2 v3
      · exact kp_pm_counts_b42
/-! count -/
set_option maxHeartbeats 4000000 in
theorem kp_pm_count_b18 {m0 : Nat} {am : Nat → Nat} {gl : gl_T} : pv_ m0 am (mm_count_b18 gl ) (pm_count_b18 ) := by
  unfold mm_count_b18 pm_count_b18
  exact pv_r
set_option maxHeartbeats 4000000 in
theorem kp_pm_count_b56 {m0 : Nat} {am : Nat → Nat} {gl : gl_T} {sec25 : Option Nat × Int32 × Int32 × Int32 × Int32 → st_M Int32} {rec25 : Int32 × Int32 × Int32 × Int32 → pm_M Int32} (hr25 : ∀ x, pv_ m0 am (sec25 ((fun x : Int32 × Int32 × Int32 × Int32 => (((some m0), x.1, x.2.1, x.2.2.1, x.2.2.2) : Option Nat × Int32 × Int32 × Int32 × Int32)) x)) (rec25 x)) (p1 : Int32) (p2 : Int32) (p4 : Int32) (q0 : Int32) : pv_ m0 am (mm_count_b56 gl sec25 (some m0) p1 p2 p4 q0) (pm_count_b56 rec25 p1 p2 p4 q0) := by
  unfold mm_count_b56 pm_count_b56
  exact hr25 (p1, p2, q0, (p4 + (1 : Int32)))
set_option maxHeartbeats 4000000 in
theorem kp_pm_count_b116 {m0 : Nat} {am : Nat → Nat} {gl : gl_T} {sec66 : Option Nat × Int32 × Int32 × Int32 × Int32 → st_M Int32} {rec66 : Int32 × Int32 × Int32 × Int32 → pm_M Int32} (hr66 : ∀ x, pv_ m0 am (sec66 ((fun x : Int32 × Int32 × Int32 × Int32 => (((some m0), x.1, x.2.1, x.2.2.1, x.2.2.2) : Option Nat × Int32 × Int32 × Int32 × Int32)) x)) (rec66 x)) (p1 : Int32) (p2 : Int32) (p4 : Int32) (q0 : Int32) : pv_ m0 am (mm_count_b116 gl sec66 (some m0) p1 p2 p4 q0) (pm_count_b116 rec66 p1 p2 p4 q0) := by
  unfold mm_count_b116 pm_count_b116
  exact hr66 (p1, p2, q0, (p4 + (1 : Int32)))
set_option maxHeartbeats 4000000 in
theorem kp_pm_count_b115 {m0 : Nat} {am : Nat → Nat} {gl : gl_T} {sec66 : Option Nat × Int32 × Int32 × Int32 × Int32 → st_M Int32} {rec66 : Int32 × Int32 × Int32 × Int32 → pm_M Int32} (hr66 : ∀ x, pv_ m0 am (sec66 ((fun x : Int32 × Int32 × Int32 × Int32 => (((some m0), x.1, x.2.1, x.2.2.1, x.2.2.2) : Option Nat × Int32 × Int32 × Int32 × Int32)) x)) (rec66 x)) (p1 : Int32) (p2 : Int32) (p3 : Int32) (p4 : Int32) : pv_ m0 am (mm_count_b115 gl sec66 (some m0) p1 p2 p3 p4) (pm_count_b115 rec66 p1 p2 p3 p4) := by
  unfold mm_count_b115 pm_count_b115
  exact kp_pm_count_b116 hr66 p1 p2 p4 p3
set_option maxHeartbeats 4000000 in
theorem kp_pm_count_b197 {m0 : Nat} {am : Nat → Nat} {gl : gl_T} {sec127 : Option Nat × Int32 × Int32 × Int32 × Int32 → st_M Int32} {rec127 : Int32 × Int32 × Int32 × Int32 → pm_M Int32} (hr127 : ∀ x, pv_ m0 am (sec127 ((fun x : Int32 × Int32 × Int32 × Int32 => (((some m0), x.1, x.2.1, x.2.2.1, x.2.2.2) : Option Nat × Int32 × Int32 × Int32 × Int32)) x)) (rec127 x)) (p1 : Int32) (p2 : Int32) (p4 : Int32) (q0 : Int32) : pv_ m0 am (mm_count_b197 gl sec127 (some m0) p1 p2 p4 q0) (pm_count_b197 rec127 p1 p2 p4 q0) := by
  unfold mm_count_b197 pm_count_b197
  exact hr127 (p1, p2, q0, (p4 + (1 : Int32)))
set_option maxHeartbeats 4000000 in
theorem kp_pm_count_b196 {m0 : Nat} {am : Nat → Nat} {gl : gl_T} {sec127 : Option Nat × Int32 × Int32 × Int32 × Int32 → st_M Int32} {rec127 : Int32 × Int32 × Int32 × Int32 → pm_M Int32} (hr127 : ∀ x, pv_ m0 am (sec127 ((fun x : Int32 × Int32 × Int32 × Int32 => (((some m0), x.1, x.2.1, x.2.2.1, x.2.2.2) : Option Nat × Int32 × Int32 × Int32 × Int32)) x)) (rec127 x)) (p1 : Int32) (p2 : Int32) (p3 : Int32) (p4 : Int32) : pv_ m0 am (mm_count_b196 gl sec127 (some m0) p1 p2 p3 p4) (pm_count_b196 rec127 p1 p2 p3 p4) := by
  unfold mm_count_b196 pm_count_b196
  exact kp_pm_count_b197 hr127 p1 p2 p4 p3
set_option maxHeartbeats 4000000 in
theorem kp_pm_count_b168 {m0 : Nat} {am : Nat → Nat} {gl : gl_T} {sec127 : Option Nat × Int32 × Int32 × Int32 × Int32 → st_M Int32} {rec127 : Int32 × Int32 × Int32 × Int32 → pm_M Int32} (hr127 : ∀ x, pv_ m0 am (sec127 ((fun x : Int32 × Int32 × Int32 × Int32 => (((some m0), x.1, x.2.1, x.2.2.1, x.2.2.2) : Option Nat × Int32 × Int32 × Int32 × Int32)) x)) (rec127 x)) (p1 : Int32) (p2 : Int32) (p3 : Int32) (p4 : Int32) (q0 : Int32) : pv_ m0 am (mm_count_b168 gl sec127 (some m0) p1 p2 p3 p4 q0) (pm_count_b168 rec127 p1 p2 p3 p4 q0) := by
  unfold mm_count_b168 pm_count_b168
  refine pv_if ?_ ?_
  · exact kp_pm_count_b196 hr127 p1 p2 p3 p4
  · refine pv_k _ (mv_gq (k := 6) (by decide)) ?_
    refine pv_g (mv_li (k := 6) (by decide) rfl) (fun t10 => ?_)
    refine pv_if ?_ ?_
    · exact kp_pm_count_b197 hr127 p1 p2 p4 (p3 + q0)
    · exact kp_pm_count_b196 hr127 p1 p2 p3 p4
set_option maxHeartbeats 4000000 in
theorem kp_pm_count_b145 {m0 : Nat} {am : Nat → Nat} {gl : gl_T} {sec127 : Option Nat × Int32 × Int32 × Int32 × Int32 → st_M Int32} {rec127 : Int32 × Int32 × Int32 × Int32 → pm_M Int32} (hr127 : ∀ x, pv_ m0 am (sec127 ((fun x : Int32 × Int32 × Int32 × Int32 => (((some m0), x.1, x.2.1, x.2.2.1, x.2.2.2) : Option Nat × Int32 × Int32 × Int32 × Int32)) x)) (rec127 x)) (p1 : Int32) (p2 : Int32) (p3 : Int32) (p4 : Int32) : pv_ m0 am (mm_count_b145 gl sec127 (some m0) p1 p2 p3 p4) (pm_count_b145 rec127 p1 p2 p3 p4) := by
  unfold mm_count_b145 pm_count_b145
  refine pv_if ?_ ?_
  · refine pv_k _ (mv_gq (k := 17) (by decide)) ?_
    refine pv_g (mv_li (k := 17) (by decide) rfl) (fun t8 => ?_)
    exact kp_pm_count_b168 hr127 p1 p2 p3 p4 t8
  · refine pv_k _ (mv_gq (k := 17) (by decide)) ?_
    refine pv_g (mv_li (k := 17) (by decide) rfl) (fun t9 => ?_)
    exact kp_pm_count_b168 hr127 p1 p2 p3 p4 (-t9)
set_option maxHeartbeats 4000000 in
theorem kp_pm_count_b204 {m0 : Nat} {am : Nat → Nat} {gl : gl_T} (p1 : Int32) (p2 : Int32) (p3 : Int32) : pv_ m0 am (mm_count_b204 gl (some m0) p1 p2 p3) (pm_count_b204 p1 p2 p3) := by
  unfold mm_count_b204 pm_count_b204
  refine pv_if ?_ ?_
  · refine pv_k _ (mv_gq (k := 32) (by decide)) ?_
    refine pv_g (mv_li (k := 32) (by decide) rfl) (fun t7 => ?_)
    exact pv_r
  · exact pv_r
set_option maxHeartbeats 4000000 in
theorem kp_pm_count_b127 {m0 : Nat} {am : Nat → Nat} {gl : gl_T} : ∀ x : Int32 × Int32 × Int32 × Int32, pv_ m0 am (st_it (fun rec127 => (fun x : Option Nat × Int32 × Int32 × Int32 × Int32 => mm_count_b127 gl rec127 x.1 x.2.1 x.2.2.1 x.2.2.2.1 x.2.2.2.2)) fu_ ((fun x : Int32 × Int32 × Int32 × Int32 => (((some m0), x.1, x.2.1, x.2.2.1, x.2.2.2) : Option Nat × Int32 × Int32 × Int32 × Int32)) x)) (pt_ (fun rec127 => (fun x : Int32 × Int32 × Int32 × Int32 => pm_count_b127 rec127 x.1 x.2.1 x.2.2.1 x.2.2.2)) fu_ x) := by
  refine pv_it (fun x : Int32 × Int32 × Int32 × Int32 => (((some m0), x.1, x.2.1, x.2.2.1, x.2.2.2) : Option Nat × Int32 × Int32 × Int32 × Int32)) ?_ fu_
  intro sec127 rec127 hr127 x
  obtain ⟨p1, p2, p3, p4⟩ := x
  show pv_ m0 am (mm_count_b127 gl sec127 (some m0) p1 p2 p3 p4) (pm_count_b127 rec127 p1 p2 p3 p4)
  unfold mm_count_b127 pm_count_b127
  refine pv_if ?_ ?_
  · exact kp_pm_count_b204 p1 p2 p3
  · refine pv_if ?_ ?_
    · exact kp_pm_count_b145 hr127 p1 p2 p3 p4
    · refine pv_if ?_ ?_
      · exact kp_pm_count_b145 hr127 p1 p2 p3 p4
      · exact kp_pm_count_b204 p1 p2 p3
set_option maxHeartbeats 4000000 in
theorem kp_pm_count_b123 {m0 : Nat} {am : Nat → Nat} {gl : gl_T} (p1 : Int32) (p2 : Int32) (p3 : Int32) : pv_ m0 am (mm_count_b123 gl (some m0) p1 p2 p3) (pm_count_b123 p1 p2 p3) := by
  unfold mm_count_b123 pm_count_b123
  exact kp_pm_count_b127 (p1, p2, p3, (16 : Int32))
set_option maxHeartbeats 4000000 in
theorem kp_pm_count_b66 {m0 : Nat} {am : Nat → Nat} {gl : gl_T} : ∀ x : Int32 × Int32 × Int32 × Int32, pv_ m0 am (st_it (fun rec66 => (fun x : Option Nat × Int32 × Int32 × Int32 × Int32 => mm_count_b66 gl rec66 x.1 x.2.1 x.2.2.1 x.2.2.2.1 x.2.2.2.2)) fu_ ((fun x : Int32 × Int32 × Int32 × Int32 => (((some m0), x.1, x.2.1, x.2.2.1, x.2.2.2) : Option Nat × Int32 × Int32 × Int32 × Int32)) x)) (pt_ (fun rec66 => (fun x : Int32 × Int32 × Int32 × Int32 => pm_count_b66 rec66 x.1 x.2.1 x.2.2.1 x.2.2.2)) fu_ x) := by
  refine pv_it (fun x : Int32 × Int32 × Int32 × Int32 => (((some m0), x.1, x.2.1, x.2.2.1, x.2.2.2) : Option Nat × Int32 × Int32 × Int32 × Int32)) ?_ fu_
  intro sec66 rec66 hr66 x
  obtain ⟨p1, p2, p3, p4⟩ := x
  show pv_ m0 am (mm_count_b66 gl sec66 (some m0) p1 p2 p3 p4) (pm_count_b66 rec66 p1 p2 p3 p4)
  unfold mm_count_b66 pm_count_b66
  refine pv_g (mv_gi (k := 18) (by decide) (by decide)) (fun t3 => ?_)
  refine pv_if ?_ ?_
  · exact kp_pm_count_b123 p1 p2 p3
  · refine pv_if ?_ ?_
    · refine pv_k _ (mv_gq (k := 19) (by decide)) ?_
      refine pv_g (mv_li (k := 19) (by decide) rfl) (fun t4 => ?_)
      refine pv_if ?_ ?_
      · exact kp_pm_count_b115 hr66 p1 p2 p3 p4
      · refine pv_k _ (mv_gq (k := 6) (by decide)) ?_
        refine pv_k _ (mv_gq (k := 19) (by decide)) ?_
        refine pv_g (mv_li (k := 19) (by decide) rfl) (fun t5 => ?_)
        refine pv_g (mv_li (k := 6) (by decide) rfl) (fun t6 => ?_)
        refine pv_if ?_ ?_
        · exact kp_pm_count_b116 hr66 p1 p2 p4 (p3 + (1 : Int32))
        · exact kp_pm_count_b115 hr66 p1 p2 p3 p4
    · exact kp_pm_count_b123 p1 p2 p3
set_option maxHeartbeats 4000000 in
theorem kp_pm_count_b63 {m0 : Nat} {am : Nat → Nat} {gl : gl_T} (p1 : Int32) (p2 : Int32) (p3 : Int32) : pv_ m0 am (mm_count_b63 gl (some m0) p1 p2 p3) (pm_count_b63 p1 p2 p3) := by
  unfold mm_count_b63 pm_count_b63
  exact kp_pm_count_b66 (p1, p2, p3, (0 : Int32))
set_option maxHeartbeats 4000000 in
theorem kp_pm_count_b25 {m0 : Nat} {am : Nat → Nat} {gl : gl_T} : ∀ x : Int32 × Int32 × Int32 × Int32, pv_ m0 am (st_it (fun rec25 => (fun x : Option Nat × Int32 × Int32 × Int32 × Int32 => mm_count_b25 gl rec25 x.1 x.2.1 x.2.2.1 x.2.2.2.1 x.2.2.2.2)) fu_ ((fun x : Int32 × Int32 × Int32 × Int32 => (((some m0), x.1, x.2.1, x.2.2.1, x.2.2.2) : Option Nat × Int32 × Int32 × Int32 × Int32)) x)) (pt_ (fun rec25 => (fun x : Int32 × Int32 × Int32 × Int32 => pm_count_b25 rec25 x.1 x.2.1 x.2.2.1 x.2.2.2)) fu_ x) := by
  refine pv_it (fun x : Int32 × Int32 × Int32 × Int32 => (((some m0), x.1, x.2.1, x.2.2.1, x.2.2.2) : Option Nat × Int32 × Int32 × Int32 × Int32)) ?_ fu_
  intro sec25 rec25 hr25 x
  obtain ⟨p1, p2, p3, p4⟩ := x
  show pv_ m0 am (mm_count_b25 gl sec25 (some m0) p1 p2 p3 p4) (pm_count_b25 rec25 p1 p2 p3 p4)
  unfold mm_count_b25 pm_count_b25
  refine pv_if ?_ ?_
  · exact kp_pm_count_b63 p1 p2 p3
  · refine pv_if ?_ ?_
    · exact kp_pm_count_b63 p1 p2 p3
    · refine pv_k _ mv_cm ?_
      refine pv_b (kp_pm_counts p1 p2 p4) (fun t2 => ?_)
      refine pv_if ?_ ?_
      · exact kp_pm_count_b56 hr25 p1 p2 p4 p3
      · exact kp_pm_count_b56 hr25 p1 p2 p4 (p3 + (1 : Int32))
set_option maxHeartbeats 4000000 in
theorem kp_pm_count {m0 : Nat} {am : Nat → Nat} {gl : gl_T} (v1 : Int32) (v2 : Int32) : pv_ m0 am (mm_count gl (some m0) v1 v2) (pm_count v1 v2) := by
  unfold mm_count pm_count
  refine pv_k _ mv_cm ?_
  refine pv_b (kp_pm_vat v1) (fun t1 => ?_)
  refine pv_if ?_ ?_
  · exact kp_pm_count_b18
  · refine pv_if ?_ ?_
    · exact kp_pm_count_b18
    · refine pv_if ?_ ?_
      · exact kp_pm_count_b25 (v1, v2, (0 : Int32), (1 : Int32))
      · exact kp_pm_count_b18
/-! imported -/
set_option maxHeartbeats 4000000 in
theorem kp_pm_imported_b29 {m0 : Nat} {am : Nat → Nat} {gl : gl_T} : pv_ m0 am (mm_imported_b29 gl ) (pm_imported_b29 ) := by
  unfold mm_imported_b29 pm_imported_b29
  exact pv_r
set_option maxHeartbeats 4000000 in
theorem kp_pm_imported {m0 : Nat} {am : Nat → Nat} {gl : gl_T} (v1 : Int32) (v2 : Int32) : pv_ m0 am (mm_imported gl (some m0) v1 v2) (pm_imported v1 v2) := by
  unfold mm_imported pm_imported
  refine pv_k _ mv_cm ?_
  refine pv_b (kp_pm_vat v1) (fun t1 => ?_)
  refine pv_if ?_ ?_
  · exact kp_pm_imported_b29
  · refine pv_k _ mv_cm ?_
    refine pv_b (kp_pm_made v2) (fun t2 => ?_)
    refine pv_if ?_ ?_
    · exact kp_pm_imported_b29
    · refine pv_k _ (mv_gq (k := 16) (by decide)) ?_
      refine pv_g (mv_li (k := 16) (by decide) rfl) (fun t3 => ?_)
      exact pv_r
/-! exported -/
set_option maxHeartbeats 4000000 in
theorem kp_pm_exported_b39 {m0 : Nat} {am : Nat → Nat} {gl : gl_T} : pv_ m0 am (mm_exported_b39 gl ) (pm_exported_b39 ) := by
  unfold mm_exported_b39 pm_exported_b39
  exact pv_r
set_option maxHeartbeats 4000000 in
theorem kp_pm_exported {m0 : Nat} {am : Nat → Nat} {gl : gl_T} (v1 : Int32) (v2 : Int32) : pv_ m0 am (mm_exported gl (some m0) v1 v2) (pm_exported v1 v2) := by
  unfold mm_exported pm_exported
  refine pv_k _ mv_cm ?_
  refine pv_b (kp_pm_lives v1) (fun t1 => ?_)
  refine pv_if ?_ ?_
  · exact kp_pm_exported_b39
  · refine pv_k _ mv_cm ?_
    refine pv_b (kp_pm_vat v2) (fun t2 => ?_)
    refine pv_if ?_ ?_
    · exact kp_pm_exported_b39
    · refine pv_k _ (mv_gq (k := 6) (by decide)) ?_
      refine pv_g (mv_li (k := 6) (by decide) rfl) (fun t3 => ?_)
      refine pv_if ?_ ?_
      · exact kp_pm_exported_b39
      · refine pv_k _ (mv_gq (k := 15) (by decide)) ?_
        refine pv_g (mv_li (k := 15) (by decide) rfl) (fun t4 => ?_)
        exact pv_r
/-! home -/
set_option maxHeartbeats 4000000 in
theorem kp_pm_home {m0 : Nat} {am : Nat → Nat} {gl : gl_T} (v1 : Int32) : pv_ m0 am (mm_home gl (some m0) v1) (pm_home v1) := by
  unfold mm_home pm_home
  refine pv_k _ mv_cm ?_
  refine pv_b (kp_pm_lives v1) (fun t1 => ?_)
  refine pv_if ?_ ?_
  · exact pv_r
  · refine pv_k _ (mv_gq (k := 6) (by decide)) ?_
    refine pv_g (mv_li (k := 6) (by decide) rfl) (fun t2 => ?_)
    exact pv_r
/-! slot -/
set_option maxHeartbeats 4000000 in
theorem kp_pm_slot_b36 {m0 : Nat} {am : Nat → Nat} {gl : gl_T} : pv_ m0 am (mm_slot_b36 gl ) (pm_slot_b36 ) := by
  unfold mm_slot_b36 pm_slot_b36
  exact pv_r
set_option maxHeartbeats 4000000 in
theorem kp_pm_slot {m0 : Nat} {am : Nat → Nat} {gl : gl_T} (v1 : Int32) (v2 : Int32) : pv_ m0 am (mm_slot gl (some m0) v1 v2) (pm_slot v1 v2) := by
  unfold mm_slot pm_slot
  refine pv_k _ mv_cm ?_
  refine pv_b (kp_pm_lives v1) (fun t1 => ?_)
  refine pv_if ?_ ?_
  · exact kp_pm_slot_b36
  · refine pv_if ?_ ?_
    · exact kp_pm_slot_b36
    · refine pv_if ?_ ?_
      · exact kp_pm_slot_b36
      · refine pv_if ?_ ?_
        · exact kp_pm_slot_b36
        · refine pv_k _ (mv_gq (k := 13) (by decide)) ?_
          refine pv_g (mv_li (k := 13) (by decide) rfl) (fun t2 => ?_)
          exact pv_r
/-! number -/
set_option maxHeartbeats 4000000 in
theorem kp_pm_number_b23 {m0 : Nat} {am : Nat → Nat} {gl : gl_T} : pv_ m0 am (mm_number_b23 gl ) (pm_number_b23 ) := by
  unfold mm_number_b23 pm_number_b23
  exact pv_r
set_option maxHeartbeats 4000000 in
theorem kp_pm_number {m0 : Nat} {am : Nat → Nat} {gl : gl_T} (v1 : Int32) : pv_ m0 am (mm_number gl (some m0) v1) (pm_number v1) := by
  unfold mm_number pm_number
  refine pv_k _ mv_cm ?_
  refine pv_b (kp_pm_lives v1) (fun t1 => ?_)
  refine pv_if ?_ ?_
  · exact kp_pm_number_b23
  · refine pv_if ?_ ?_
    · exact kp_pm_number_b23
    · refine pv_k _ (mv_gq (k := 12) (by decide)) ?_
      refine pv_g (mv_li (k := 12) (by decide) rfl) (fun t2 => ?_)
      exact pv_r
/-! resolved -/
set_option maxHeartbeats 4000000 in
theorem kp_pm_resolved_b32 {m0 : Nat} {am : Nat → Nat} {gl : gl_T} : pv_ m0 am (mm_resolved_b32 gl ) (pm_resolved_b32 ) := by
  unfold mm_resolved_b32 pm_resolved_b32
  exact pv_r
set_option maxHeartbeats 4000000 in
theorem kp_pm_resolved {m0 : Nat} {am : Nat → Nat} {gl : gl_T} (v1 : Int32) : pv_ m0 am (mm_resolved gl (some m0) v1) (pm_resolved v1) := by
  unfold mm_resolved pm_resolved
  refine pv_k _ mv_cm ?_
  refine pv_b (kp_pm_lives v1) (fun t1 => ?_)
  refine pv_if ?_ ?_
  · exact kp_pm_resolved_b32
  · refine pv_if ?_ ?_
    · exact kp_pm_resolved_b32
    · refine pv_k _ (mv_gq (k := 8) (by decide)) ?_
      refine pv_g (mv_li (k := 8) (by decide) rfl) (fun t2 => ?_)
      refine pv_if ?_ ?_
      · exact kp_pm_resolved_b32
      · refine pv_k _ (mv_gq (k := 9) (by decide)) ?_
        refine pv_g (mv_li (k := 9) (by decide) rfl) (fun t3 => ?_)
        exact pv_r
/-! output -/
set_option maxHeartbeats 4000000 in
theorem kp_pm_output_b28 {m0 : Nat} {am : Nat → Nat} {gl : gl_T} : pv_ m0 am (mm_output_b28 gl ) (pm_output_b28 ) := by
  unfold mm_output_b28 pm_output_b28
  exact pv_r
set_option maxHeartbeats 4000000 in
theorem kp_pm_output {m0 : Nat} {am : Nat → Nat} {gl : gl_T} (v1 : Int32) (v2 : Int32) : pv_ m0 am (mm_output gl (some m0) v1 v2) (pm_output v1 v2) := by
  unfold mm_output pm_output
  refine pv_k _ mv_cm ?_
  refine pv_b (kp_pm_vat v1) (fun t1 => ?_)
  refine pv_if ?_ ?_
  · exact kp_pm_output_b28
  · refine pv_if ?_ ?_
    · exact kp_pm_output_b28
    · refine pv_if ?_ ?_
      · exact kp_pm_output_b28
      · refine pv_k _ (mv_gq (k := 32) (by decide)) ?_
        refine pv_g (mv_li (k := 32) (by decide) rfl) (fun t2 => ?_)
        refine pv_if ?_ ?_
        · refine pv_k _ (mv_gq (k := 33) (by decide)) ?_
          refine pv_k _ (mv_gq (k := 32) (by decide)) ?_
          refine pv_g (mv_li (k := 32) (by decide) rfl) (fun t3 => ?_)
          refine pv_g (mv_li (k := 33) (by decide) rfl) (fun t4 => ?_)
          exact pv_r
        · exact kp_pm_output_b28
