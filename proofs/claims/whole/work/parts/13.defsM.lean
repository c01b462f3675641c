/-! PromiseVatsModel.<init>(I)V -/
def mm_init_b263 (gl : gl_T) (rec263 : Option Nat × Int32 → st_M (Unit)) (p0 : Option Nat) (p2 : Int32) : st_M (Unit) :=
  st_g (so_gi p0 [10] 0) fun t192 =>
  if t192 ≤ p2 then
  (st_r ())
  else
  (st_g (so_gi p0 [10] 1) fun t193 =>
  st_w (so_p p0 [10] 1 (.int (t193 + (1 : Int32)))) (
  st_g (so_gq p0 [10] 6) fun t195 =>
  st_g (so_gi p0 [10] 1) fun t196 =>
  st_w (so_si t195 1 t196 ((p2.toInt8.toInt32).toInt8.toInt32)) (
  st_g (so_gq p0 [10] 11) fun t198 =>
  st_g (so_gi p0 [10] 1) fun t199 =>
  st_w (so_si t198 1 t199 ((p2.toInt8.toInt32).toInt8.toInt32)) (
  rec263 (p0, (p2 + (1 : Int32)))))))
def mm_init_b258 (gl : gl_T) (p0 : Option Nat) (q0 : Int32) (q1 : Option Nat) : st_M (Unit) :=
  st_w (so_p q1 [10] 0 (.int q0)) (
  st_it (fun rec263 => (fun x : Option Nat × Int32 => mm_init_b263 gl rec263 x.1 x.2)) fu_ (p0, (0 : Int32)))
def mm_init (gl : gl_T) (v0 : Option Nat) (v1 : Int32) : st_M (Unit) :=
  st_g (so_c v0) fun _ =>
  st_g (so_l (8 : Int32)) fun _ =>
  st_n (.inl (0, (8 : Int32).toNatClampNeg, fun _ => 0)) (8 : Int32).toNatClampNeg fun t2 =>
  st_w (so_p v0 [10] 3 (va_rf (some t2))) (
  st_g (so_l (64 : Int32)) fun _ =>
  st_n (.inl (0, (64 : Int32).toNatClampNeg, fun _ => 0)) (64 : Int32).toNatClampNeg fun t9 =>
  st_w (so_p v0 [10] 4 (va_rf (some t9))) (
  st_g (so_l (64 : Int32)) fun _ =>
  st_n (.inl (0, (64 : Int32).toNatClampNeg, fun _ => 0)) (64 : Int32).toNatClampNeg fun t16 =>
  st_w (so_p v0 [10] 5 (va_rf (some t16))) (
  st_g (so_l (201 : Int32)) fun _ =>
  st_n (.inl (1, (201 : Int32).toNatClampNeg, fun _ => 0)) (201 : Int32).toNatClampNeg fun t23 =>
  st_w (so_p v0 [10] 6 (va_rf (some t23))) (
  st_g (so_l (201 : Int32)) fun _ =>
  st_n (.inl (2, (201 : Int32).toNatClampNeg, fun _ => 0)) (201 : Int32).toNatClampNeg fun t30 =>
  st_w (so_p v0 [10] 7 (va_rf (some t30))) (
  st_g (so_l (201 : Int32)) fun _ =>
  st_n (.inl (2, (201 : Int32).toNatClampNeg, fun _ => 0)) (201 : Int32).toNatClampNeg fun t37 =>
  st_w (so_p v0 [10] 8 (va_rf (some t37))) (
  st_g (so_l (201 : Int32)) fun _ =>
  st_n (.inl (0, (201 : Int32).toNatClampNeg, fun _ => 0)) (201 : Int32).toNatClampNeg fun t44 =>
  st_w (so_p v0 [10] 9 (va_rf (some t44))) (
  st_g (so_l (201 : Int32)) fun _ =>
  st_n (.inl (2, (201 : Int32).toNatClampNeg, fun _ => 0)) (201 : Int32).toNatClampNeg fun t51 =>
  st_w (so_p v0 [10] 10 (va_rf (some t51))) (
  st_g (so_l (61 : Int32)) fun _ =>
  st_n (.inl (1, (61 : Int32).toNatClampNeg, fun _ => 0)) (61 : Int32).toNatClampNeg fun t58 =>
  st_w (so_p v0 [10] 11 (va_rf (some t58))) (
  st_g (so_l (61 : Int32)) fun _ =>
  st_n (.inl (0, (61 : Int32).toNatClampNeg, fun _ => 0)) (61 : Int32).toNatClampNeg fun t65 =>
  st_w (so_p v0 [10] 12 (va_rf (some t65))) (
  st_g (so_l (244 : Int32)) fun _ =>
  st_n (.inl (0, (244 : Int32).toNatClampNeg, fun _ => 0)) (244 : Int32).toNatClampNeg fun t72 =>
  st_w (so_p v0 [10] 13 (va_rf (some t72))) (
  st_g (so_l (804 : Int32)) fun _ =>
  st_n (.inl (0, (804 : Int32).toNatClampNeg, fun _ => 0)) (804 : Int32).toNatClampNeg fun t79 =>
  st_w (so_p v0 [10] 15 (va_rf (some t79))) (
  st_g (so_l (804 : Int32)) fun _ =>
  st_n (.inl (0, (804 : Int32).toNatClampNeg, fun _ => 0)) (804 : Int32).toNatClampNeg fun t86 =>
  st_w (so_p v0 [10] 16 (va_rf (some t86))) (
  st_g (so_l (3216 : Int32)) fun _ =>
  st_n (.inl (0, (3216 : Int32).toNatClampNeg, fun _ => 0)) (3216 : Int32).toNatClampNeg fun t93 =>
  st_w (so_p v0 [10] 17 (va_rf (some t93))) (
  st_g (so_l (200 : Int32)) fun _ =>
  st_n (.inl (0, (200 : Int32).toNatClampNeg, fun _ => 0)) (200 : Int32).toNatClampNeg fun t100 =>
  st_w (so_p v0 [10] 19 (va_rf (some t100))) (
  st_g (so_l (200 : Int32)) fun _ =>
  st_n (.inl (0, (200 : Int32).toNatClampNeg, fun _ => 0)) (200 : Int32).toNatClampNeg fun t107 =>
  st_w (so_p v0 [10] 20 (va_rf (some t107))) (
  st_g (so_l (200 : Int32)) fun _ =>
  st_n (.inl (0, (200 : Int32).toNatClampNeg, fun _ => 0)) (200 : Int32).toNatClampNeg fun t114 =>
  st_w (so_p v0 [10] 21 (va_rf (some t114))) (
  st_g (so_l (200 : Int32)) fun _ =>
  st_n (.inl (0, (200 : Int32).toNatClampNeg, fun _ => 0)) (200 : Int32).toNatClampNeg fun t121 =>
  st_w (so_p v0 [10] 22 (va_rf (some t121))) (
  st_g (so_l (200 : Int32)) fun _ =>
  st_n (.inl (0, (200 : Int32).toNatClampNeg, fun _ => 0)) (200 : Int32).toNatClampNeg fun t128 =>
  st_w (so_p v0 [10] 23 (va_rf (some t128))) (
  st_g (so_l (2100 : Int32)) fun _ =>
  st_n (.inl (1, (2100 : Int32).toNatClampNeg, fun _ => 0)) (2100 : Int32).toNatClampNeg fun t135 =>
  st_w (so_p v0 [10] 25 (va_rf (some t135))) (
  st_g (so_l (2100 : Int32)) fun _ =>
  st_n (.inl (3, (2100 : Int32).toNatClampNeg, fun _ => 0)) (2100 : Int32).toNatClampNeg fun t142 =>
  st_w (so_p v0 [10] 26 (va_rf (some t142))) (
  st_g (so_l (2100 : Int32)) fun _ =>
  st_n (.inl (0, (2100 : Int32).toNatClampNeg, fun _ => 0)) (2100 : Int32).toNatClampNeg fun t149 =>
  st_w (so_p v0 [10] 27 (va_rf (some t149))) (
  st_g (so_l (2100 : Int32)) fun _ =>
  st_n (.inl (3, (2100 : Int32).toNatClampNeg, fun _ => 0)) (2100 : Int32).toNatClampNeg fun t156 =>
  st_w (so_p v0 [10] 28 (va_rf (some t156))) (
  st_g (so_l (2100 : Int32)) fun _ =>
  st_n (.inl (3, (2100 : Int32).toNatClampNeg, fun _ => 0)) (2100 : Int32).toNatClampNeg fun t163 =>
  st_w (so_p v0 [10] 29 (va_rf (some t163))) (
  st_g (so_l (101 : Int32)) fun _ =>
  st_n (.inl (0, (101 : Int32).toNatClampNeg, fun _ => 0)) (101 : Int32).toNatClampNeg fun t170 =>
  st_w (so_p v0 [10] 31 (va_rf (some t170))) (
  st_g (so_l (4 : Int32)) fun _ =>
  st_n (.inl (0, (4 : Int32).toNatClampNeg, fun _ => 0)) (4 : Int32).toNatClampNeg fun t177 =>
  st_w (so_p v0 [10] 32 (va_rf (some t177))) (
  st_g (so_l (40 : Int32)) fun _ =>
  st_n (.inl (0, (40 : Int32).toNatClampNeg, fun _ => 0)) (40 : Int32).toNatClampNeg fun t184 =>
  st_w (so_p v0 [10] 33 (va_rf (some t184))) (
  if (2 : Int32) ≤ v1 then
  (if v1 ≤ (4 : Int32) then
  (mm_init_b258 gl v0 v1 v0)
  else
  (mm_init_b258 gl v0 (4 : Int32) v0))
  else
  (mm_init_b258 gl v0 (2 : Int32) v0))))))))))))))))))))))))))))
/-! PromiseVatsModel.code(III)Z -/
def mm_code_b31 (gl : gl_T) : st_M (Int32) :=
  st_r (0 : Int32)
def mm_code_b92 (gl : gl_T) : st_M (Int32) :=
  st_r (0 : Int32)
def mm_code_b94 (gl : gl_T) (p0 : Option Nat) (p1 : Int32) (p2 : Int32) (p3 : Int32) : st_M (Int32) :=
  st_g (so_gq p0 [10] 3) fun t3 =>
  st_g (so_li t3 0 p1) fun t4 =>
  st_g (so_gq p0 [10] 4) fun t5 =>
  st_w (so_si t5 0 (((8 : Int32) * p1) + t4) p2) (
  st_g (so_gq p0 [10] 5) fun t7 =>
  st_w (so_si t7 0 (((8 : Int32) * p1) + t4) p3) (
  st_g (so_gq p0 [10] 3) fun t9 =>
  st_g (so_li t9 0 p1) fun t10 =>
  st_w (so_si t9 0 p1 (t10 + (1 : Int32))) (
  st_r (1 : Int32))))
def mm_code_b82 (gl : gl_T) (p0 : Option Nat) (p1 : Int32) (p2 : Int32) (p3 : Int32) : st_M (Int32) :=
  if p3 < 0 then
  (mm_code_b92 gl )
  else
  (if p3 ≤ (7 : Int32) then
  (mm_code_b94 gl p0 p1 p2 p3)
  else
  (mm_code_b92 gl ))
def mm_code_b70 (gl : gl_T) (p0 : Option Nat) (p1 : Int32) (p2 : Int32) (p3 : Int32) : st_M (Int32) :=
  if p2 = (6 : Int32) then
  (mm_code_b82 gl p0 p1 p2 p3)
  else
  (if p2 = (8 : Int32) then
  (mm_code_b82 gl p0 p1 p2 p3)
  else
  (mm_code_b94 gl p0 p1 p2 p3))
def mm_code_b54 (gl : gl_T) (p0 : Option Nat) (p1 : Int32) (p2 : Int32) (p3 : Int32) (q0 : Int32) : st_M (Int32) :=
  if q0 = 0 then
  (mm_code_b70 gl p0 p1 p2 p3)
  else
  (if p3 < 0 then
  (mm_code_b92 gl )
  else
  (if (3 : Int32) < p3 then
  (mm_code_b92 gl )
  else
  (mm_code_b70 gl p0 p1 p2 p3)))
def mm_code_b49 (gl : gl_T) (p0 : Option Nat) (p1 : Int32) (p2 : Int32) (p3 : Int32) : st_M (Int32) :=
  mm_code_b54 gl p0 p1 p2 p3 (1 : Int32)
def mm_code (gl : gl_T) (v0 : Option Nat) (v1 : Int32) (v2 : Int32) (v3 : Int32) : st_M (Int32) :=
  if v1 < 0 then
  (mm_code_b31 gl )
  else
  (if (7 : Int32) < v1 then
  (mm_code_b31 gl )
  else
  (if v2 < 0 then
  (mm_code_b31 gl )
  else
  (if (10 : Int32) < v2 then
  (mm_code_b31 gl )
  else
  (st_g (so_gq v0 [10] 3) fun t1 =>
  st_g (so_li t1 0 v1) fun t2 =>
  if t2 < (8 : Int32) then
  (if v2 = (3 : Int32) then
  (mm_code_b49 gl v0 v1 v2 v3)
  else
  (if v2 = (4 : Int32) then
  (mm_code_b49 gl v0 v1 v2 v3)
  else
  (if v2 = (7 : Int32) then
  (mm_code_b49 gl v0 v1 v2 v3)
  else
  (mm_code_b54 gl v0 v1 v2 v3 (0 : Int32)))))
  else
  (mm_code_b31 gl )))))
/-! PromiseVatsModel.clear(I)Z -/
def mm_clear_b10 (gl : gl_T) : st_M (Int32) :=
  st_r (0 : Int32)
def mm_clear (gl : gl_T) (v0 : Option Nat) (v1 : Int32) : st_M (Int32) :=
  if v1 < 0 then
  (mm_clear_b10 gl )
  else
  (if v1 ≤ (7 : Int32) then
  (st_g (so_gq v0 [10] 3) fun t1 =>
  st_w (so_si t1 0 v1 (0 : Int32)) (
  st_r (1 : Int32)))
  else
  (mm_clear_b10 gl ))
/-! PromiseVatsModel.vat(I)Z -/
def mm_vat_b16 (gl : gl_T) : st_M (Int32) :=
  st_r (0 : Int32)
def mm_vat (gl : gl_T) (v0 : Option Nat) (v1 : Int32) : st_M (Int32) :=
  if v1 < 0 then
  (mm_vat_b16 gl )
  else
  (st_g (so_gi v0 [10] 0) fun t1 =>
  if t1 ≤ v1 then
  (mm_vat_b16 gl )
  else
  (st_r (1 : Int32)))
/-! PromiseVatsModel.oldest(I)I -/
def mm_oldest_b29 (gl : gl_T) (p0 : Option Nat) (p2 : Int32) : st_M (Int32) :=
  st_g (so_gi p0 [10] 24) fun t4 =>
  if t4 ≤ p2 then
  (st_r (-1 : Int32))
  else
  (st_r p2)
def mm_oldest_b2 (gl : gl_T) (rec2 : Option Nat × Int32 × Int32 → st_M (Int32)) (p0 : Option Nat) (p1 : Int32) (p2 : Int32) : st_M (Int32) :=
  st_g (so_gi p0 [10] 24) fun t1 =>
  if t1 ≤ p2 then
  (mm_oldest_b29 gl p0 p2)
  else
  (st_g (so_gq p0 [10] 25) fun t2 =>
  st_g (so_li t2 1 p2) fun t3 =>
  if (t3 - t3 / (16 : Int32) * (16 : Int32)) = p1 then
  (mm_oldest_b29 gl p0 p2)
  else
  (rec2 (p0, p1, (p2 + (1 : Int32)))))
def mm_oldest (gl : gl_T) (v0 : Option Nat) (v1 : Int32) : st_M (Int32) :=
  st_it (fun rec2 => (fun x : Option Nat × Int32 × Int32 => mm_oldest_b2 gl rec2 x.1 x.2.1 x.2.2)) fu_ (v0, v1, (0 : Int32))
/-! PromiseVatsModel.unmail(I)V -/
def mm_unmail_b12 (gl : gl_T) (rec12 : Option Nat × Int32 → st_M (Unit)) (p0 : Option Nat) (p2 : Int32) : st_M (Unit) :=
  st_g (so_gi p0 [10] 24) fun t3 =>
  if t3 ≤ p2 then
  (st_r ())
  else
  (st_g (so_gq p0 [10] 25) fun t4 =>
  st_g (so_gq p0 [10] 25) fun t5 =>
  st_g (so_li t5 1 (p2 + (1 : Int32))) fun t6 =>
  st_w (so_si t4 1 p2 (t6.toInt8.toInt32)) (
  st_g (so_gq p0 [10] 26) fun t8 =>
  st_g (so_gq p0 [10] 26) fun t9 =>
  st_g (so_li t9 3 (p2 + (1 : Int32))) fun t10 =>
  st_w (so_si t8 3 p2 (t10.toInt16.toInt32)) (
  st_g (so_gq p0 [10] 27) fun t12 =>
  st_g (so_gq p0 [10] 27) fun t13 =>
  st_g (so_li t13 0 (p2 + (1 : Int32))) fun t14 =>
  st_w (so_si t12 0 p2 t14) (
  st_g (so_gq p0 [10] 28) fun t16 =>
  st_g (so_gq p0 [10] 28) fun t17 =>
  st_g (so_li t17 3 (p2 + (1 : Int32))) fun t18 =>
  st_w (so_si t16 3 p2 (t18.toInt16.toInt32)) (
  st_g (so_gq p0 [10] 29) fun t20 =>
  st_g (so_gq p0 [10] 29) fun t21 =>
  st_g (so_li t21 3 (p2 + (1 : Int32))) fun t22 =>
  st_w (so_si t20 3 p2 (t22.toInt16.toInt32)) (
  rec12 (p0, (p2 + (1 : Int32)))))))))
def mm_unmail (gl : gl_T) (v0 : Option Nat) (v1 : Int32) : st_M (Unit) :=
  st_g (so_gi v0 [10] 24) fun t1 =>
  st_w (so_p v0 [10] 24 (.int (t1 - (1 : Int32)))) (
  st_it (fun rec12 => (fun x : Option Nat × Int32 => mm_unmail_b12 gl rec12 x.1 x.2)) fu_ (v0, v1))
/-! PromiseVatsModel.post(IIIIII)V -/
def mm_post (gl : gl_T) (v0 : Option Nat) (v1 : Int32) (v2 : Int32) (v3 : Int32) (v4 : Int32) (v5 : Int32) (v6 : Int32) : st_M (Unit) :=
  st_g (so_gq v0 [10] 25) fun t1 =>
  st_g (so_gi v0 [10] 24) fun t2 =>
  st_w (so_si t1 1 t2 (((((16 : Int32) * v1) + v2).toInt8.toInt32).toInt8.toInt32)) (
  st_g (so_gq v0 [10] 26) fun t4 =>
  st_g (so_gi v0 [10] 24) fun t5 =>
  st_w (so_si t4 3 t5 ((v3.toInt16.toInt32).toInt16.toInt32)) (
  st_g (so_gq v0 [10] 27) fun t7 =>
  st_g (so_gi v0 [10] 24) fun t8 =>
  st_w (so_si t7 0 t8 v4) (
  st_g (so_gq v0 [10] 28) fun t10 =>
  st_g (so_gi v0 [10] 24) fun t11 =>
  st_w (so_si t10 3 t11 ((v5.toInt16.toInt32).toInt16.toInt32)) (
  st_g (so_gq v0 [10] 29) fun t13 =>
  st_g (so_gi v0 [10] 24) fun t14 =>
  st_w (so_si t13 3 t14 ((v6.toInt16.toInt32).toInt16.toInt32)) (
  st_g (so_gi v0 [10] 24) fun t16 =>
  st_w (so_p v0 [10] 24 (.int (t16 + (1 : Int32)))) (
  st_r ()))))))
/-! PromiseVatsModel.unpack(III)V -/
def mm_unpack (gl : gl_T) (v0 : Option Nat) (v1 : Int32) (v2 : Int32) (v3 : Int32) : st_M (Unit) :=
  if v3 = 0 then
  (st_r ())
  else
  (st_g (so_gq v0 [10] 6) fun t1 =>
  st_g (so_li t1 1 v3) fun t2 =>
  if t2 = v2 then
  (st_r ())
  else
  (st_g (so_gq v0 [10] 16) fun t3 =>
  st_g (so_li t3 0 (((4 : Int32) * v3) + v2)) fun t4 =>
  st_w (so_si t3 0 (((4 : Int32) * v3) + v2) (t4 + (1 : Int32))) (
  st_g (so_gq v0 [10] 6) fun t6 =>
  st_g (so_li t6 1 v3) fun t7 =>
  if t7 = v1 then
  (st_r ())
  else
  (st_g (so_gq v0 [10] 6) fun t8 =>
  st_g (so_li t8 1 v3) fun t9 =>
  st_g (so_cm v0 [10]) fun _ =>
  st_b (mm_post gl v0 (5 : Int32) (((4 : Int32) * v2) + t9) v3 v1 (0 : Int32) (0 : Int32)) fun _ =>
  st_r ()))))
/-! PromiseVatsModel.passes(II)Z -/
def mm_passes_b29 (gl : gl_T) : st_M (Int32) :=
  st_r (0 : Int32)
def mm_passes (gl : gl_T) (v0 : Option Nat) (v1 : Int32) (v2 : Int32) : st_M (Int32) :=
  if v2 ≤ (100 : Int32) then
  (mm_passes_b29 gl )
  else
  (st_g (so_gq v0 [10] 6) fun t1 =>
  st_g (so_li t1 1 v2) fun t2 =>
  if t2 = v1 then
  (st_g (so_gq v0 [10] 8) fun t3 =>
  st_g (so_li t3 2 v2) fun t4 =>
  if t4 = 0 then
  (mm_passes_b29 gl )
  else
  (st_r (1 : Int32)))
  else
  (mm_passes_b29 gl ))
/-! PromiseVatsModel.waits(I)I -/
def mm_waits_b29 (gl : gl_T) (rec4 : Option Nat × Int32 × Int32 × Int32 → st_M (Int32)) (p0 : Option Nat) (p1 : Int32) (p3 : Int32) (q0 : Int32) : st_M (Int32) :=
  rec4 (p0, p1, q0, (p3 + (1 : Int32)))
def mm_waits_b4 (gl : gl_T) (rec4 : Option Nat × Int32 × Int32 × Int32 → st_M (Int32)) (p0 : Option Nat) (p1 : Int32) (p2 : Int32) (p3 : Int32) : st_M (Int32) :=
  st_g (so_gi p0 [10] 18) fun t1 =>
  if t1 ≤ p3 then
  (st_r p2)
  else
  (st_g (so_gq p0 [10] 19) fun t2 =>
  st_g (so_li t2 0 p3) fun t3 =>
  if t3 = p1 then
  (mm_waits_b29 gl rec4 p0 p1 p3 (p2 + (1 : Int32)))
  else
  (mm_waits_b29 gl rec4 p0 p1 p3 p2))
def mm_waits (gl : gl_T) (v0 : Option Nat) (v1 : Int32) : st_M (Int32) :=
  st_it (fun rec4 => (fun x : Option Nat × Int32 × Int32 × Int32 => mm_waits_b4 gl rec4 x.1 x.2.1 x.2.2.1 x.2.2.2)) fu_ (v0, v1, (0 : Int32), (0 : Int32))
/-! PromiseVatsModel.pack(III)V -/
def mm_pack (gl : gl_T) (v0 : Option Nat) (v1 : Int32) (v2 : Int32) (v3 : Int32) : st_M (Unit) :=
  if v3 = 0 then
  (st_r ())
  else
  (st_g (so_gq v0 [10] 6) fun t1 =>
  st_g (so_li t1 1 v3) fun t2 =>
  if t2 = v1 then
  (st_g (so_gq v0 [10] 15) fun t3 =>
  st_g (so_li t3 0 (((4 : Int32) * v3) + v2)) fun t4 =>
  st_w (so_si t3 0 (((4 : Int32) * v3) + v2) (t4 + (1 : Int32))) (
  st_r ()))
  else
  (if t2 = v2 then
  (st_r ())
  else
  (st_g (so_cm v0 [10]) fun _ =>
  st_b (mm_post gl v0 (4 : Int32) (((4 : Int32) * v1) + t2) v3 v2 (0 : Int32) (0 : Int32)) fun _ =>
  st_r ())))
/-! PromiseVatsModel.rest(IIIII)V -/
def mm_rest (gl : gl_T) (v0 : Option Nat) (v1 : Int32) (v2 : Int32) (v3 : Int32) (v4 : Int32) (v5 : Int32) : st_M (Unit) :=
  st_g (so_gq v0 [10] 19) fun t1 =>
  st_g (so_gi v0 [10] 18) fun t2 =>
  st_w (so_si t1 0 t2 v1) (
  st_g (so_gq v0 [10] 20) fun t4 =>
  st_g (so_gi v0 [10] 18) fun t5 =>
  st_w (so_si t4 0 t5 v2) (
  st_g (so_gq v0 [10] 21) fun t7 =>
  st_g (so_gi v0 [10] 18) fun t8 =>
  st_w (so_si t7 0 t8 v3) (
  st_g (so_gq v0 [10] 22) fun t10 =>
  st_g (so_gi v0 [10] 18) fun t11 =>
  st_w (so_si t10 0 t11 v4) (
  st_g (so_gq v0 [10] 23) fun t13 =>
  st_g (so_gi v0 [10] 18) fun t14 =>
  st_w (so_si t13 0 t14 v5) (
  st_g (so_gi v0 [10] 18) fun t16 =>
  st_w (so_p v0 [10] 18 (.int (t16 + (1 : Int32)))) (
  st_r ()))))))
/-! PromiseVatsModel.go(IIIII)V -/
def mm_go_b102 (gl : gl_T) (q0 : Int32) (q1 : Option Nat) : st_M (Unit) :=
  st_w (so_p q1 [10] 30 (.int q0)) (
  st_r ())
def mm_go_b72 (gl : gl_T) (p0 : Option Nat) (p5 : Int32) : st_M (Unit) :=
  st_g (so_gq p0 [10] 31) fun t56 =>
  st_g (so_gi p0 [10] 30) fun t57 =>
  st_w (so_si t56 0 t57 p5) (
  if p5 ≤ 0 then
  (st_g (so_gi p0 [10] 30) fun t59 =>
  mm_go_b102 gl t59 p0)
  else
  (st_g (so_gi p0 [10] 30) fun t60 =>
  mm_go_b102 gl (t60 + (1 : Int32)) p0))
def mm_go_b173 (gl : gl_T) (p3 : Int32) (p4 : Int32) (p5 : Int32) (p6 : Int32) (q0 : Int32) (q1 : Option Nat) : st_M (Unit) :=
  st_g (so_cm q1 [10]) fun _ =>
  st_b (mm_rest gl q1 q0 p6 p3 p4 p5) fun _ =>
  st_r ()
def mm_go_b108 (gl : gl_T) (p0 : Option Nat) (p1 : Int32) (p3 : Int32) (p4 : Int32) (p5 : Int32) (p6 : Int32) : st_M (Unit) :=
  st_g (so_gq p0 [10] 6) fun t23 =>
  st_g (so_li t23 1 p6) fun t24 =>
  if t24 = p1 then
  (if p6 ≤ (100 : Int32) then
  (mm_go_b173 gl p3 p4 p5 p6 p1 p0)
  else
  (mm_go_b173 gl p3 p4 p5 p6 p6 p0))
  else
  (st_g (so_gq p0 [10] 6) fun t25 =>
  st_g (so_li t25 1 p6) fun t26 =>
  st_g (so_cm p0 [10]) fun _ =>
  st_b (mm_pack gl p0 p1 t26 p4) fun _ =>
  st_g (so_gq p0 [10] 6) fun t35 =>
  st_g (so_li t35 1 p6) fun t36 =>
  st_g (so_cm p0 [10]) fun _ =>
  st_b (mm_post gl p0 (1 : Int32) (((4 : Int32) * p1) + t36) p6 p3 p4 p5) fun _ =>
  st_r ())
def mm_go_b38 (gl : gl_T) (p0 : Option Nat) (p1 : Int32) (p3 : Int32) (p4 : Int32) (p5 : Int32) (p6 : Int32) : st_M (Unit) :=
  if p6 = 0 then
  (mm_go_b72 gl p0 p5)
  else
  (if p6 ≤ (100 : Int32) then
  (mm_go_b108 gl p0 p1 p3 p4 p5 p6)
  else
  (st_g (so_gq p0 [10] 6) fun t12 =>
  st_g (so_li t12 1 p6) fun t13 =>
  if t13 = p1 then
  (st_g (so_cm p0 [10]) fun _ =>
  st_b (mm_waits gl p0 p6) fun t14 =>
  if t14 < (8 : Int32) then
  (mm_go_b108 gl p0 p1 p3 p4 p5 p6)
  else
  (mm_go_b72 gl p0 p5))
  else
  (mm_go_b108 gl p0 p1 p3 p4 p5 p6)))
def mm_go_b6 (gl : gl_T) (rec6 : Option Nat × Int32 × Int32 × Int32 × Int32 × Int32 × Int32 → st_M (Unit)) (p0 : Option Nat) (p1 : Int32) (p3 : Int32) (p4 : Int32) (p5 : Int32) (p6 : Int32) (p7 : Int32) : st_M (Unit) :=
  if (100 : Int32) < p7 then
  (mm_go_b38 gl p0 p1 p3 p4 p5 p6)
  else
  (st_g (so_cm p0 [10]) fun _ =>
  st_b (mm_passes gl p0 p1 p6) fun t1 =>
  if t1 = 0 then
  (mm_go_b38 gl p0 p1 p3 p4 p5 p6)
  else
  (st_g (so_gq p0 [10] 9) fun t9 =>
  st_g (so_li t9 0 p6) fun t10 =>
  rec6 (p0, p1, p3, p4, p5, t10, (p7 + (1 : Int32)))))
def mm_go (gl : gl_T) (v0 : Option Nat) (v1 : Int32) (v2 : Int32) (v3 : Int32) (v4 : Int32) (v5 : Int32) : st_M (Unit) :=
  st_it (fun rec6 => (fun x : Option Nat × Int32 × Int32 × Int32 × Int32 × Int32 × Int32 => mm_go_b6 gl rec6 x.1 x.2.1 x.2.2.1 x.2.2.2.1 x.2.2.2.2.1 x.2.2.2.2.2.1 x.2.2.2.2.2.2)) fu_ (v0, v1, v3, v4, v5, v2, (0 : Int32))
/-! PromiseVatsModel.unrest(I)V -/
def mm_unrest_b12 (gl : gl_T) (rec12 : Option Nat × Int32 → st_M (Unit)) (p0 : Option Nat) (p2 : Int32) : st_M (Unit) :=
  st_g (so_gi p0 [10] 18) fun t3 =>
  if t3 ≤ p2 then
  (st_r ())
  else
  (st_g (so_gq p0 [10] 19) fun t4 =>
  st_g (so_gq p0 [10] 19) fun t5 =>
  st_g (so_li t5 0 (p2 + (1 : Int32))) fun t6 =>
  st_w (so_si t4 0 p2 t6) (
  st_g (so_gq p0 [10] 20) fun t8 =>
  st_g (so_gq p0 [10] 20) fun t9 =>
  st_g (so_li t9 0 (p2 + (1 : Int32))) fun t10 =>
  st_w (so_si t8 0 p2 t10) (
  st_g (so_gq p0 [10] 21) fun t12 =>
  st_g (so_gq p0 [10] 21) fun t13 =>
  st_g (so_li t13 0 (p2 + (1 : Int32))) fun t14 =>
  st_w (so_si t12 0 p2 t14) (
  st_g (so_gq p0 [10] 22) fun t16 =>
  st_g (so_gq p0 [10] 22) fun t17 =>
  st_g (so_li t17 0 (p2 + (1 : Int32))) fun t18 =>
  st_w (so_si t16 0 p2 t18) (
  st_g (so_gq p0 [10] 23) fun t20 =>
  st_g (so_gq p0 [10] 23) fun t21 =>
  st_g (so_li t21 0 (p2 + (1 : Int32))) fun t22 =>
  st_w (so_si t20 0 p2 t22) (
  rec12 (p0, (p2 + (1 : Int32)))))))))
def mm_unrest (gl : gl_T) (v0 : Option Nat) (v1 : Int32) : st_M (Unit) :=
  st_g (so_gi v0 [10] 18) fun t1 =>
  st_w (so_p v0 [10] 18 (.int (t1 - (1 : Int32)))) (
  st_it (fun rec12 => (fun x : Option Nat × Int32 => mm_unrest_b12 gl rec12 x.1 x.2)) fu_ (v0, v1))
/-! PromiseVatsModel.settle(III)V -/
def mm_settle_b137 (gl : gl_T) (rec137 : Option Nat × Int32 × Int32 × Int32 → st_M (Unit)) (p0 : Option Nat) (p1 : Int32) (p2 : Int32) (p5 : Int32) : st_M (Unit) :=
  st_g (so_gi p0 [10] 18) fun t44 =>
  if t44 ≤ p5 then
  (st_r ())
  else
  (st_g (so_gq p0 [10] 19) fun t45 =>
  st_g (so_li t45 0 p5) fun t46 =>
  if t46 = p2 then
  (st_g (so_gq p0 [10] 21) fun t47 =>
  st_g (so_li t47 0 p5) fun t48 =>
  st_g (so_gq p0 [10] 22) fun t49 =>
  st_g (so_li t49 0 p5) fun t50 =>
  st_g (so_gq p0 [10] 23) fun t51 =>
  st_g (so_li t51 0 p5) fun t52 =>
  st_g (so_cm p0 [10]) fun _ =>
  st_b (mm_unrest gl p0 p5) fun _ =>
  st_g (so_gq p0 [10] 9) fun t61 =>
  st_g (so_li t61 0 p2) fun t62 =>
  st_g (so_cm p0 [10]) fun _ =>
  st_b (mm_go gl p0 p1 t62 t48 t50 t52) fun _ =>
  rec137 (p0, p1, p2, p5))
  else
  (rec137 (p0, p1, p2, (p5 + (1 : Int32)))))
def mm_settle_b133 (gl : gl_T) (p0 : Option Nat) (p1 : Int32) (p2 : Int32) (q0 : Int32) (q1 : Int32) (q2 : Option Nat) : st_M (Unit) :=
  st_w (so_si q2 0 q1 q0) (
  st_it (fun rec137 => (fun x : Option Nat × Int32 × Int32 × Int32 => mm_settle_b137 gl rec137 x.1 x.2.1 x.2.2.1 x.2.2.2)) fu_ (p0, p1, p2, (0 : Int32)))
def mm_settle_b110 (gl : gl_T) (p0 : Option Nat) (p1 : Int32) (p2 : Int32) (p3 : Int32) (p4 : Int32) : st_M (Unit) :=
  st_g (so_gq p0 [10] 8) fun t40 =>
  st_g (so_z (1 : Int32)) fun _ =>
  st_w (so_si t40 2 p2 (1 : Int32)) (
  st_g (so_gq p0 [10] 9) fun t42 =>
  if p4 = p2 then
  (mm_settle_b133 gl p0 p1 p2 (0 : Int32) p2 t42)
  else
  (mm_settle_b133 gl p0 p1 p2 p3 p2 t42))
def mm_settle_b72 (gl : gl_T) (rec72 : Option Nat × Int32 × Int32 × Int32 × Int32 × Int32 → st_M (Unit)) (p0 : Option Nat) (p1 : Int32) (p2 : Int32) (p3 : Int32) (p4 : Int32) (p5 : Int32) : st_M (Unit) :=
  if (100 : Int32) < p5 then
  (mm_settle_b110 gl p0 p1 p2 p3 p4)
  else
  (if p4 = p2 then
  (mm_settle_b110 gl p0 p1 p2 p3 p4)
  else
  (st_g (so_cm p0 [10]) fun _ =>
  st_b (mm_passes gl p0 p1 p4) fun t29 =>
  if t29 = 0 then
  (mm_settle_b110 gl p0 p1 p2 p3 p4)
  else
  (st_g (so_gq p0 [10] 9) fun t37 =>
  st_g (so_li t37 0 p4) fun t38 =>
  rec72 (p0, p1, p2, p3, t38, (p5 + (1 : Int32))))))
def mm_settle (gl : gl_T) (v0 : Option Nat) (v1 : Int32) (v2 : Int32) (v3 : Int32) : st_M (Unit) :=
  if v2 = 0 then
  (st_r ())
  else
  (st_g (so_gq v0 [10] 6) fun t1 =>
  st_g (so_li t1 1 v2) fun t2 =>
  if t2 = v1 then
  (st_g (so_gq v0 [10] 7) fun t3 =>
  st_g (so_li t3 2 v2) fun t4 =>
  if t4 = 0 then
  (st_g (so_gq v0 [10] 8) fun t5 =>
  st_g (so_li t5 2 v2) fun t6 =>
  if t6 = 0 then
  (st_it (fun rec72 => (fun x : Option Nat × Int32 × Int32 × Int32 × Int32 × Int32 => mm_settle_b72 gl rec72 x.1 x.2.1 x.2.2.1 x.2.2.2.1 x.2.2.2.2.1 x.2.2.2.2.2)) fu_ (v0, v1, v2, v3, v3, (0 : Int32)))
  else
  (st_r ()))
  else
  (st_r ()))
  else
  (st_g (so_gq v0 [10] 6) fun t7 =>
  st_g (so_li t7 1 v2) fun t8 =>
  st_g (so_cm v0 [10]) fun _ =>
  st_b (mm_pack gl v0 v1 t8 v3) fun _ =>
  st_g (so_gq v0 [10] 6) fun t17 =>
  st_g (so_li t17 1 v2) fun t18 =>
  st_g (so_cm v0 [10]) fun _ =>
  st_b (mm_post gl v0 (2 : Int32) (((4 : Int32) * v1) + t18) v2 (0 : Int32) v3 (0 : Int32)) fun _ =>
  st_r ()))
/-! PromiseVatsModel.pair(IIII)V -/
def mm_pair_b50 (gl : gl_T) (p0 : Option Nat) (p2 : Int32) (p3 : Int32) (p4 : Int32) (p5 : Int32) (q0 : Int32) : st_M (Unit) :=
  st_g (so_gq p0 [10] 17) fun t5 =>
  st_g (so_gq p0 [10] 17) fun t6 =>
  st_g (so_li t6 0 p5) fun t7 =>
  st_w (so_si t5 0 p5 (t7 + p4)) (
  if q0 = 0 then
  (st_r ())
  else
  (st_g (so_gq p0 [10] 15) fun t9 =>
  st_g (so_li t9 0 (((4 : Int32) * p3) + p2)) fun t10 =>
  st_w (so_si t9 0 (((4 : Int32) * p3) + p2) (t10 + (1 : Int32))) (
  st_r ())))
def mm_pair (gl : gl_T) (v0 : Option Nat) (v1 : Int32) (v2 : Int32) (v3 : Int32) (v4 : Int32) : st_M (Unit) :=
  if v4 ≤ 0 then
  (st_g (so_gq v0 [10] 17) fun t1 =>
  st_g (so_li t1 0 ((((16 : Int32) * v3) + ((4 : Int32) * v1)) + v2)) fun t2 =>
  if t2 ≤ 0 then
  (mm_pair_b50 gl v0 v2 v3 v4 ((((16 : Int32) * v3) + ((4 : Int32) * v1)) + v2) (0 : Int32))
  else
  (mm_pair_b50 gl v0 v2 v3 v4 ((((16 : Int32) * v3) + ((4 : Int32) * v1)) + v2) (1 : Int32)))
  else
  (st_g (so_gq v0 [10] 17) fun t3 =>
  st_g (so_li t3 0 ((((16 : Int32) * v3) + ((4 : Int32) * v1)) + v2)) fun t4 =>
  if 0 ≤ t4 then
  (mm_pair_b50 gl v0 v2 v3 v4 ((((16 : Int32) * v3) + ((4 : Int32) * v1)) + v2) (0 : Int32))
  else
  (mm_pair_b50 gl v0 v2 v3 v4 ((((16 : Int32) * v3) + ((4 : Int32) * v1)) + v2) (1 : Int32)))
/-! PromiseVatsModel.mourn(I)V -/
def mm_mourn_b2 (gl : gl_T) (rec2 : Option Nat × Int32 × Int32 → st_M (Unit)) (p0 : Option Nat) (p1 : Int32) (p2 : Int32) : st_M (Unit) :=
  st_g (so_gi p0 [10] 30) fun t1 =>
  if t1 ≤ p2 then
  (st_w (so_p p0 [10] 30 (.int (0 : Int32))) (
  st_r ()))
  else
  (st_g (so_gq p0 [10] 31) fun t3 =>
  st_g (so_li t3 0 p2) fun t4 =>
  st_g (so_cm p0 [10]) fun _ =>
  st_b (mm_settle gl p0 p1 t4 (0 : Int32)) fun _ =>
  rec2 (p0, p1, (p2 + (1 : Int32))))
def mm_mourn (gl : gl_T) (v0 : Option Nat) (v1 : Int32) : st_M (Unit) :=
  st_it (fun rec2 => (fun x : Option Nat × Int32 × Int32 => mm_mourn_b2 gl rec2 x.1 x.2.1 x.2.2)) fu_ (v0, v1, (0 : Int32))
/-! PromiseVatsModel.deliver(II)I -/
def mm_deliver_b21 (gl : gl_T) : st_M (Int32) :=
  st_r (0 : Int32)
def mm_deliver_b183 (gl : gl_T) (p0 : Option Nat) (p2 : Int32) (p4 : Int32) : st_M (Int32) :=
  st_g (so_cm p0 [10]) fun _ =>
  st_b (mm_mourn gl p0 p2) fun _ =>
  st_r p4
def mm_deliver_b167 (gl : gl_T) (p0 : Option Nat) (p1 : Int32) (p2 : Int32) (p4 : Int32) (p5 : Int32) (p6 : Int32) : st_M (Int32) :=
  if p4 = (5 : Int32) then
  (st_g (so_cm p0 [10]) fun _ =>
  st_b (mm_pair gl p0 p6 p1 p5 (-1 : Int32)) fun _ =>
  mm_deliver_b183 gl p0 p2 p4)
  else
  (mm_deliver_b183 gl p0 p2 p4)
def mm_deliver_b151 (gl : gl_T) (p0 : Option Nat) (p1 : Int32) (p2 : Int32) (p4 : Int32) (p5 : Int32) (p6 : Int32) : st_M (Int32) :=
  if p4 = (4 : Int32) then
  (st_g (so_cm p0 [10]) fun _ =>
  st_b (mm_pair gl p0 p1 p6 p5 (1 : Int32)) fun _ =>
  mm_deliver_b167 gl p0 p1 p2 p4 p5 p6)
  else
  (mm_deliver_b167 gl p0 p1 p2 p4 p5 p6)
def mm_deliver_b129 (gl : gl_T) (p0 : Option Nat) (p1 : Int32) (p2 : Int32) (p4 : Int32) (p5 : Int32) (p6 : Int32) : st_M (Int32) :=
  if p4 = (3 : Int32) then
  (st_g (so_gq p0 [10] 15) fun t74 =>
  st_g (so_li t74 0 (((4 : Int32) * p5) + p1)) fun t75 =>
  st_w (so_si t74 0 (((4 : Int32) * p5) + p1) (t75 - p6)) (
  mm_deliver_b151 gl p0 p1 p2 p4 p5 p6))
  else
  (mm_deliver_b151 gl p0 p1 p2 p4 p5 p6)
def mm_deliver_b114 (gl : gl_T) (p0 : Option Nat) (p1 : Int32) (p2 : Int32) (p4 : Int32) (p5 : Int32) (p6 : Int32) (p7 : Int32) : st_M (Int32) :=
  if p4 = (2 : Int32) then
  (st_g (so_cm p0 [10]) fun _ =>
  st_b (mm_settle gl p0 p2 p5 p7) fun _ =>
  mm_deliver_b129 gl p0 p1 p2 p4 p5 p6)
  else
  (mm_deliver_b129 gl p0 p1 p2 p4 p5 p6)
def mm_deliver (gl : gl_T) (v0 : Option Nat) (v1 : Int32) (v2 : Int32) : st_M (Int32) :=
  st_g (so_cm v0 [10]) fun _ =>
  st_b (mm_vat gl v0 v1) fun t1 =>
  if t1 = 0 then
  (mm_deliver_b21 gl )
  else
  (st_g (so_cm v0 [10]) fun _ =>
  st_b (mm_vat gl v0 v2) fun t9 =>
  if t9 = 0 then
  (mm_deliver_b21 gl )
  else
  (if v1 = v2 then
  (mm_deliver_b21 gl )
  else
  (st_g (so_cm v0 [10]) fun _ =>
  st_b (mm_oldest gl v0 (((4 : Int32) * v1) + v2)) fun t17 =>
  if 0 ≤ t17 then
  (st_g (so_gq v0 [10] 25) fun t25 =>
  st_g (so_li t25 1 t17) fun t26 =>
  st_g (so_gq v0 [10] 26) fun t27 =>
  st_g (so_li t27 3 t17) fun t28 =>
  st_g (so_gq v0 [10] 27) fun t29 =>
  st_g (so_li t29 0 t17) fun t30 =>
  st_g (so_gq v0 [10] 28) fun t31 =>
  st_g (so_li t31 3 t17) fun t32 =>
  st_g (so_gq v0 [10] 29) fun t33 =>
  st_g (so_li t33 3 t17) fun t34 =>
  st_g (so_cm v0 [10]) fun _ =>
  st_b (mm_unmail gl v0 t17) fun _ =>
  st_g (so_cm v0 [10]) fun _ =>
  st_b (mm_unpack gl v0 v1 v2 t32) fun _ =>
  if (t26 / (16 : Int32)) = (1 : Int32) then
  (st_g (so_cm v0 [10]) fun _ =>
  st_b (mm_go gl v0 v2 t28 t30 t32 t34) fun _ =>
  mm_deliver_b114 gl v0 v1 v2 (t26 / (16 : Int32)) t28 t30 t32)
  else
  (mm_deliver_b114 gl v0 v1 v2 (t26 / (16 : Int32)) t28 t30 t32))
  else
  (st_r (0 : Int32)))))
/-! PromiseVatsModel.give(III)Z -/
def mm_give_b25 (gl : gl_T) : st_M (Int32) :=
  st_r (0 : Int32)
def mm_give_b79 (gl : gl_T) : st_M (Int32) :=
  st_r (1 : Int32)
def mm_give (gl : gl_T) (v0 : Option Nat) (v1 : Int32) (v2 : Int32) (v3 : Int32) : st_M (Int32) :=
  st_g (so_cm v0 [10]) fun _ =>
  st_b (mm_vat gl v0 v1) fun t1 =>
  if t1 = 0 then
  (mm_give_b25 gl )
  else
  (st_g (so_cm v0 [10]) fun _ =>
  st_b (mm_vat gl v0 v3) fun t9 =>
  if t9 = 0 then
  (mm_give_b25 gl )
  else
  (if v2 < 0 then
  (mm_give_b25 gl )
  else
  (if v2 ≤ (3 : Int32) then
  (st_g (so_gq v0 [10] 13) fun t17 =>
  st_w (so_si t17 0 (((4 : Int32) * (v1 + (1 : Int32))) + v2) (v3 + (1 : Int32))) (
  if v1 = v3 then
  (mm_give_b79 gl )
  else
  (st_g (so_gq v0 [10] 15) fun t19 =>
  st_g (so_li t19 0 (((4 : Int32) * (v3 + (1 : Int32))) + v1)) fun t20 =>
  st_w (so_si t19 0 (((4 : Int32) * (v3 + (1 : Int32))) + v1) (t20 + (1 : Int32))) (
  st_g (so_gq v0 [10] 16) fun t22 =>
  st_g (so_li t22 0 (((4 : Int32) * (v3 + (1 : Int32))) + v1)) fun t23 =>
  st_w (so_si t22 0 (((4 : Int32) * (v3 + (1 : Int32))) + v1) (t23 + (1 : Int32))) (
  mm_give_b79 gl )))))
  else
  (mm_give_b25 gl ))))
/-! PromiseVatsModel.inbox(I)I -/
def mm_inbox_b37 (gl : gl_T) (rec4 : Option Nat × Int32 × Int32 × Int32 → st_M (Int32)) (p0 : Option Nat) (p1 : Int32) (p3 : Int32) (q0 : Int32) : st_M (Int32) :=
  rec4 (p0, p1, q0, (p3 + (1 : Int32)))
def mm_inbox_b44 (gl : gl_T) (p2 : Int32) : st_M (Int32) :=
  st_r p2
def mm_inbox_b4 (gl : gl_T) (rec4 : Option Nat × Int32 × Int32 × Int32 → st_M (Int32)) (p0 : Option Nat) (p1 : Int32) (p2 : Int32) (p3 : Int32) : st_M (Int32) :=
  st_g (so_gi p0 [10] 18) fun t1 =>
  if t1 ≤ p3 then
  (mm_inbox_b44 gl p2)
  else
  (st_g (so_cm p0 [10]) fun _ =>
  st_b (mm_vat gl p0 p1) fun t2 =>
  if t2 = 0 then
  (mm_inbox_b44 gl p2)
  else
  (st_g (so_gq p0 [10] 19) fun t10 =>
  st_g (so_li t10 0 p3) fun t11 =>
  if t11 = p1 then
  (mm_inbox_b37 gl rec4 p0 p1 p3 (p2 + (1 : Int32)))
  else
  (mm_inbox_b37 gl rec4 p0 p1 p3 p2)))
def mm_inbox (gl : gl_T) (v0 : Option Nat) (v1 : Int32) : st_M (Int32) :=
  st_it (fun rec4 => (fun x : Option Nat × Int32 × Int32 × Int32 => mm_inbox_b4 gl rec4 x.1 x.2.1 x.2.2.1 x.2.2.2)) fu_ (v0, v1, (0 : Int32), (0 : Int32))
/-! PromiseVatsModel.poke(II)Z -/
def mm_poke_b18 (gl : gl_T) : st_M (Int32) :=
  st_r (0 : Int32)
def mm_poke (gl : gl_T) (v0 : Option Nat) (v1 : Int32) (v2 : Int32) : st_M (Int32) :=
  st_g (so_cm v0 [10]) fun _ =>
  st_b (mm_vat gl v0 v1) fun t1 =>
  if t1 = 0 then
  (mm_poke_b18 gl )
  else
  (st_g (so_cm v0 [10]) fun _ =>
  st_b (mm_inbox gl v0 v1) fun t9 =>
  if t9 < (20 : Int32) then
  (st_g (so_cm v0 [10]) fun _ =>
  st_b (mm_rest gl v0 v1 (v1 + (1 : Int32)) v2 (0 : Int32) (0 : Int32)) fun _ =>
  st_r (1 : Int32))
  else
  (mm_poke_b18 gl ))
/-! PromiseVatsModel.fresh(II)I -/
def mm_fresh (gl : gl_T) (v0 : Option Nat) (v1 : Int32) (v2 : Int32) : st_M (Int32) :=
  st_g (so_gi v0 [10] 1) fun t1 =>
  if t1 < (60 : Int32) then
  (st_g (so_gi v0 [10] 1) fun t2 =>
  st_w (so_p v0 [10] 1 (.int (t2 + (1 : Int32)))) (
  st_g (so_gq v0 [10] 6) fun t4 =>
  st_g (so_gi v0 [10] 1) fun t5 =>
  st_w (so_si t4 1 t5 ((v1.toInt8.toInt32).toInt8.toInt32)) (
  st_g (so_gq v0 [10] 11) fun t7 =>
  st_g (so_gi v0 [10] 1) fun t8 =>
  st_w (so_si t7 1 t8 ((v2.toInt8.toInt32).toInt8.toInt32)) (
  st_g (so_gq v0 [10] 12) fun t10 =>
  st_g (so_gi v0 [10] 1) fun t11 =>
  st_g (so_gi v0 [10] 34) fun t12 =>
  st_w (so_si t10 0 t11 t12) (
  st_g (so_gq v0 [10] 13) fun t14 =>
  st_g (so_gi v0 [10] 1) fun t15 =>
  st_g (so_gi v0 [10] 35) fun t16 =>
  st_w (so_si t14 0 ((4 : Int32) * t15) t16) (
  st_g (so_gi v0 [10] 1) fun t18 =>
  st_r t18))))))
  else
  (st_r (0 : Int32))
/-! PromiseVatsModel.send(II)I -/
def mm_send_b13 (gl : gl_T) : st_M (Int32) :=
  st_r (0 : Int32)
def mm_send (gl : gl_T) (v0 : Option Nat) (v1 : Int32) (v2 : Int32) : st_M (Int32) :=
  if v2 = 0 then
  (mm_send_b13 gl )
  else
  (st_g (so_gi v0 [10] 2) fun t1 =>
  if t1 < (100 : Int32) then
  (st_g (so_gi v0 [10] 2) fun t2 =>
  st_w (so_p v0 [10] 2 (.int (t2 + (1 : Int32)))) (
  st_g (so_gi v0 [10] 2) fun t4 =>
  st_g (so_gq v0 [10] 6) fun t5 =>
  st_g (so_li t5 1 v2) fun t6 =>
  st_g (so_gq v0 [10] 6) fun t7 =>
  st_w (so_si t7 1 ((100 : Int32) + t4) ((t6.toInt8.toInt32).toInt8.toInt32)) (
  if t6 = v1 then
  (st_g (so_gi v0 [10] 34) fun t9 =>
  st_g (so_gi v0 [10] 35) fun t10 =>
  st_g (so_cm v0 [10]) fun _ =>
  st_b (mm_go gl v0 v1 v2 t9 t10 ((100 : Int32) + t4)) fun _ =>
  st_g (so_cm v0 [10]) fun _ =>
  st_b (mm_mourn gl v0 v1) fun _ =>
  st_r ((100 : Int32) + t4))
  else
  (st_g (so_gi v0 [10] 35) fun t29 =>
  st_g (so_cm v0 [10]) fun _ =>
  st_b (mm_pack gl v0 v1 t6 t29) fun _ =>
  st_g (so_gi v0 [10] 34) fun t38 =>
  st_g (so_gi v0 [10] 35) fun t39 =>
  st_g (so_cm v0 [10]) fun _ =>
  st_b (mm_post gl v0 (1 : Int32) (((4 : Int32) * v1) + t6) v2 t38 t39 ((100 : Int32) + t4)) fun _ =>
  st_g (so_gq v0 [10] 15) fun t48 =>
  st_w (so_si t48 0 (((4 : Int32) * ((100 : Int32) + t4)) + v1) (1 : Int32)) (
  st_g (so_gq v0 [10] 16) fun t50 =>
  st_w (so_si t50 0 (((4 : Int32) * ((100 : Int32) + t4)) + v1) (1 : Int32)) (
  st_r ((100 : Int32) + t4)))))))
  else
  (mm_send_b13 gl ))
/-! PromiseVatsModel.put(I)V -/
def mm_put (gl : gl_T) (v0 : Option Nat) (v1 : Int32) : st_M (Unit) :=
  st_g (so_gq v0 [10] 33) fun t1 =>
  st_g (so_gq v0 [10] 32) fun t2 =>
  st_g (so_li t2 0 v1) fun t3 =>
  st_g (so_gi v0 [10] 34) fun t4 =>
  st_w (so_si t1 0 (((10 : Int32) * v1) + (t3 - t3 / (10 : Int32) * (10 : Int32))) t4) (
  st_g (so_gq v0 [10] 32) fun t6 =>
  st_g (so_li t6 0 v1) fun t7 =>
  st_w (so_si t6 0 v1 (t7 + (1 : Int32))) (
  st_r ()))
/-! PromiseVatsModel.act(IIII)I -/
def mm_act_b204 (gl : gl_T) : st_M (Int32) :=
  st_r (0 : Int32)
def mm_act (gl : gl_T) (v0 : Option Nat) (v1 : Int32) (v2 : Int32) (v3 : Int32) (v4 : Int32) : st_M (Int32) :=
  (if v3 = (0 : Int32) then
  (st_w (so_p v0 [10] 34 (.int v4)) (
  mm_act_b204 gl ))
  else
  (if v3 = (1 : Int32) then
  (st_g (so_gi v0 [10] 34) fun t2 =>
  st_g (so_gq v0 [10] 12) fun t3 =>
  st_g (so_li t3 0 v2) fun t4 =>
  st_w (so_p v0 [10] 34 (.int (t2 + t4))) (
  mm_act_b204 gl ))
  else
  (if v3 = (2 : Int32) then
  (st_g (so_gq v0 [10] 12) fun t6 =>
  st_g (so_gi v0 [10] 34) fun t7 =>
  st_w (so_si t6 0 v2 t7) (
  mm_act_b204 gl ))
  else
  (if v3 = (3 : Int32) then
  (st_g (so_gq v0 [10] 13) fun t9 =>
  st_g (so_gi v0 [10] 35) fun t10 =>
  st_w (so_si t9 0 (((4 : Int32) * v2) + v4) t10) (
  mm_act_b204 gl ))
  else
  (if v3 = (4 : Int32) then
  (st_g (so_gq v0 [10] 13) fun t12 =>
  st_g (so_li t12 0 (((4 : Int32) * v2) + v4)) fun t13 =>
  st_w (so_p v0 [10] 35 (.int t13)) (
  mm_act_b204 gl ))
  else
  (if v3 = (5 : Int32) then
  (st_w (so_p v0 [10] 35 (.int v2)) (
  mm_act_b204 gl ))
  else
  (if v3 = (6 : Int32) then
  (st_g (so_cm v0 [10]) fun _ =>
  st_b (mm_fresh gl v0 v1 v4) fun t16 =>
  st_w (so_p v0 [10] 35 (.int t16)) (
  mm_act_b204 gl ))
  else
  (if v3 = (7 : Int32) then
  (st_g (so_gq v0 [10] 13) fun t26 =>
  st_g (so_li t26 0 (((4 : Int32) * v2) + v4)) fun t27 =>
  st_g (so_cm v0 [10]) fun _ =>
  st_b (mm_send gl v0 v1 t27) fun t28 =>
  st_w (so_p v0 [10] 35 (.int t28)) (
  mm_act_b204 gl ))
  else
  (if v3 = (8 : Int32) then
  (st_g (so_gi v0 [10] 34) fun t38 =>
  if t38 = 0 then
  (st_r v4)
  else
  (st_r (0 : Int32)))
  else
  (if v3 = (9 : Int32) then
  (st_g (so_cm v0 [10]) fun _ =>
  st_b (mm_put gl v0 v1) fun _ =>
  mm_act_b204 gl )
  else
  (st_w (so_p v0 [10] 35 (.int (0 : Int32))) (
  mm_act_b204 gl ))))))))))))
/-! PromiseVatsModel.turn(I)I -/
def mm_turn_b42 (gl : gl_T) : st_M (Int32) :=
  st_r (-1 : Int32)
def mm_turn_b95 (gl : gl_T) (rec95 : Option Nat × Int32 × Int32 × Int32 × Int32 × Int32 → st_M (Int32)) (p0 : Option Nat) (p1 : Int32) (p3 : Int32) (p4 : Int32) (p5 : Int32) (p6 : Int32) : st_M (Int32) :=
  st_g (so_gq p0 [10] 3) fun t35 =>
  st_g (so_li t35 0 p5) fun t36 =>
  if t36 ≤ p6 then
  (st_g (so_gi p0 [10] 35) fun t37 =>
  st_g (so_cm p0 [10]) fun _ =>
  st_b (mm_settle gl p0 p1 p4 t37) fun _ =>
  st_g (so_cm p0 [10]) fun _ =>
  st_b (mm_mourn gl p0 p1) fun _ =>
  st_r p3)
  else
  (st_g (so_gq p0 [10] 4) fun t56 =>
  st_g (so_li t56 0 (((8 : Int32) * p5) + p6)) fun t57 =>
  st_g (so_gq p0 [10] 5) fun t58 =>
  st_g (so_li t58 0 (((8 : Int32) * p5) + p6)) fun t59 =>
  st_g (so_cm p0 [10]) fun _ =>
  st_b (mm_act gl p0 p1 p3 t57 t59) fun t60 =>
  rec95 (p0, p1, p3, p4, p5, ((p6 + (1 : Int32)) + t60)))
def mm_turn_b26 (gl : gl_T) (p0 : Option Nat) (p1 : Int32) (p2 : Int32) : st_M (Int32) :=
  st_g (so_cm p0 [10]) fun _ =>
  st_b (mm_vat gl p0 p1) fun t4 =>
  if t4 = 0 then
  (mm_turn_b42 gl )
  else
  (st_g (so_gi p0 [10] 18) fun t12 =>
  if p2 < t12 then
  (st_g (so_gq p0 [10] 20) fun t13 =>
  st_g (so_li t13 0 p2) fun t14 =>
  st_g (so_gq p0 [10] 21) fun t15 =>
  st_g (so_li t15 0 p2) fun t16 =>
  st_w (so_p p0 [10] 34 (.int t16)) (
  st_g (so_gq p0 [10] 22) fun t18 =>
  st_g (so_li t18 0 p2) fun t19 =>
  st_w (so_p p0 [10] 35 (.int t19)) (
  st_g (so_gq p0 [10] 23) fun t21 =>
  st_g (so_li t21 0 p2) fun t22 =>
  st_g (so_cm p0 [10]) fun _ =>
  st_b (mm_unrest gl p0 p2) fun _ =>
  st_g (so_gq p0 [10] 11) fun t31 =>
  st_g (so_li t31 1 t14) fun t32 =>
  st_it (fun rec95 => (fun x : Option Nat × Int32 × Int32 × Int32 × Int32 × Int32 => mm_turn_b95 gl rec95 x.1 x.2.1 x.2.2.1 x.2.2.2.1 x.2.2.2.2.1 x.2.2.2.2.2)) fu_ (p0, p1, t14, t22, t32, (0 : Int32)))))
  else
  (mm_turn_b42 gl ))
def mm_turn_b2 (gl : gl_T) (rec2 : Option Nat × Int32 × Int32 → st_M (Int32)) (p0 : Option Nat) (p1 : Int32) (p2 : Int32) : st_M (Int32) :=
  st_g (so_gi p0 [10] 18) fun t1 =>
  if t1 ≤ p2 then
  (mm_turn_b26 gl p0 p1 p2)
  else
  (st_g (so_gq p0 [10] 19) fun t2 =>
  st_g (so_li t2 0 p2) fun t3 =>
  if t3 = p1 then
  (mm_turn_b26 gl p0 p1 p2)
  else
  (rec2 (p0, p1, (p2 + (1 : Int32)))))
def mm_turn (gl : gl_T) (v0 : Option Nat) (v1 : Int32) : st_M (Int32) :=
  st_it (fun rec2 => (fun x : Option Nat × Int32 × Int32 => mm_turn_b2 gl rec2 x.1 x.2.1 x.2.2)) fu_ (v0, v1, (0 : Int32))
/-! PromiseVatsModel.made(I)Z -/
def mm_made_b30 (gl : gl_T) : st_M (Int32) :=
  st_r (1 : Int32)
def mm_made_b34 (gl : gl_T) : st_M (Int32) :=
  st_r (0 : Int32)
def mm_made_b13 (gl : gl_T) (p0 : Option Nat) (p1 : Int32) : st_M (Int32) :=
  if p1 < (101 : Int32) then
  (mm_made_b34 gl )
  else
  (st_g (so_gi p0 [10] 2) fun t2 =>
  if ((100 : Int32) + t2) < p1 then
  (mm_made_b34 gl )
  else
  (mm_made_b30 gl ))
def mm_made (gl : gl_T) (v0 : Option Nat) (v1 : Int32) : st_M (Int32) :=
  if v1 < (1 : Int32) then
  (mm_made_b13 gl v0 v1)
  else
  (st_g (so_gi v0 [10] 1) fun t1 =>
  if v1 ≤ t1 then
  (mm_made_b30 gl )
  else
  (mm_made_b13 gl v0 v1))
/-! PromiseVatsModel.lives(I)Z -/
def mm_lives_b21 (gl : gl_T) : st_M (Int32) :=
  st_r (0 : Int32)
def mm_lives (gl : gl_T) (v0 : Option Nat) (v1 : Int32) : st_M (Int32) :=
  st_g (so_cm v0 [10]) fun _ =>
  st_b (mm_made gl v0 v1) fun t1 =>
  if t1 = 0 then
  (mm_lives_b21 gl )
  else
  (st_g (so_gq v0 [10] 7) fun t9 =>
  st_g (so_li t9 2 v1) fun t10 =>
  if t10 = 0 then
  (st_r (1 : Int32))
  else
  (mm_lives_b21 gl ))
/-! PromiseVatsModel.rooted(II)Z -/
def mm_rooted_b45 (gl : gl_T) (rec16 : Option Nat × Int32 × Int32 × Int32 → st_M (Int32)) (p0 : Option Nat) (p2 : Int32) (p4 : Int32) (q0 : Int32) : st_M (Int32) :=
  rec16 (p0, p2, q0, (p4 + (1 : Int32)))
def mm_rooted_b40 (gl : gl_T) (rec16 : Option Nat × Int32 × Int32 × Int32 → st_M (Int32)) (p0 : Option Nat) (p2 : Int32) (p4 : Int32) : st_M (Int32) :=
  mm_rooted_b45 gl rec16 p0 p2 p4 (1 : Int32)
def mm_rooted_b86 (gl : gl_T) (rec55 : Option Nat × Int32 × Int32 × Int32 → st_M (Int32)) (p0 : Option Nat) (p2 : Int32) (p4 : Int32) (q0 : Int32) : st_M (Int32) :=
  rec55 (p0, p2, q0, (p4 + (1 : Int32)))
def mm_rooted_b81 (gl : gl_T) (rec55 : Option Nat × Int32 × Int32 × Int32 → st_M (Int32)) (p0 : Option Nat) (p2 : Int32) (p4 : Int32) : st_M (Int32) :=
  mm_rooted_b86 gl rec55 p0 p2 p4 (1 : Int32)
def mm_rooted_b55 (gl : gl_T) (rec55 : Option Nat × Int32 × Int32 × Int32 → st_M (Int32)) (p0 : Option Nat) (p2 : Int32) (p3 : Int32) (p4 : Int32) : st_M (Int32) :=
  if (16 : Int32) ≤ p4 then
  (st_g (so_z p3) fun _ =>
  st_r p3)
  else
  (if p3 = 0 then
  (st_g (so_gq p0 [10] 17) fun t3 =>
  st_g (so_li t3 0 (((16 : Int32) * p2) + p4)) fun t4 =>
  if t4 ≤ 0 then
  (mm_rooted_b86 gl rec55 p0 p2 p4 (0 : Int32))
  else
  (mm_rooted_b81 gl rec55 p0 p2 p4))
  else
  (mm_rooted_b81 gl rec55 p0 p2 p4))
def mm_rooted_b16 (gl : gl_T) (rec16 : Option Nat × Int32 × Int32 × Int32 → st_M (Int32)) (p0 : Option Nat) (p2 : Int32) (p3 : Int32) (p4 : Int32) : st_M (Int32) :=
  if (4 : Int32) ≤ p4 then
  (st_it (fun rec55 => (fun x : Option Nat × Int32 × Int32 × Int32 => mm_rooted_b55 gl rec55 x.1 x.2.1 x.2.2.1 x.2.2.2)) fu_ (p0, p2, p3, (0 : Int32)))
  else
  (if p3 = 0 then
  (st_g (so_gq p0 [10] 15) fun t1 =>
  st_g (so_li t1 0 (((4 : Int32) * p2) + p4)) fun t2 =>
  if t2 ≤ 0 then
  (mm_rooted_b45 gl rec16 p0 p2 p4 (0 : Int32))
  else
  (mm_rooted_b40 gl rec16 p0 p2 p4))
  else
  (mm_rooted_b40 gl rec16 p0 p2 p4))
def mm_rooted_b12 (gl : gl_T) (p0 : Option Nat) (p2 : Int32) (q0 : Int32) : st_M (Int32) :=
  st_it (fun rec16 => (fun x : Option Nat × Int32 × Int32 × Int32 => mm_rooted_b16 gl rec16 x.1 x.2.1 x.2.2.1 x.2.2.2)) fu_ (p0, p2, q0, (0 : Int32))
def mm_rooted (gl : gl_T) (v0 : Option Nat) (v1 : Int32) (v2 : Int32) : st_M (Int32) :=
  if v2 = (v1 + (1 : Int32)) then
  (mm_rooted_b12 gl v0 v2 (1 : Int32))
  else
  (mm_rooted_b12 gl v0 v2 (0 : Int32))
/-! PromiseVatsModel.mark(I)V -/
def mm_mark (gl : gl_T) (v0 : Option Nat) (v1 : Int32) : st_M (Unit) :=
  if v1 = 0 then
  (st_r ())
  else
  (st_g (so_gq v0 [10] 10) fun t1 =>
  st_g (so_li t1 2 v1) fun t2 =>
  if t2 = 0 then
  (st_g (so_gq v0 [10] 10) fun t3 =>
  st_g (so_z (1 : Int32)) fun _ =>
  st_w (so_si t3 2 v1 (1 : Int32)) (
  st_w (so_p v0 [10] 14 (.int (1 : Int32))) (
  st_r ())))
  else
  (st_r ()))
/-! PromiseVatsModel.spread(I)V -/
def mm_spread_b98 (gl : gl_T) (rec2 : Option Nat × Int32 × Int32 → st_M (Unit)) (p0 : Option Nat) (p1 : Int32) (p2 : Int32) : st_M (Unit) :=
  rec2 (p0, p1, (p2 + (1 : Int32)))
def mm_spread_b67 (gl : gl_T) (rec2 : Option Nat × Int32 × Int32 → st_M (Unit)) (rec67 : Option Nat × Int32 × Int32 × Int32 → st_M (Unit)) (p0 : Option Nat) (p1 : Int32) (p2 : Int32) (p3 : Int32) : st_M (Unit) :=
  if (4 : Int32) ≤ p3 then
  (mm_spread_b98 gl rec2 p0 p1 p2)
  else
  (if (60 : Int32) < p2 then
  (mm_spread_b98 gl rec2 p0 p1 p2)
  else
  (st_g (so_gq p0 [10] 13) fun t27 =>
  st_g (so_li t27 0 (((4 : Int32) * p2) + p3)) fun t28 =>
  st_g (so_cm p0 [10]) fun _ =>
  st_b (mm_mark gl p0 t28) fun _ =>
  rec67 (p0, p1, p2, (p3 + (1 : Int32)))))
def mm_spread_b65 (gl : gl_T) (rec2 : Option Nat × Int32 × Int32 → st_M (Unit)) (p0 : Option Nat) (p1 : Int32) (p2 : Int32) : st_M (Unit) :=
  st_it (fun rec67 => (fun x : Option Nat × Int32 × Int32 × Int32 => mm_spread_b67 gl rec2 rec67 x.1 x.2.1 x.2.2.1 x.2.2.2)) fu_ (p0, p1, p2, (0 : Int32))
def mm_spread_b62 (gl : gl_T) (rec2 : Option Nat × Int32 × Int32 → st_M (Unit)) (p0 : Option Nat) (p1 : Int32) (p2 : Int32) (q0 : Int32) (q1 : Option Nat) : st_M (Unit) :=
  st_g (so_cm q1 [10]) fun _ =>
  st_b (mm_mark gl q1 q0) fun _ =>
  mm_spread_b65 gl rec2 p0 p1 p2
def mm_spread_b164 (gl : gl_T) (rec106 : Option Nat × Int32 × Int32 → st_M (Unit)) (p0 : Option Nat) (p1 : Int32) (p2 : Int32) : st_M (Unit) :=
  rec106 (p0, p1, (p2 + (1 : Int32)))
def mm_spread_b106 (gl : gl_T) (rec106 : Option Nat × Int32 × Int32 → st_M (Unit)) (p0 : Option Nat) (p1 : Int32) (p2 : Int32) : st_M (Unit) :=
  st_g (so_gi p0 [10] 18) fun t38 =>
  if t38 ≤ p2 then
  (st_r ())
  else
  (st_g (so_gq p0 [10] 19) fun t39 =>
  st_g (so_li t39 0 p2) fun t40 =>
  if t40 ≤ (100 : Int32) then
  (mm_spread_b164 gl rec106 p0 p1 p2)
  else
  (st_g (so_gq p0 [10] 6) fun t41 =>
  st_g (so_gq p0 [10] 19) fun t42 =>
  st_g (so_li t42 0 p2) fun t43 =>
  st_g (so_li t41 1 t43) fun t44 =>
  if t44 = p1 then
  (st_g (so_gq p0 [10] 10) fun t45 =>
  st_g (so_gq p0 [10] 19) fun t46 =>
  st_g (so_li t46 0 p2) fun t47 =>
  st_g (so_li t45 2 t47) fun t48 =>
  if t48 = 0 then
  (mm_spread_b164 gl rec106 p0 p1 p2)
  else
  (st_g (so_gq p0 [10] 22) fun t49 =>
  st_g (so_li t49 0 p2) fun t50 =>
  st_g (so_cm p0 [10]) fun _ =>
  st_b (mm_mark gl p0 t50) fun _ =>
  mm_spread_b164 gl rec106 p0 p1 p2))
  else
  (mm_spread_b164 gl rec106 p0 p1 p2)))
def mm_spread_b2 (gl : gl_T) (rec2 : Option Nat × Int32 × Int32 → st_M (Unit)) (p0 : Option Nat) (p1 : Int32) (p2 : Int32) : st_M (Unit) :=
  if (200 : Int32) < p2 then
  (st_it (fun rec106 => (fun x : Option Nat × Int32 × Int32 => mm_spread_b106 gl rec106 x.1 x.2.1 x.2.2)) fu_ (p0, p1, (0 : Int32)))
  else
  (st_g (so_cm p0 [10]) fun _ =>
  st_b (mm_lives gl p0 p2) fun t1 =>
  if t1 = 0 then
  (mm_spread_b98 gl rec2 p0 p1 p2)
  else
  (st_g (so_gq p0 [10] 6) fun t9 =>
  st_g (so_li t9 1 p2) fun t10 =>
  if t10 = p1 then
  (st_g (so_gq p0 [10] 10) fun t11 =>
  st_g (so_li t11 2 p2) fun t12 =>
  if t12 = 0 then
  (mm_spread_b98 gl rec2 p0 p1 p2)
  else
  (if p2 ≤ (100 : Int32) then
  (mm_spread_b65 gl rec2 p0 p1 p2)
  else
  (st_g (so_gq p0 [10] 8) fun t13 =>
  st_g (so_li t13 2 p2) fun t14 =>
  if t14 = 0 then
  (mm_spread_b62 gl rec2 p0 p1 p2 (0 : Int32) p0)
  else
  (st_g (so_gq p0 [10] 9) fun t15 =>
  st_g (so_li t15 0 p2) fun t16 =>
  mm_spread_b62 gl rec2 p0 p1 p2 t16 p0))))
  else
  (mm_spread_b98 gl rec2 p0 p1 p2)))
def mm_spread (gl : gl_T) (v0 : Option Nat) (v1 : Int32) : st_M (Unit) :=
  st_it (fun rec2 => (fun x : Option Nat × Int32 × Int32 => mm_spread_b2 gl rec2 x.1 x.2.1 x.2.2)) fu_ (v0, v1, (1 : Int32))
/-! PromiseVatsModel.sweep(I)I -/
def mm_sweep_b56 (gl : gl_T) (rec12 : Option Nat × Int32 × Int32 → st_M (Int32)) (p0 : Option Nat) (p1 : Int32) (p2 : Int32) (q0 : Int32) (q1 : Int32) (q2 : Option Nat) : st_M (Int32) :=
  st_g (so_z q0) fun _ =>
  st_w (so_si q2 2 q1 q0) (
  rec12 (p0, p1, (p2 + (1 : Int32))))
def mm_sweep_b55 (gl : gl_T) (rec12 : Option Nat × Int32 × Int32 → st_M (Int32)) (p0 : Option Nat) (p1 : Int32) (p2 : Int32) (q0 : Int32) (q1 : Option Nat) : st_M (Int32) :=
  mm_sweep_b56 gl rec12 p0 p1 p2 (0 : Int32) q0 q1
def mm_sweep_b142 (gl : gl_T) (rec65 : Option Nat × Int32 × Int32 → st_M (Int32)) (p0 : Option Nat) (p1 : Int32) (p2 : Int32) : st_M (Int32) :=
  rec65 (p0, p1, (p2 + (1 : Int32)))
def mm_sweep_b233 (gl : gl_T) (rec189 : Option Nat × Int32 × Int32 × Int32 → st_M (Int32)) (p0 : Option Nat) (p1 : Int32) (p2 : Int32) (p3 : Int32) : st_M (Int32) :=
  rec189 (p0, p1, p2, (p3 + (1 : Int32)))
def mm_sweep_b305 (gl : gl_T) (rec241 : Option Nat × Int32 × Int32 × Int32 → st_M (Int32)) (p0 : Option Nat) (p1 : Int32) (p2 : Int32) (p3 : Int32) : st_M (Int32) :=
  rec241 (p0, p1, p2, (p3 + (1 : Int32)))
def mm_sweep_b241 (gl : gl_T) (rec241 : Option Nat × Int32 × Int32 × Int32 → st_M (Int32)) (p0 : Option Nat) (p1 : Int32) (p2 : Int32) (p3 : Int32) : st_M (Int32) :=
  if (200 : Int32) < p3 then
  (st_r p2)
  else
  (st_g (so_gq p0 [10] 16) fun t101 =>
  st_g (so_li t101 0 (((4 : Int32) * p3) + p1)) fun t102 =>
  if t102 ≤ 0 then
  (mm_sweep_b305 gl rec241 p0 p1 p2 p3)
  else
  (st_g (so_gq p0 [10] 10) fun t103 =>
  st_g (so_li t103 2 p3) fun t104 =>
  if t104 = 0 then
  (st_g (so_gq p0 [10] 16) fun t105 =>
  st_w (so_si t105 0 (((4 : Int32) * p3) + p1) (0 : Int32)) (
  st_g (so_gq p0 [10] 6) fun t107 =>
  st_g (so_li t107 1 p3) fun t108 =>
  st_g (so_cm p0 [10]) fun _ =>
  st_b (mm_post gl p0 (3 : Int32) (((4 : Int32) * p1) + t108) p3 t102 (0 : Int32) (0 : Int32)) fun _ =>
  mm_sweep_b305 gl rec241 p0 p1 p2 p3))
  else
  (mm_sweep_b305 gl rec241 p0 p1 p2 p3)))
def mm_sweep_b189 (gl : gl_T) (rec189 : Option Nat × Int32 × Int32 × Int32 → st_M (Int32)) (p0 : Option Nat) (p1 : Int32) (p2 : Int32) (p3 : Int32) : st_M (Int32) :=
  if (200 : Int32) < p3 then
  (st_it (fun rec241 => (fun x : Option Nat × Int32 × Int32 × Int32 => mm_sweep_b241 gl rec241 x.1 x.2.1 x.2.2.1 x.2.2.2)) fu_ (p0, p1, p2, (1 : Int32)))
  else
  (st_g (so_cm p0 [10]) fun _ =>
  st_b (mm_lives gl p0 p3) fun t86 =>
  if t86 = 0 then
  (mm_sweep_b233 gl rec189 p0 p1 p2 p3)
  else
  (st_g (so_gq p0 [10] 6) fun t94 =>
  st_g (so_li t94 1 p3) fun t95 =>
  if t95 = p1 then
  (st_g (so_gq p0 [10] 10) fun t96 =>
  st_g (so_li t96 2 p3) fun t97 =>
  if t97 = 0 then
  (st_g (so_gq p0 [10] 7) fun t98 =>
  st_g (so_z (1 : Int32)) fun _ =>
  st_w (so_si t98 2 p3 (1 : Int32)) (
  mm_sweep_b233 gl rec189 p0 p1 (p2 + (1 : Int32)) p3))
  else
  (mm_sweep_b233 gl rec189 p0 p1 p2 p3))
  else
  (mm_sweep_b233 gl rec189 p0 p1 p2 p3)))
def mm_sweep_b185 (gl : gl_T) (p0 : Option Nat) (p1 : Int32) : st_M (Int32) :=
  st_it (fun rec189 => (fun x : Option Nat × Int32 × Int32 × Int32 => mm_sweep_b189 gl rec189 x.1 x.2.1 x.2.2.1 x.2.2.2)) fu_ (p0, p1, (0 : Int32), (1 : Int32))
def mm_sweep_b155 (gl : gl_T) (rec155 : Option Nat × Int32 × Int32 → st_M (Int32)) (p0 : Option Nat) (p1 : Int32) (p2 : Int32) : st_M (Int32) :=
  if (300 : Int32) ≤ p2 then
  (mm_sweep_b185 gl p0 p1)
  else
  (st_g (so_gi p0 [10] 14) fun t75 =>
  if t75 = 0 then
  (mm_sweep_b185 gl p0 p1)
  else
  (st_w (so_p p0 [10] 14 (.int (0 : Int32))) (
  st_g (so_cm p0 [10]) fun _ =>
  st_b (mm_spread gl p0 p1) fun _ =>
  rec155 (p0, p1, (p2 + (1 : Int32))))))
def mm_sweep_b65 (gl : gl_T) (rec65 : Option Nat × Int32 × Int32 → st_M (Int32)) (p0 : Option Nat) (p1 : Int32) (p2 : Int32) : st_M (Int32) :=
  st_g (so_gi p0 [10] 18) fun t32 =>
  if t32 ≤ p2 then
  (st_w (so_p p0 [10] 14 (.int (1 : Int32))) (
  st_it (fun rec155 => (fun x : Option Nat × Int32 × Int32 => mm_sweep_b155 gl rec155 x.1 x.2.1 x.2.2)) fu_ (p0, p1, (0 : Int32))))
  else
  (st_g (so_gq p0 [10] 19) fun t34 =>
  st_g (so_li t34 0 p2) fun t35 =>
  if t35 = p1 then
  (st_g (so_gq p0 [10] 20) fun t36 =>
  st_g (so_li t36 0 p2) fun t37 =>
  st_g (so_cm p0 [10]) fun _ =>
  st_b (mm_mark gl p0 t37) fun _ =>
  st_g (so_gq p0 [10] 22) fun t46 =>
  st_g (so_li t46 0 p2) fun t47 =>
  st_g (so_cm p0 [10]) fun _ =>
  st_b (mm_mark gl p0 t47) fun _ =>
  mm_sweep_b142 gl rec65 p0 p1 p2)
  else
  (st_g (so_gq p0 [10] 19) fun t58 =>
  st_g (so_li t58 0 p2) fun t59 =>
  if t59 ≤ (100 : Int32) then
  (mm_sweep_b142 gl rec65 p0 p1 p2)
  else
  (st_g (so_gq p0 [10] 6) fun t60 =>
  st_g (so_gq p0 [10] 19) fun t61 =>
  st_g (so_li t61 0 p2) fun t62 =>
  st_g (so_li t60 1 t62) fun t63 =>
  if t63 = p1 then
  (st_g (so_gq p0 [10] 19) fun t64 =>
  st_g (so_li t64 0 p2) fun t65 =>
  st_g (so_cm p0 [10]) fun _ =>
  st_b (mm_mark gl p0 t65) fun _ =>
  mm_sweep_b142 gl rec65 p0 p1 p2)
  else
  (mm_sweep_b142 gl rec65 p0 p1 p2))))
def mm_sweep_b12 (gl : gl_T) (rec12 : Option Nat × Int32 × Int32 → st_M (Int32)) (p0 : Option Nat) (p1 : Int32) (p2 : Int32) : st_M (Int32) :=
  if (200 : Int32) < p2 then
  (st_it (fun rec65 => (fun x : Option Nat × Int32 × Int32 => mm_sweep_b65 gl rec65 x.1 x.2.1 x.2.2)) fu_ (p0, p1, (0 : Int32)))
  else
  (st_g (so_gq p0 [10] 10) fun t10 =>
  st_g (so_cm p0 [10]) fun _ =>
  st_b (mm_lives gl p0 p2) fun t11 =>
  if t11 = 0 then
  (mm_sweep_b55 gl rec12 p0 p1 p2 p2 t10)
  else
  (st_g (so_gq p0 [10] 6) fun t19 =>
  st_g (so_li t19 1 p2) fun t20 =>
  if t20 = p1 then
  (st_g (so_cm p0 [10]) fun _ =>
  st_b (mm_rooted gl p0 p1 p2) fun t21 =>
  if t21 = 0 then
  (mm_sweep_b55 gl rec12 p0 p1 p2 p2 t10)
  else
  (mm_sweep_b56 gl rec12 p0 p1 p2 (1 : Int32) p2 t10))
  else
  (mm_sweep_b55 gl rec12 p0 p1 p2 p2 t10)))
def mm_sweep (gl : gl_T) (v0 : Option Nat) (v1 : Int32) : st_M (Int32) :=
  st_g (so_cm v0 [10]) fun _ =>
  st_b (mm_vat gl v0 v1) fun t1 =>
  if t1 = 0 then
  (st_r (-1 : Int32))
  else
  (st_it (fun rec12 => (fun x : Option Nat × Int32 × Int32 => mm_sweep_b12 gl rec12 x.1 x.2.1 x.2.2)) fu_ (v0, v1, (1 : Int32)))
/-! PromiseVatsModel.flying(II)I -/
def mm_flying_b55 (gl : gl_T) (rec5 : Option Nat × Int32 × Int32 × Int32 × Int32 → st_M (Int32)) (p0 : Option Nat) (p1 : Int32) (p2 : Int32) (p4 : Int32) (q0 : Int32) : st_M (Int32) :=
  rec5 (p0, p1, p2, q0, (p4 + (1 : Int32)))
def mm_flying_b62 (gl : gl_T) (p3 : Int32) : st_M (Int32) :=
  st_r p3
def mm_flying_b5 (gl : gl_T) (rec5 : Option Nat × Int32 × Int32 × Int32 × Int32 → st_M (Int32)) (p0 : Option Nat) (p1 : Int32) (p2 : Int32) (p3 : Int32) (p4 : Int32) : st_M (Int32) :=
  st_g (so_gi p0 [10] 24) fun t1 =>
  if t1 ≤ p4 then
  (mm_flying_b62 gl p3)
  else
  (st_g (so_cm p0 [10]) fun _ =>
  st_b (mm_vat gl p0 p1) fun t2 =>
  if t2 = 0 then
  (mm_flying_b62 gl p3)
  else
  (st_g (so_cm p0 [10]) fun _ =>
  st_b (mm_vat gl p0 p2) fun t10 =>
  if t10 = 0 then
  (mm_flying_b62 gl p3)
  else
  (st_g (so_gq p0 [10] 25) fun t18 =>
  st_g (so_li t18 1 p4) fun t19 =>
  if (t19 - t19 / (16 : Int32) * (16 : Int32)) = (((4 : Int32) * p1) + p2) then
  (mm_flying_b55 gl rec5 p0 p1 p2 p4 (p3 + (1 : Int32)))
  else
  (mm_flying_b55 gl rec5 p0 p1 p2 p4 p3))))
def mm_flying (gl : gl_T) (v0 : Option Nat) (v1 : Int32) (v2 : Int32) : st_M (Int32) :=
  st_it (fun rec5 => (fun x : Option Nat × Int32 × Int32 × Int32 × Int32 => mm_flying_b5 gl rec5 x.1 x.2.1 x.2.2.1 x.2.2.2.1 x.2.2.2.2)) fu_ (v0, v1, v2, (0 : Int32), (0 : Int32))
/-! PromiseVatsModel.counts(III)Z -/
def mm_counts_b42 (gl : gl_T) : st_M (Int32) :=
  st_r (0 : Int32)
def mm_counts_b94 (gl : gl_T) : st_M (Int32) :=
  st_r (1 : Int32)
def mm_counts_b98 (gl : gl_T) : st_M (Int32) :=
  st_r (0 : Int32)
def mm_counts_b74 (gl : gl_T) (p0 : Option Nat) (p2 : Int32) (p3 : Int32) : st_M (Int32) :=
  if p2 = (2 : Int32) then
  (if p3 ≤ (100 : Int32) then
  (mm_counts_b98 gl )
  else
  (st_g (so_gq p0 [10] 8) fun t16 =>
  st_g (so_li t16 2 p3) fun t17 =>
  if t17 = 0 then
  (mm_counts_b98 gl )
  else
  (mm_counts_b94 gl )))
  else
  (mm_counts_b98 gl )
def mm_counts_b54 (gl : gl_T) (p0 : Option Nat) (p2 : Int32) (p3 : Int32) : st_M (Int32) :=
  if p2 = (1 : Int32) then
  (if p3 ≤ (100 : Int32) then
  (mm_counts_b74 gl p0 p2 p3)
  else
  (st_g (so_gq p0 [10] 8) fun t14 =>
  st_g (so_li t14 2 p3) fun t15 =>
  if t15 = 0 then
  (mm_counts_b94 gl )
  else
  (mm_counts_b74 gl p0 p2 p3)))
  else
  (mm_counts_b74 gl p0 p2 p3)
def mm_counts (gl : gl_T) (v0 : Option Nat) (v1 : Int32) (v2 : Int32) (v3 : Int32) : st_M (Int32) :=
  if v2 = (3 : Int32) then
  (st_g (so_gq v0 [10] 16) fun t1 =>
  st_g (so_li t1 0 (((4 : Int32) * v3) + v1)) fun t2 =>
  if t2 ≤ 0 then
  (st_r (0 : Int32))
  else
  (st_r (1 : Int32)))
  else
  (st_g (so_cm v0 [10]) fun _ =>
  st_b (mm_lives gl v0 v3) fun t3 =>
  if t3 = 0 then
  (mm_counts_b42 gl )
  else
  (st_g (so_gq v0 [10] 6) fun t11 =>
  st_g (so_li t11 1 v3) fun t12 =>
  if t12 = v1 then
  (if v2 = 0 then
  (if v3 ≤ (60 : Int32) then
  (mm_counts_b94 gl )
  else
  (mm_counts_b54 gl v0 v2 v3))
  else
  (mm_counts_b54 gl v0 v2 v3))
  else
  (mm_counts_b42 gl )))
/-! PromiseVatsModel.count(II)I -/
def mm_count_b18 (gl : gl_T) : st_M (Int32) :=
  st_r (0 : Int32)
def mm_count_b56 (gl : gl_T) (rec25 : Option Nat × Int32 × Int32 × Int32 × Int32 → st_M (Int32)) (p0 : Option Nat) (p1 : Int32) (p2 : Int32) (p4 : Int32) (q0 : Int32) : st_M (Int32) :=
  rec25 (p0, p1, p2, q0, (p4 + (1 : Int32)))
def mm_count_b116 (gl : gl_T) (rec66 : Option Nat × Int32 × Int32 × Int32 × Int32 → st_M (Int32)) (p0 : Option Nat) (p1 : Int32) (p2 : Int32) (p4 : Int32) (q0 : Int32) : st_M (Int32) :=
  rec66 (p0, p1, p2, q0, (p4 + (1 : Int32)))
def mm_count_b115 (gl : gl_T) (rec66 : Option Nat × Int32 × Int32 × Int32 × Int32 → st_M (Int32)) (p0 : Option Nat) (p1 : Int32) (p2 : Int32) (p3 : Int32) (p4 : Int32) : st_M (Int32) :=
  mm_count_b116 gl rec66 p0 p1 p2 p4 p3
def mm_count_b197 (gl : gl_T) (rec127 : Option Nat × Int32 × Int32 × Int32 × Int32 → st_M (Int32)) (p0 : Option Nat) (p1 : Int32) (p2 : Int32) (p4 : Int32) (q0 : Int32) : st_M (Int32) :=
  rec127 (p0, p1, p2, q0, (p4 + (1 : Int32)))
def mm_count_b196 (gl : gl_T) (rec127 : Option Nat × Int32 × Int32 × Int32 × Int32 → st_M (Int32)) (p0 : Option Nat) (p1 : Int32) (p2 : Int32) (p3 : Int32) (p4 : Int32) : st_M (Int32) :=
  mm_count_b197 gl rec127 p0 p1 p2 p4 p3
def mm_count_b168 (gl : gl_T) (rec127 : Option Nat × Int32 × Int32 × Int32 × Int32 → st_M (Int32)) (p0 : Option Nat) (p1 : Int32) (p2 : Int32) (p3 : Int32) (p4 : Int32) (q0 : Int32) : st_M (Int32) :=
  if q0 ≤ 0 then
  (mm_count_b196 gl rec127 p0 p1 p2 p3 p4)
  else
  (st_g (so_gq p0 [10] 6) fun t32 =>
  st_g (so_li t32 1 (p4 / (16 : Int32))) fun t33 =>
  if t33 = p1 then
  (mm_count_b197 gl rec127 p0 p1 p2 p4 (p3 + q0))
  else
  (mm_count_b196 gl rec127 p0 p1 p2 p3 p4))
def mm_count_b145 (gl : gl_T) (rec127 : Option Nat × Int32 × Int32 × Int32 × Int32 → st_M (Int32)) (p0 : Option Nat) (p1 : Int32) (p2 : Int32) (p3 : Int32) (p4 : Int32) : st_M (Int32) :=
  if p2 = (4 : Int32) then
  (st_g (so_gq p0 [10] 17) fun t28 =>
  st_g (so_li t28 0 p4) fun t29 =>
  mm_count_b168 gl rec127 p0 p1 p2 p3 p4 t29)
  else
  (st_g (so_gq p0 [10] 17) fun t30 =>
  st_g (so_li t30 0 p4) fun t31 =>
  mm_count_b168 gl rec127 p0 p1 p2 p3 p4 (-t31))
def mm_count_b204 (gl : gl_T) (p0 : Option Nat) (p1 : Int32) (p2 : Int32) (p3 : Int32) : st_M (Int32) :=
  if p2 = (7 : Int32) then
  (st_g (so_gq p0 [10] 32) fun t26 =>
  st_g (so_li t26 0 p1) fun t27 =>
  st_r t27)
  else
  (st_r p3)
def mm_count_b127 (gl : gl_T) (rec127 : Option Nat × Int32 × Int32 × Int32 × Int32 → st_M (Int32)) (p0 : Option Nat) (p1 : Int32) (p2 : Int32) (p3 : Int32) (p4 : Int32) : st_M (Int32) :=
  if (3216 : Int32) ≤ p4 then
  (mm_count_b204 gl p0 p1 p2 p3)
  else
  (if p2 = (4 : Int32) then
  (mm_count_b145 gl rec127 p0 p1 p2 p3 p4)
  else
  (if p2 = (5 : Int32) then
  (mm_count_b145 gl rec127 p0 p1 p2 p3 p4)
  else
  (mm_count_b204 gl p0 p1 p2 p3)))
def mm_count_b123 (gl : gl_T) (p0 : Option Nat) (p1 : Int32) (p2 : Int32) (p3 : Int32) : st_M (Int32) :=
  st_it (fun rec127 => (fun x : Option Nat × Int32 × Int32 × Int32 × Int32 => mm_count_b127 gl rec127 x.1 x.2.1 x.2.2.1 x.2.2.2.1 x.2.2.2.2)) fu_ (p0, p1, p2, p3, (16 : Int32))
def mm_count_b66 (gl : gl_T) (rec66 : Option Nat × Int32 × Int32 × Int32 × Int32 → st_M (Int32)) (p0 : Option Nat) (p1 : Int32) (p2 : Int32) (p3 : Int32) (p4 : Int32) : st_M (Int32) :=
  st_g (so_gi p0 [10] 18) fun t19 =>
  if t19 ≤ p4 then
  (mm_count_b123 gl p0 p1 p2 p3)
  else
  (if p2 = (6 : Int32) then
  (st_g (so_gq p0 [10] 19) fun t20 =>
  st_g (so_li t20 0 p4) fun t21 =>
  if t21 ≤ (100 : Int32) then
  (mm_count_b115 gl rec66 p0 p1 p2 p3 p4)
  else
  (st_g (so_gq p0 [10] 6) fun t22 =>
  st_g (so_gq p0 [10] 19) fun t23 =>
  st_g (so_li t23 0 p4) fun t24 =>
  st_g (so_li t22 1 t24) fun t25 =>
  if t25 = p1 then
  (mm_count_b116 gl rec66 p0 p1 p2 p4 (p3 + (1 : Int32)))
  else
  (mm_count_b115 gl rec66 p0 p1 p2 p3 p4)))
  else
  (mm_count_b123 gl p0 p1 p2 p3))
def mm_count_b63 (gl : gl_T) (p0 : Option Nat) (p1 : Int32) (p2 : Int32) (p3 : Int32) : st_M (Int32) :=
  st_it (fun rec66 => (fun x : Option Nat × Int32 × Int32 × Int32 × Int32 => mm_count_b66 gl rec66 x.1 x.2.1 x.2.2.1 x.2.2.2.1 x.2.2.2.2)) fu_ (p0, p1, p2, p3, (0 : Int32))
def mm_count_b25 (gl : gl_T) (rec25 : Option Nat × Int32 × Int32 × Int32 × Int32 → st_M (Int32)) (p0 : Option Nat) (p1 : Int32) (p2 : Int32) (p3 : Int32) (p4 : Int32) : st_M (Int32) :=
  if (200 : Int32) < p4 then
  (mm_count_b63 gl p0 p1 p2 p3)
  else
  (if (4 : Int32) ≤ p2 then
  (mm_count_b63 gl p0 p1 p2 p3)
  else
  (st_g (so_cm p0 [10]) fun _ =>
  st_b (mm_counts gl p0 p1 p2 p4) fun t10 =>
  if t10 = 0 then
  (mm_count_b56 gl rec25 p0 p1 p2 p4 p3)
  else
  (mm_count_b56 gl rec25 p0 p1 p2 p4 (p3 + (1 : Int32)))))
def mm_count (gl : gl_T) (v0 : Option Nat) (v1 : Int32) (v2 : Int32) : st_M (Int32) :=
  st_g (so_cm v0 [10]) fun _ =>
  st_b (mm_vat gl v0 v1) fun t1 =>
  if t1 = 0 then
  (mm_count_b18 gl )
  else
  (if v2 < 0 then
  (mm_count_b18 gl )
  else
  (if v2 ≤ (7 : Int32) then
  (st_it (fun rec25 => (fun x : Option Nat × Int32 × Int32 × Int32 × Int32 => mm_count_b25 gl rec25 x.1 x.2.1 x.2.2.1 x.2.2.2.1 x.2.2.2.2)) fu_ (v0, v1, v2, (0 : Int32), (1 : Int32)))
  else
  (mm_count_b18 gl )))
/-! PromiseVatsModel.imported(II)I -/
def mm_imported_b29 (gl : gl_T) : st_M (Int32) :=
  st_r (0 : Int32)
def mm_imported (gl : gl_T) (v0 : Option Nat) (v1 : Int32) (v2 : Int32) : st_M (Int32) :=
  st_g (so_cm v0 [10]) fun _ =>
  st_b (mm_vat gl v0 v1) fun t1 =>
  if t1 = 0 then
  (mm_imported_b29 gl )
  else
  (st_g (so_cm v0 [10]) fun _ =>
  st_b (mm_made gl v0 v2) fun t9 =>
  if t9 = 0 then
  (mm_imported_b29 gl )
  else
  (st_g (so_gq v0 [10] 16) fun t17 =>
  st_g (so_li t17 0 (((4 : Int32) * v2) + v1)) fun t18 =>
  st_r t18))
/-! PromiseVatsModel.exported(II)I -/
def mm_exported_b39 (gl : gl_T) : st_M (Int32) :=
  st_r (0 : Int32)
def mm_exported (gl : gl_T) (v0 : Option Nat) (v1 : Int32) (v2 : Int32) : st_M (Int32) :=
  st_g (so_cm v0 [10]) fun _ =>
  st_b (mm_lives gl v0 v1) fun t1 =>
  if t1 = 0 then
  (mm_exported_b39 gl )
  else
  (st_g (so_cm v0 [10]) fun _ =>
  st_b (mm_vat gl v0 v2) fun t9 =>
  if t9 = 0 then
  (mm_exported_b39 gl )
  else
  (st_g (so_gq v0 [10] 6) fun t17 =>
  st_g (so_li t17 1 v1) fun t18 =>
  if t18 = v2 then
  (mm_exported_b39 gl )
  else
  (st_g (so_gq v0 [10] 15) fun t19 =>
  st_g (so_li t19 0 (((4 : Int32) * v1) + v2)) fun t20 =>
  st_r t20)))
/-! PromiseVatsModel.home(I)I -/
def mm_home (gl : gl_T) (v0 : Option Nat) (v1 : Int32) : st_M (Int32) :=
  st_g (so_cm v0 [10]) fun _ =>
  st_b (mm_lives gl v0 v1) fun t1 =>
  if t1 = 0 then
  (st_r (-1 : Int32))
  else
  (st_g (so_gq v0 [10] 6) fun t9 =>
  st_g (so_li t9 1 v1) fun t10 =>
  st_r t10)
/-! PromiseVatsModel.slot(II)I -/
def mm_slot_b36 (gl : gl_T) : st_M (Int32) :=
  st_r (0 : Int32)
def mm_slot (gl : gl_T) (v0 : Option Nat) (v1 : Int32) (v2 : Int32) : st_M (Int32) :=
  st_g (so_cm v0 [10]) fun _ =>
  st_b (mm_lives gl v0 v1) fun t1 =>
  if t1 = 0 then
  (mm_slot_b36 gl )
  else
  (if (60 : Int32) < v1 then
  (mm_slot_b36 gl )
  else
  (if v2 < 0 then
  (mm_slot_b36 gl )
  else
  (if (3 : Int32) < v2 then
  (mm_slot_b36 gl )
  else
  (st_g (so_gq v0 [10] 13) fun t9 =>
  st_g (so_li t9 0 (((4 : Int32) * v1) + v2)) fun t10 =>
  st_r t10))))
/-! PromiseVatsModel.number(I)I -/
def mm_number_b23 (gl : gl_T) : st_M (Int32) :=
  st_r (0 : Int32)
def mm_number (gl : gl_T) (v0 : Option Nat) (v1 : Int32) : st_M (Int32) :=
  st_g (so_cm v0 [10]) fun _ =>
  st_b (mm_lives gl v0 v1) fun t1 =>
  if t1 = 0 then
  (mm_number_b23 gl )
  else
  (if (60 : Int32) < v1 then
  (mm_number_b23 gl )
  else
  (st_g (so_gq v0 [10] 12) fun t9 =>
  st_g (so_li t9 0 v1) fun t10 =>
  st_r t10))
/-! PromiseVatsModel.resolved(I)I -/
def mm_resolved_b32 (gl : gl_T) : st_M (Int32) :=
  st_r (-1 : Int32)
def mm_resolved (gl : gl_T) (v0 : Option Nat) (v1 : Int32) : st_M (Int32) :=
  st_g (so_cm v0 [10]) fun _ =>
  st_b (mm_lives gl v0 v1) fun t1 =>
  if t1 = 0 then
  (mm_resolved_b32 gl )
  else
  (if v1 ≤ (100 : Int32) then
  (mm_resolved_b32 gl )
  else
  (st_g (so_gq v0 [10] 8) fun t9 =>
  st_g (so_li t9 2 v1) fun t10 =>
  if t10 = 0 then
  (mm_resolved_b32 gl )
  else
  (st_g (so_gq v0 [10] 9) fun t11 =>
  st_g (so_li t11 0 v1) fun t12 =>
  st_r t12)))
/-! PromiseVatsModel.output(II)I -/
def mm_output_b28 (gl : gl_T) : st_M (Int32) :=
  st_r (0 : Int32)
def mm_output (gl : gl_T) (v0 : Option Nat) (v1 : Int32) (v2 : Int32) : st_M (Int32) :=
  st_g (so_cm v0 [10]) fun _ =>
  st_b (mm_vat gl v0 v1) fun t1 =>
  if t1 = 0 then
  (mm_output_b28 gl )
  else
  (if v2 < 0 then
  (mm_output_b28 gl )
  else
  (if (9 : Int32) < v2 then
  (mm_output_b28 gl )
  else
  (st_g (so_gq v0 [10] 32) fun t9 =>
  st_g (so_li t9 0 v1) fun t10 =>
  if v2 < t10 then
  (st_g (so_gq v0 [10] 33) fun t11 =>
  st_g (so_gq v0 [10] 32) fun t12 =>
  st_g (so_li t12 0 v1) fun t13 =>
  st_g (so_li t11 0 (((10 : Int32) * v1) + (((t13 - (1 : Int32)) - v2) - ((t13 - (1 : Int32)) - v2) / (10 : Int32) * (10 : Int32)))) fun t14 =>
  st_r t14)
  else
  (mm_output_b28 gl ))))
