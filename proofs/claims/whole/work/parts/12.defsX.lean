/-! PromiseVats$Turn.<init>()V -/
def xT_init (gl : gl_T) (v0 : Option Nat) : st_M (Unit) :=
  st_g (so_c v0) fun _ =>
  st_r ()
/-! PromiseVats$Program.<init>()V -/
def xG_init (gl : gl_T) (v0 : Option Nat) : st_M (Unit) :=
  st_g (so_c v0) fun _ =>
  st_g (so_l (8 : Int32)) fun _ =>
  st_n (.inl (0, (8 : Int32).toNatClampNeg, fun _ => 0)) (8 : Int32).toNatClampNeg fun t2 =>
  st_w (so_p v0 [2] 0 (va_rf (some t2))) (
  st_g (so_l (8 : Int32)) fun _ =>
  st_n (.inl (0, (8 : Int32).toNatClampNeg, fun _ => 0)) (8 : Int32).toNatClampNeg fun t9 =>
  st_w (so_p v0 [2] 1 (va_rf (some t9))) (
  st_r ()))
/-! PromiseVats$Entity.<init>(II)V -/
def xE_init (gl : gl_T) (v0 : Option Nat) (v1 : Int32) (v2 : Int32) : st_M (Unit) :=
  st_g (so_c v0) fun _ =>
  st_g (so_l (4 : Int32)) fun _ =>
  st_n (.inl (0, (4 : Int32).toNatClampNeg, fun _ => 0)) (4 : Int32).toNatClampNeg fun t2 =>
  st_w (so_p v0 [3, 4] 7 (va_rf (some t2))) (
  st_g (so_l (4 : Int32)) fun _ =>
  st_n (.inl (0, (4 : Int32).toNatClampNeg, fun _ => 0)) (4 : Int32).toNatClampNeg fun t9 =>
  st_w (so_p v0 [3, 4] 8 (va_rf (some t9))) (
  st_g (so_l (16 : Int32)) fun _ =>
  st_n (.inl (0, (16 : Int32).toNatClampNeg, fun _ => 0)) (16 : Int32).toNatClampNeg fun t16 =>
  st_w (so_p v0 [3, 4] 9 (va_rf (some t16))) (
  st_w (so_p v0 [3, 4] 3 (.int v1)) (
  st_w (so_p v0 [3, 4] 4 (.int v2)) (
  st_r ())))))
/-! PromiseVats$VatObject.<init>(III)V -/
def xO_init (gl : gl_T) (v0 : Option Nat) (v1 : Int32) (v2 : Int32) (v3 : Int32) : st_M (Unit) :=
  st_g (so_c v0) fun _ =>
  st_b (xE_init gl v0 v1 v2) fun _ =>
  st_g (so_l (4 : Int32)) fun _ =>
  st_n (.inr (.inl (6, (4 : Int32).toNatClampNeg, fun _ => none))) (4 : Int32).toNatClampNeg fun t9 =>
  st_w (so_p v0 [3] 2 (va_rf (some t9))) (
  st_w (so_p v0 [3] 0 (.int v3)) (
  st_r ()))
/-! PromiseVats$Channel.<init>()V -/
def xH_init (gl : gl_T) (v0 : Option Nat) : st_M (Unit) :=
  st_g (so_c v0) fun _ =>
  st_n (.inr (.inr (6, cd_6))) 3 fun t2 =>
  st_b (al_init gl (some t2)) fun _ =>
  st_w (so_p v0 [7] 0 (va_rf (some t2))) (
  st_r ())
/-! PromiseVats$Vat.<init>(LPromiseVats$VatObject;I)V -/
def xV_init_b38 (gl : gl_T) (rec38 : Option Nat × Int32 × Int32 → st_M (Unit)) (p0 : Option Nat) (p2 : Int32) (p3 : Int32) : st_M (Unit) :=
  if p2 ≤ p3 then
  (st_r ())
  else
  (st_g (so_gq p0 [5] 2) fun t32 =>
  st_n (.inr (.inr (7, cd_7))) 1 fun t33 =>
  st_b (xH_init gl (some t33)) fun _ =>
  st_w (so_sq t32 [8] [7] p3 (some t33)) (
  rec38 (p0, p2, (p3 + (1 : Int32)))))
def xV_init (gl : gl_T) (v0 : Option Nat) (v1 : Option Nat) (v2 : Int32) : st_M (Unit) :=
  st_g (so_c v0) fun _ =>
  st_n (.inr (.inr (6, cd_6))) 3 fun t2 =>
  st_b (al_init gl (some t2)) fun _ =>
  st_w (so_p v0 [5] 1 (va_rf (some t2))) (
  st_g (so_l (10 : Int32)) fun _ =>
  st_n (.inl (0, (10 : Int32).toNatClampNeg, fun _ => 0)) (10 : Int32).toNatClampNeg fun t15 =>
  st_w (so_p v0 [5] 3 (va_rf (some t15))) (
  st_w (so_p v0 [5] 0 (va_rf v1)) (
  st_g (so_l v2) fun _ =>
  st_n (.inr (.inl (8, v2.toNatClampNeg, fun _ => none))) v2.toNatClampNeg fun t23 =>
  st_w (so_p v0 [5] 2 (va_rf (some t23))) (
  st_it (fun rec38 => (fun x : Option Nat × Int32 × Int32 => xV_init_b38 gl rec38 x.1 x.2.1 x.2.2)) fu_ (v0, v2, (0 : Int32))))))
/-! PromiseVats.<init>(I)V -/
def xP_init_b100 (gl : gl_T) (rec100 : Option Nat × Int32 × Int32 → st_M (Unit)) (p0 : Option Nat) (p2 : Int32) (p3 : Int32) : st_M (Unit) :=
  if p2 ≤ p3 then
  (st_w (so_p p0 [0] 3 (.int p2)) (
  st_r ()))
  else
  (st_n (.inr (.inr (3, cd_3))) 10 fun t85 =>
  st_b (xO_init gl (some t85) (p3 + (1 : Int32)) p3 p3) fun _ =>
  st_g (so_gq p0 [0] 2) fun t97 =>
  st_w (so_sq t97 [6] [3, 4] (p3 + (1 : Int32)) (some t85)) (
  st_g (so_gq p0 [0] 0) fun t99 =>
  st_n (.inr (.inr (5, cd_5))) 5 fun t100 =>
  st_b (xV_init gl (some t100) (some t85) p2) fun _ =>
  st_w (so_sq t99 [4] [5] p3 (some t100)) (
  rec100 (p0, p2, (p3 + (1 : Int32))))))
def xP_init_b73 (gl : gl_T) (rec73 : Option Nat × Int32 × Int32 → st_M (Unit)) (p0 : Option Nat) (p2 : Int32) (p3 : Int32) : st_M (Unit) :=
  if (8 : Int32) ≤ p3 then
  (st_it (fun rec100 => (fun x : Option Nat × Int32 × Int32 => xP_init_b100 gl rec100 x.1 x.2.1 x.2.2)) fu_ (p0, p2, (0 : Int32)))
  else
  (st_g (so_gq p0 [0] 1) fun t68 =>
  st_n (.inr (.inr (2, cd_2))) 3 fun t69 =>
  st_b (xG_init gl (some t69)) fun _ =>
  st_w (so_sq t68 [5] [2] p3 (some t69)) (
  rec73 (p0, p2, (p3 + (1 : Int32)))))
def xP_init (gl : gl_T) (v0 : Option Nat) (v1 : Int32) : st_M (Unit) :=
  st_g (so_c v0) fun _ =>
  st_b (ma_min gl (4 : Int32) v1) fun t2 =>
  st_b (ma_max gl (2 : Int32) t2) fun t10 =>
  st_g (so_l t10) fun _ =>
  st_n (.inr (.inl (4, t10.toNatClampNeg, fun _ => none))) t10.toNatClampNeg fun t18 =>
  st_w (so_p v0 [0] 0 (va_rf (some t18))) (
  st_g (so_l (8 : Int32)) fun _ =>
  st_n (.inr (.inl (5, (8 : Int32).toNatClampNeg, fun _ => none))) (8 : Int32).toNatClampNeg fun t25 =>
  st_w (so_p v0 [0] 1 (va_rf (some t25))) (
  st_g (so_l (201 : Int32)) fun _ =>
  st_n (.inr (.inl (6, (201 : Int32).toNatClampNeg, fun _ => none))) (201 : Int32).toNatClampNeg fun t32 =>
  st_w (so_p v0 [0] 2 (va_rf (some t32))) (
  st_n (.inr (.inr (1, cd_1))) 4 fun t39 =>
  st_b (xT_init gl (some t39)) fun _ =>
  st_w (so_p v0 [0] 5 (va_rf (some t39))) (
  st_g (so_l (100 : Int32)) fun _ =>
  st_n (.inr (.inl (7, (100 : Int32).toNatClampNeg, fun _ => none))) (100 : Int32).toNatClampNeg fun t52 =>
  st_w (so_p v0 [0] 6 (va_rf (some t52))) (
  st_g (so_l (160 : Int32)) fun _ =>
  st_n (.inr (.inl (6, (160 : Int32).toNatClampNeg, fun _ => none))) (160 : Int32).toNatClampNeg fun t59 =>
  st_w (so_p v0 [0] 8 (va_rf (some t59))) (
  st_it (fun rec73 => (fun x : Option Nat × Int32 × Int32 => xP_init_b73 gl rec73 x.1 x.2.1 x.2.2)) fu_ (v0, t10, (0 : Int32))))))))
/-! PromiseVats.isProgram(I)Z -/
def xP_isProgram_b14 (gl : gl_T) : st_M (Int32) :=
  st_r (0 : Int32)
def xP_isProgram (gl : gl_T) (v0 : Int32) : st_M (Int32) :=
  if v0 < 0 then
  (xP_isProgram_b14 gl )
  else
  (if (8 : Int32) ≤ v0 then
  (xP_isProgram_b14 gl )
  else
  (st_r (1 : Int32)))
/-! PromiseVats.isSlot(I)Z -/
def xP_isSlot_b13 (gl : gl_T) : st_M (Int32) :=
  st_r (0 : Int32)
def xP_isSlot (gl : gl_T) (v0 : Int32) : st_M (Int32) :=
  if v0 < 0 then
  (xP_isSlot_b13 gl )
  else
  (if (4 : Int32) ≤ v0 then
  (xP_isSlot_b13 gl )
  else
  (st_r (1 : Int32)))
/-! PromiseVats.isInstruction(II)Z -/
def xP_isInstruction_b40 (gl : gl_T) (p1 : Int32) : st_M (Int32) :=
  st_b (xP_isSlot gl p1) fun t9 =>
  st_g (so_z t9) fun _ =>
  st_r t9
def xP_isInstruction_b64 (gl : gl_T) : st_M (Int32) :=
  st_r (0 : Int32)
def xP_isInstruction_b80 (gl : gl_T) : st_M (Int32) :=
  st_r (0 : Int32)
def xP_isInstruction_b66 (gl : gl_T) (p0 : Int32) : st_M (Int32) :=
  if p0 < 0 then
  (xP_isInstruction_b80 gl )
  else
  (if (10 : Int32) < p0 then
  (xP_isInstruction_b80 gl )
  else
  (st_r (1 : Int32)))
def xP_isInstruction (gl : gl_T) (v0 : Int32) (v1 : Int32) : st_M (Int32) :=
  (if v0 = (3 : Int32) then
  (xP_isInstruction_b40 gl v1)
  else
  (if v0 = (4 : Int32) then
  (xP_isInstruction_b40 gl v1)
  else
  (if v0 = (5 : Int32) then
  (xP_isInstruction_b66 gl v0)
  else
  (if v0 = (6 : Int32) then
  (st_b (xP_isProgram gl v1) fun t1 =>
  st_g (so_z t1) fun _ =>
  st_r t1)
  else
  (if v0 = (7 : Int32) then
  (xP_isInstruction_b40 gl v1)
  else
  (if v0 = (8 : Int32) then
  (if v1 < 0 then
  (xP_isInstruction_b64 gl )
  else
  (if (8 : Int32) ≤ v1 then
  (xP_isInstruction_b64 gl )
  else
  (st_r (1 : Int32))))
  else
  (xP_isInstruction_b66 gl v0)))))))
/-! PromiseVats.code(III)Z -/
def xP_code_b15 (gl : gl_T) : st_M (Int32) :=
  st_r (0 : Int32)
def xP_code (gl : gl_T) (v0 : Option Nat) (v1 : Int32) (v2 : Int32) (v3 : Int32) : st_M (Int32) :=
  st_b (xP_isProgram gl v1) fun t1 =>
  if t1 = 0 then
  (xP_code_b15 gl )
  else
  (st_b (xP_isInstruction gl v2 v3) fun t9 =>
  if t9 = 0 then
  (xP_code_b15 gl )
  else
  (st_g (so_gq v0 [0] 1) fun t17 =>
  st_g (so_lq t17 [5] v1) fun t18 =>
  st_g (so_gi t18 [2] 2) fun t19 =>
  if t19 < (8 : Int32) then
  (st_g (so_gq t18 [2] 0) fun t20 =>
  st_g (so_gi t18 [2] 2) fun t21 =>
  st_w (so_si t20 0 t21 v2) (
  st_g (so_gq t18 [2] 1) fun t23 =>
  st_g (so_gi t18 [2] 2) fun t24 =>
  st_w (so_si t23 0 t24 v3) (
  st_g (so_gi t18 [2] 2) fun t26 =>
  st_w (so_p t18 [2] 2 (.int (t26 + (1 : Int32)))) (
  st_r (1 : Int32)))))
  else
  (st_r (0 : Int32))))
/-! PromiseVats.clear(I)Z -/
def xP_clear (gl : gl_T) (v0 : Option Nat) (v1 : Int32) : st_M (Int32) :=
  st_b (xP_isProgram gl v1) fun t1 =>
  if t1 = 0 then
  (st_r (0 : Int32))
  else
  (st_g (so_gq v0 [0] 1) fun t9 =>
  st_g (so_lq t9 [5] v1) fun t10 =>
  st_w (so_p t10 [2] 2 (.int (0 : Int32))) (
  st_r (1 : Int32)))
/-! PromiseVats.isVat(I)Z -/
def xP_isVat_b17 (gl : gl_T) : st_M (Int32) :=
  st_r (0 : Int32)
def xP_isVat (gl : gl_T) (v0 : Option Nat) (v1 : Int32) : st_M (Int32) :=
  if v1 < 0 then
  (xP_isVat_b17 gl )
  else
  (st_g (so_gq v0 [0] 0) fun t1 =>
  st_g (so_n t1 [4]) fun t2 =>
  if t2 ≤ v1 then
  (xP_isVat_b17 gl )
  else
  (st_r (1 : Int32)))
/-! PromiseVats.give(III)Z -/
def xP_give_b23 (gl : gl_T) : st_M (Int32) :=
  st_r (0 : Int32)
def xP_give_b79 (gl : gl_T) : st_M (Int32) :=
  st_r (1 : Int32)
def xP_give (gl : gl_T) (v0 : Option Nat) (v1 : Int32) (v2 : Int32) (v3 : Int32) : st_M (Int32) :=
  st_g (so_cm v0 [0]) fun _ =>
  st_b (xP_isVat gl v0 v1) fun t1 =>
  if t1 = 0 then
  (xP_give_b23 gl )
  else
  (st_b (xP_isSlot gl v2) fun t9 =>
  if t9 = 0 then
  (xP_give_b23 gl )
  else
  (st_g (so_cm v0 [0]) fun _ =>
  st_b (xP_isVat gl v0 v3) fun t17 =>
  if t17 = 0 then
  (xP_give_b23 gl )
  else
  (st_g (so_gq v0 [0] 0) fun t25 =>
  st_g (so_lq t25 [4] v3) fun t26 =>
  st_g (so_gq t26 [5] 0) fun t27 =>
  st_g (so_gq v0 [0] 0) fun t28 =>
  st_g (so_lq t28 [4] v1) fun t29 =>
  st_g (so_gq t29 [5] 0) fun t30 =>
  st_g (so_gq t30 [3] 2) fun t31 =>
  st_w (so_sq t31 [6] [3, 4] v2 t27) (
  if v1 = v3 then
  (xP_give_b79 gl )
  else
  (st_g (so_gq t27 [3] 7) fun t33 =>
  st_g (so_li t33 0 v1) fun t34 =>
  st_w (so_si t33 0 v1 (t34 + (1 : Int32))) (
  st_g (so_gq t27 [3] 8) fun t36 =>
  st_g (so_li t36 0 v1) fun t37 =>
  st_w (so_si t36 0 v1 (t37 + (1 : Int32))) (
  xP_give_b79 gl )))))))
/-! PromiseVats$Call.<init>(LPromiseVats$Entity;ILPromiseVats$Entity;LPromiseVats$Promise;)V -/
def xC_init (gl : gl_T) (v0 : Option Nat) (v1 : Option Nat) (v2 : Int32) (v3 : Option Nat) (v4 : Option Nat) : st_M (Unit) :=
  st_g (so_c v0) fun _ =>
  st_w (so_p v0 [8] 0 (va_rf v1)) (
  st_w (so_p v0 [8] 1 (.int v2)) (
  st_w (so_p v0 [8] 2 (va_rf v3)) (
  st_w (so_p v0 [8] 3 (va_rf v4)) (
  st_r ()))))
/-! PromiseVats.lose(LPromiseVats$Call;)V -/
def xP_lose (gl : gl_T) (v0 : Option Nat) (v1 : Option Nat) : st_M (Unit) :=
  st_g (so_gq v1 [8] 3) fun t1 =>
  if t1 = none then
  (st_r ())
  else
  (st_g (so_gi v0 [0] 7) fun t2 =>
  st_g (so_gq v0 [0] 6) fun t3 =>
  st_g (so_n t3 [7]) fun t4 =>
  if t4 ≤ t2 then
  (st_r ())
  else
  (st_g (so_gq v0 [0] 6) fun t5 =>
  st_g (so_gi v0 [0] 7) fun t6 =>
  st_g (so_gq v1 [8] 3) fun t7 =>
  st_w (so_sq t5 [7] [4] t6 t7) (
  st_g (so_gi v0 [0] 7) fun t9 =>
  st_w (so_p v0 [0] 7 (.int (t9 + (1 : Int32)))) (
  st_r ()))))
/-! PromiseVats.waitAt(LPromiseVats$Promise;LPromiseVats$Call;)V -/
def xP_waitAt (gl : gl_T) (v0 : Option Nat) (v1 : Option Nat) (v2 : Option Nat) : st_M (Unit) :=
  st_g (so_gq v1 [4] 2) fun t1 =>
  st_g (so_cm t1 [6]) fun _ =>
  st_b (al_size gl t1) fun t2 =>
  if t2 < (8 : Int32) then
  (st_g (so_gq v1 [4] 2) fun t10 =>
  st_g (so_cm t10 [6]) fun _ =>
  st_b (al_add1 gl t10 v2) fun t11 =>
  st_r ())
  else
  (st_g (so_cm v0 [0]) fun _ =>
  st_b (xP_lose gl v0 v2) fun _ =>
  st_r ())
/-! PromiseVats$Message.<init>(ILPromiseVats$Entity;LPromiseVats$Entity;I)V -/
def xM_init (gl : gl_T) (v0 : Option Nat) (v1 : Int32) (v2 : Option Nat) (v3 : Option Nat) (v4 : Int32) : st_M (Unit) :=
  st_g (so_c v0) fun _ =>
  st_w (so_p v0 [9] 0 (.int v1)) (
  st_w (so_p v0 [9] 1 (va_rf v2)) (
  st_w (so_p v0 [9] 2 (va_rf v3)) (
  st_w (so_p v0 [9] 3 (.int v4)) (
  st_r ()))))
/-! PromiseVats.post(IILPromiseVats$Message;)V -/
def xP_post (gl : gl_T) (v0 : Option Nat) (v1 : Int32) (v2 : Int32) (v3 : Option Nat) : st_M (Unit) :=
  st_g (so_gq v0 [0] 0) fun t1 =>
  st_g (so_lq t1 [4] v1) fun t2 =>
  st_g (so_gq t2 [5] 2) fun t3 =>
  st_g (so_lq t3 [8] v2) fun t4 =>
  st_g (so_gq t4 [7] 0) fun t5 =>
  st_g (so_cm t5 [6]) fun _ =>
  st_b (al_add1 gl t5 v3) fun t6 =>
  st_r ()
/-! PromiseVats.packArgument(LPromiseVats$Entity;II)V -/
def xP_packArgument (gl : gl_T) (v0 : Option Nat) (v1 : Option Nat) (v2 : Int32) (v3 : Int32) : st_M (Unit) :=
  if v1 = none then
  (st_r ())
  else
  (st_g (so_gi v1 [3, 4] 4) fun t1 =>
  if t1 = v2 then
  (st_g (so_gq v1 [3, 4] 7) fun t2 =>
  st_g (so_li t2 0 v3) fun t3 =>
  st_w (so_si t2 0 v3 (t3 + (1 : Int32))) (
  st_r ()))
  else
  (st_g (so_gi v1 [3, 4] 4) fun t5 =>
  if t5 = v3 then
  (st_r ())
  else
  (st_g (so_gi v1 [3, 4] 4) fun t6 =>
  st_n (.inr (.inr (9, cd_9))) 5 fun t7 =>
  st_b (xM_init gl (some t7) (4 : Int32) v1 none v3) fun _ =>
  st_g (so_cm v0 [0]) fun _ =>
  st_b (xP_post gl v0 v2 t6 (some t7)) fun _ =>
  st_r ())))
/-! PromiseVats.postCall(LPromiseVats$Call;I)V -/
def xP_postCall (gl : gl_T) (v0 : Option Nat) (v1 : Option Nat) (v2 : Int32) : st_M (Unit) :=
  st_g (so_gq v1 [8] 0) fun t1 =>
  st_g (so_gi t1 [3, 4] 4) fun t2 =>
  st_g (so_gq v1 [8] 2) fun t3 =>
  st_g (so_cm v0 [0]) fun _ =>
  st_b (xP_packArgument gl v0 t3 v2 t2) fun _ =>
  st_n (.inr (.inr (9, cd_9))) 5 fun t12 =>
  st_g (so_gq v1 [8] 0) fun t16 =>
  st_g (so_gq v1 [8] 2) fun t17 =>
  st_b (xM_init gl (some t12) (1 : Int32) t16 t17 (0 : Int32)) fun _ =>
  st_w (so_p (some t12) [9] 4 (va_rf v1)) (
  st_g (so_cm v0 [0]) fun _ =>
  st_b (xP_post gl v0 v2 t2 (some t12)) fun _ =>
  st_r ())
/-! PromiseVats.arrive(LPromiseVats$Call;I)V -/
def xP_arrive_b2 (gl : gl_T) (rec2 : Option Nat × Option Nat × Int32 × Int32 → st_M (Unit)) (p0 : Option Nat) (p1 : Option Nat) (p2 : Int32) (p3 : Int32) : st_M (Unit) :=
  if (100 : Int32) < p3 then
  (st_r ())
  else
  (st_g (so_gq p1 [8] 0) fun t1 =>
  st_g (so_i t1 [4] [3]) fun t2 =>
  if t2 = 0 then
  (st_g (so_gq p0 [0] 0) fun t3 =>
  st_g (so_lq t3 [4] p2) fun t4 =>
  st_g (so_gq t4 [5] 1) fun t5 =>
  st_g (so_cm t5 [6]) fun _ =>
  st_b (al_add1 gl t5 p1) fun t6 =>
  st_r ())
  else
  (st_g (so_k t1 [4]) fun _ =>
  st_g (so_gi t1 [4] 0) fun t16 =>
  if t16 = 0 then
  (st_g (so_gq t1 [4] 1) fun t17 =>
  if t17 = none then
  (st_g (so_cm p0 [0]) fun _ =>
  st_b (xP_lose gl p0 p1) fun _ =>
  st_r ())
  else
  (st_g (so_gq t1 [4] 1) fun t27 =>
  st_w (so_p p1 [8] 0 (va_rf t27)) (
  st_g (so_gq p1 [8] 0) fun t29 =>
  st_g (so_gi t29 [3, 4] 4) fun t30 =>
  if t30 = p2 then
  (rec2 (p0, p1, p2, (p3 + (1 : Int32))))
  else
  (st_g (so_cm p0 [0]) fun _ =>
  st_b (xP_postCall gl p0 p1 p2) fun _ =>
  st_r ()))))
  else
  (st_g (so_cm p0 [0]) fun _ =>
  st_b (xP_waitAt gl p0 t1 p1) fun _ =>
  st_r ())))
def xP_arrive (gl : gl_T) (v0 : Option Nat) (v1 : Option Nat) (v2 : Int32) : st_M (Unit) :=
  st_it (fun rec2 => (fun x : Option Nat × Option Nat × Int32 × Int32 => xP_arrive_b2 gl rec2 x.1 x.2.1 x.2.2.1 x.2.2.2)) fu_ (v0, v1, v2, (0 : Int32))
/-! PromiseVats.poke(II)Z -/
def xP_poke_b25 (gl : gl_T) : st_M (Int32) :=
  st_r (0 : Int32)
def xP_poke (gl : gl_T) (v0 : Option Nat) (v1 : Int32) (v2 : Int32) : st_M (Int32) :=
  st_g (so_cm v0 [0]) fun _ =>
  st_b (xP_isVat gl v0 v1) fun t1 =>
  if t1 = 0 then
  (xP_poke_b25 gl )
  else
  (st_g (so_gq v0 [0] 0) fun t9 =>
  st_g (so_lq t9 [4] v1) fun t10 =>
  st_g (so_gq t10 [5] 1) fun t11 =>
  st_g (so_cm t11 [6]) fun _ =>
  st_b (al_size gl t11) fun t12 =>
  if t12 < (20 : Int32) then
  (st_n (.inr (.inr (8, cd_8))) 4 fun t20 =>
  st_g (so_gq v0 [0] 0) fun t24 =>
  st_g (so_lq t24 [4] v1) fun t25 =>
  st_g (so_gq t25 [5] 0) fun t26 =>
  st_b (xC_init gl (some t20) t26 v2 none none) fun _ =>
  st_g (so_cm v0 [0]) fun _ =>
  st_b (xP_arrive gl v0 (some t20) v1) fun _ =>
  st_r (1 : Int32))
  else
  (xP_poke_b25 gl ))
/-! PromiseVats$Turn.begin(LPromiseVats$VatObject;LPromiseVats$Call;)V -/
def xT_begin (gl : gl_T) (v0 : Option Nat) (v1 : Option Nat) (v2 : Option Nat) : st_M (Unit) :=
  st_w (so_p v0 [1] 0 (va_rf v1)) (
  st_g (so_gi v2 [8] 1) fun t2 =>
  st_w (so_p v0 [1] 1 (.int t2)) (
  st_g (so_gq v2 [8] 2) fun t4 =>
  st_w (so_p v0 [1] 2 (va_rf t4)) (
  st_w (so_p v0 [1] 3 (.int (0 : Int32))) (
  st_r ()))))
/-! PromiseVats.makeObject(LPromiseVats$Turn;I)LPromiseVats$VatObject; -/
def xP_makeObject (gl : gl_T) (v0 : Option Nat) (v1 : Option Nat) (v2 : Int32) : st_M (Option Nat) :=
  st_g (so_gi v0 [0] 3) fun t1 =>
  if t1 < (60 : Int32) then
  (st_g (so_gi v0 [0] 3) fun t2 =>
  st_w (so_p v0 [0] 3 (.int (t2 + (1 : Int32)))) (
  st_n (.inr (.inr (3, cd_3))) 10 fun t4 =>
  st_g (so_gi v0 [0] 3) fun t8 =>
  st_g (so_gq v1 [1] 0) fun t9 =>
  st_g (so_gi t9 [3] 4) fun t10 =>
  st_b (xO_init gl (some t4) t8 t10 v2) fun _ =>
  st_g (so_gi v1 [1] 1) fun t19 =>
  st_w (so_p (some t4) [3] 1 (.int t19)) (
  st_g (so_gq (some t4) [3] 2) fun t21 =>
  st_g (so_gq v1 [1] 2) fun t22 =>
  st_w (so_sq t21 [6] [3, 4] (0 : Int32) t22) (
  st_g (so_gq v0 [0] 2) fun t24 =>
  st_g (so_gi (some t4) [3] 3) fun t25 =>
  st_w (so_sq t24 [6] [3, 4] t25 (some t4)) (
  st_r (some t4))))))
  else
  (st_r none)
/-! PromiseVats$Promise.<init>(II)V -/
def xQ_init (gl : gl_T) (v0 : Option Nat) (v1 : Int32) (v2 : Int32) : st_M (Unit) :=
  st_g (so_c v0) fun _ =>
  st_b (xE_init gl v0 v1 v2) fun _ =>
  st_w (so_p v0 [4] 0 (.int (1 : Int32))) (
  st_n (.inr (.inr (6, cd_6))) 3 fun t10 =>
  st_b (al_init gl (some t10)) fun _ =>
  st_w (so_p v0 [4] 2 (va_rf (some t10))) (
  st_r ()))
/-! PromiseVats.callFrom(LPromiseVats$Turn;LPromiseVats$Entity;)LPromiseVats$Promise; -/
def xP_callFrom_b13 (gl : gl_T) : st_M (Option Nat) :=
  st_r none
def xP_callFrom_b126 (gl : gl_T) (p3 : Option Nat) : st_M (Option Nat) :=
  st_r p3
def xP_callFrom (gl : gl_T) (v0 : Option Nat) (v1 : Option Nat) (v2 : Option Nat) : st_M (Option Nat) :=
  if v2 = none then
  (xP_callFrom_b13 gl )
  else
  (st_g (so_gi v0 [0] 4) fun t1 =>
  if t1 < (100 : Int32) then
  (st_g (so_gi v0 [0] 4) fun t2 =>
  st_w (so_p v0 [0] 4 (.int (t2 + (1 : Int32)))) (
  st_n (.inr (.inr (4, cd_4))) 10 fun t4 =>
  st_g (so_gi v0 [0] 4) fun t8 =>
  st_g (so_gi v2 [3, 4] 4) fun t9 =>
  st_b (xQ_init gl (some t4) ((100 : Int32) + t8) t9) fun _ =>
  st_g (so_gq v0 [0] 2) fun t18 =>
  st_g (so_gi (some t4) [4] 3) fun t19 =>
  st_w (so_sq t18 [6] [3, 4] t19 (some t4)) (
  st_n (.inr (.inr (8, cd_8))) 4 fun t21 =>
  st_g (so_gi v1 [1] 1) fun t25 =>
  st_g (so_gq v1 [1] 2) fun t26 =>
  st_b (xC_init gl (some t21) v2 t25 t26 (some t4)) fun _ =>
  st_g (so_gq v1 [1] 0) fun t35 =>
  st_g (so_gi t35 [3] 4) fun t36 =>
  st_g (so_gi v2 [3, 4] 4) fun t37 =>
  if t37 = t36 then
  (st_g (so_cm v0 [0]) fun _ =>
  st_b (xP_arrive gl v0 (some t21) t36) fun _ =>
  xP_callFrom_b126 gl (some t4))
  else
  (st_g (so_cm v0 [0]) fun _ =>
  st_b (xP_postCall gl v0 (some t21) t36) fun _ =>
  st_g (so_gq (some t4) [4] 7) fun t55 =>
  st_w (so_si t55 0 t36 (1 : Int32)) (
  st_g (so_gq (some t4) [4] 8) fun t57 =>
  st_w (so_si t57 0 t36 (1 : Int32)) (
  xP_callFrom_b126 gl (some t4)))))))
  else
  (xP_callFrom_b13 gl ))
/-! PromiseVats$Vat.putOut(I)V -/
def xV_putOut (gl : gl_T) (v0 : Option Nat) (v1 : Int32) : st_M (Unit) :=
  st_g (so_gq v0 [5] 3) fun t1 =>
  st_g (so_gq v0 [5] 3) fun t2 =>
  st_w (so_ci t1 (0 : Int32) t2 (1 : Int32) (9 : Int32) 0) (
  st_g (so_gq v0 [5] 3) fun t4 =>
  st_w (so_si t4 0 (0 : Int32) v1) (
  st_g (so_gi v0 [5] 4) fun t6 =>
  st_w (so_p v0 [5] 4 (.int (t6 + (1 : Int32)))) (
  st_r ())))
/-! PromiseVats.perform(LPromiseVats$Turn;II)V -/
def xP_perform_b179 (gl : gl_T) (q0 : Int32) (q1 : Option Nat) : st_M (Unit) :=
  st_w (so_p q1 [1] 3 (.int q0)) (
  st_r ())
def xP_perform (gl : gl_T) (v0 : Option Nat) (v1 : Option Nat) (v2 : Int32) (v3 : Int32) : st_M (Unit) :=
  st_g (so_gq v1 [1] 0) fun t1 =>
  (if v2 = (0 : Int32) then
  (st_w (so_p v1 [1] 1 (.int v3)) (
  st_r ()))
  else
  (if v2 = (1 : Int32) then
  (st_g (so_gi v1 [1] 1) fun t3 =>
  st_g (so_gi t1 [3] 1) fun t4 =>
  st_w (so_p v1 [1] 1 (.int (t3 + t4))) (
  st_r ()))
  else
  (if v2 = (2 : Int32) then
  (st_g (so_gi v1 [1] 1) fun t6 =>
  st_w (so_p t1 [3] 1 (.int t6)) (
  st_r ()))
  else
  (if v2 = (3 : Int32) then
  (st_g (so_gq t1 [3] 2) fun t8 =>
  st_g (so_gq v1 [1] 2) fun t9 =>
  st_w (so_sq t8 [6] [3, 4] v3 t9) (
  st_r ()))
  else
  (if v2 = (4 : Int32) then
  (st_g (so_gq t1 [3] 2) fun t11 =>
  st_g (so_lq t11 [6] v3) fun t12 =>
  st_w (so_p v1 [1] 2 (va_rf t12)) (
  st_r ()))
  else
  (if v2 = (5 : Int32) then
  (st_w (so_p v1 [1] 2 (va_rf t1)) (
  st_r ()))
  else
  (if v2 = (6 : Int32) then
  (st_g (so_cm v0 [0]) fun _ =>
  st_b (xP_makeObject gl v0 v1 v3) fun t15 =>
  st_w (so_p v1 [1] 2 (va_rf t15)) (
  st_r ()))
  else
  (if v2 = (7 : Int32) then
  (st_g (so_gq t1 [3] 2) fun t25 =>
  st_g (so_lq t25 [6] v3) fun t26 =>
  st_g (so_cm v0 [0]) fun _ =>
  st_b (xP_callFrom gl v0 v1 t26) fun t27 =>
  st_w (so_p v1 [1] 2 (va_rf t27)) (
  st_r ()))
  else
  (if v2 = (8 : Int32) then
  (st_g (so_gi v1 [1] 1) fun t37 =>
  if t37 = 0 then
  (xP_perform_b179 gl v3 v1)
  else
  (xP_perform_b179 gl (0 : Int32) v1))
  else
  (if v2 = (9 : Int32) then
  (st_g (so_gq v0 [0] 0) fun t38 =>
  st_g (so_gi t1 [3] 4) fun t39 =>
  st_g (so_lq t38 [4] t39) fun t40 =>
  st_g (so_gi v1 [1] 1) fun t41 =>
  st_g (so_cm t40 [5]) fun _ =>
  st_b (xV_putOut gl t40 t41) fun _ =>
  st_r ())
  else
  (st_w (so_p v1 [1] 2 (va_rf none)) (
  st_r ()))))))))))))
/-! PromiseVats.leadsTo(LPromiseVats$Entity;LPromiseVats$Promise;)Z -/
def xP_leadsTo_b57 (gl : gl_T) (rec4 : Option Nat × Option Nat × Int32 → st_M (Int32)) (p1 : Option Nat) (p2 : Option Nat) (p3 : Int32) : st_M (Int32) :=
  rec4 (p1, p2, (p3 + (1 : Int32)))
def xP_leadsTo_b55 (gl : gl_T) (rec4 : Option Nat × Option Nat × Int32 → st_M (Int32)) (p1 : Option Nat) (p3 : Int32) : st_M (Int32) :=
  xP_leadsTo_b57 gl rec4 p1 none p3
def xP_leadsTo_b63 (gl : gl_T) : st_M (Int32) :=
  st_r (0 : Int32)
def xP_leadsTo_b4 (gl : gl_T) (rec4 : Option Nat × Option Nat × Int32 → st_M (Int32)) (p1 : Option Nat) (p2 : Option Nat) (p3 : Int32) : st_M (Int32) :=
  if (100 : Int32) < p3 then
  (xP_leadsTo_b63 gl )
  else
  (if p2 = none then
  (xP_leadsTo_b63 gl )
  else
  (if p2 = p1 then
  (st_r (1 : Int32))
  else
  (st_g (so_i p2 [4] [3]) fun t1 =>
  if t1 = 0 then
  (xP_leadsTo_b55 gl rec4 p1 p3)
  else
  (st_g (so_k p2 [4]) fun _ =>
  st_g (so_gi p2 [4] 4) fun t3 =>
  st_g (so_gi p1 [4] 4) fun t4 =>
  if t3 = t4 then
  (st_g (so_gq p2 [4] 1) fun t5 =>
  xP_leadsTo_b57 gl rec4 p1 t5 p3)
  else
  (xP_leadsTo_b55 gl rec4 p1 p3)))))
def xP_leadsTo (gl : gl_T) (v0 : Option Nat) (v1 : Option Nat) : st_M (Int32) :=
  st_it (fun rec4 => (fun x : Option Nat × Option Nat × Int32 => xP_leadsTo_b4 gl rec4 x.1 x.2.1 x.2.2)) fu_ (v1, v0, (0 : Int32))
/-! PromiseVats.resolveIn(ILPromiseVats$Promise;LPromiseVats$Entity;)V -/
def xP_resolveIn_b121 (gl : gl_T) (p2 : Option Nat) : st_M (Unit) :=
  st_g (so_gq p2 [4] 2) fun t78 =>
  st_g (so_cm t78 [6]) fun _ =>
  st_b (al_clear gl t78) fun _ =>
  st_r ()
def xP_resolveIn_b79 (gl : gl_T) (rec79 : Option Nat × Int32 × Option Nat × Int32 → st_M (Unit)) (p0 : Option Nat) (p1 : Int32) (p2 : Option Nat) (p4 : Int32) : st_M (Unit) :=
  if (8 : Int32) ≤ p4 then
  (xP_resolveIn_b121 gl p2)
  else
  (st_g (so_gq p2 [4] 2) fun t48 =>
  st_g (so_cm t48 [6]) fun _ =>
  st_b (al_size gl t48) fun t49 =>
  if t49 ≤ p4 then
  (xP_resolveIn_b121 gl p2)
  else
  (st_g (so_gq p2 [4] 2) fun t57 =>
  st_g (so_cm t57 [6]) fun _ =>
  st_b (al_get gl t57 p4) fun t58 =>
  st_g (so_k t58 [8]) fun _ =>
  st_g (so_cm p0 [0]) fun _ =>
  st_b (xP_arrive gl p0 t58 p1) fun _ =>
  rec79 (p0, p1, p2, (p4 + (1 : Int32)))))
def xP_resolveIn_b68 (gl : gl_T) (p0 : Option Nat) (p1 : Int32) (p2 : Option Nat) (q0 : Option Nat) (q1 : Option Nat) : st_M (Unit) :=
  st_w (so_p q1 [4] 1 (va_rf q0)) (
  st_w (so_p p2 [4] 0 (.int (0 : Int32))) (
  st_it (fun rec79 => (fun x : Option Nat × Int32 × Option Nat × Int32 => xP_resolveIn_b79 gl rec79 x.1 x.2.1 x.2.2.1 x.2.2.2)) fu_ (p0, p1, p2, (0 : Int32))))
def xP_resolveIn (gl : gl_T) (v0 : Option Nat) (v1 : Int32) (v2 : Option Nat) (v3 : Option Nat) : st_M (Unit) :=
  st_g (so_gi v2 [4] 4) fun t1 =>
  if t1 = v1 then
  (st_g (so_gi v2 [4] 5) fun t2 =>
  if t2 = 0 then
  (st_g (so_gi v2 [4] 0) fun t3 =>
  if t3 = 0 then
  (st_r ())
  else
  (st_b (xP_leadsTo gl v3 v2) fun t4 =>
  if t4 = 0 then
  (xP_resolveIn_b68 gl v0 v1 v2 v3 v2)
  else
  (xP_resolveIn_b68 gl v0 v1 v2 none v2)))
  else
  (st_r ()))
  else
  (st_g (so_gi v2 [4] 4) fun t12 =>
  st_g (so_cm v0 [0]) fun _ =>
  st_b (xP_packArgument gl v0 v3 v1 t12) fun _ =>
  st_g (so_gi v2 [4] 4) fun t21 =>
  st_n (.inr (.inr (9, cd_9))) 5 fun t22 =>
  st_b (xM_init gl (some t22) (2 : Int32) v2 v3 (0 : Int32)) fun _ =>
  st_g (so_cm v0 [0]) fun _ =>
  st_b (xP_post gl v0 v1 t21 (some t22)) fun _ =>
  st_r ())
/-! PromiseVats.settleLost(I)V -/
def xP_settleLost_b37 (gl : gl_T) (p0 : Option Nat) : st_M (Unit) :=
  st_w (so_p p0 [0] 7 (.int (0 : Int32))) (
  st_r ())
def xP_settleLost_b2 (gl : gl_T) (rec2 : Option Nat × Int32 × Int32 → st_M (Unit)) (p0 : Option Nat) (p1 : Int32) (p2 : Int32) : st_M (Unit) :=
  st_g (so_gq p0 [0] 6) fun t1 =>
  st_g (so_n t1 [7]) fun t2 =>
  if t2 ≤ p2 then
  (xP_settleLost_b37 gl p0)
  else
  (st_g (so_gi p0 [0] 7) fun t3 =>
  if t3 ≤ p2 then
  (xP_settleLost_b37 gl p0)
  else
  (st_g (so_gq p0 [0] 6) fun t4 =>
  st_g (so_lq t4 [7] p2) fun t5 =>
  st_g (so_cm p0 [0]) fun _ =>
  st_b (xP_resolveIn gl p0 p1 t5 none) fun _ =>
  rec2 (p0, p1, (p2 + (1 : Int32)))))
def xP_settleLost (gl : gl_T) (v0 : Option Nat) (v1 : Int32) : st_M (Unit) :=
  st_it (fun rec2 => (fun x : Option Nat × Int32 × Int32 => xP_settleLost_b2 gl rec2 x.1 x.2.1 x.2.2)) fu_ (v0, v1, (0 : Int32))
/-! PromiseVats.turn(I)I -/
def xP_turn_b23 (gl : gl_T) : st_M (Int32) :=
  st_r (-1 : Int32)
def xP_turn_b150 (gl : gl_T) (rec85 : Option Nat × Int32 × Option Nat × Option Nat × Option Nat × Int32 → st_M (Int32)) (p0 : Option Nat) (p1 : Int32) (p2 : Option Nat) (p3 : Option Nat) (p4 : Option Nat) (p5 : Int32) : st_M (Int32) :=
  rec85 (p0, p1, p2, p3, p4, (p5 + (1 : Int32)))
def xP_turn_b184 (gl : gl_T) (p3 : Option Nat) : st_M (Int32) :=
  st_g (so_gi p3 [3] 3) fun t102 =>
  st_r t102
def xP_turn_b85 (gl : gl_T) (rec85 : Option Nat × Int32 × Option Nat × Option Nat × Option Nat × Int32 → st_M (Int32)) (p0 : Option Nat) (p1 : Int32) (p2 : Option Nat) (p3 : Option Nat) (p4 : Option Nat) (p5 : Int32) : st_M (Int32) :=
  st_g (so_gi p4 [2] 2) fun t51 =>
  if t51 ≤ p5 then
  (st_g (so_gq p2 [8] 3) fun t52 =>
  if t52 = none then
  (xP_turn_b184 gl p3)
  else
  (st_g (so_gq p2 [8] 3) fun t53 =>
  st_g (so_gq p0 [0] 5) fun t54 =>
  st_g (so_gq t54 [1] 2) fun t55 =>
  st_g (so_cm p0 [0]) fun _ =>
  st_b (xP_resolveIn gl p0 p1 t53 t55) fun _ =>
  st_g (so_cm p0 [0]) fun _ =>
  st_b (xP_settleLost gl p0 p1) fun _ =>
  xP_turn_b184 gl p3))
  else
  (st_g (so_gq p0 [0] 5) fun t74 =>
  st_g (so_gi t74 [1] 3) fun t75 =>
  if t75 ≤ 0 then
  (st_g (so_gq p0 [0] 5) fun t76 =>
  st_g (so_gq p4 [2] 0) fun t77 =>
  st_g (so_li t77 0 p5) fun t78 =>
  st_g (so_gq p4 [2] 1) fun t79 =>
  st_g (so_li t79 0 p5) fun t80 =>
  st_g (so_cm p0 [0]) fun _ =>
  st_b (xP_perform gl p0 t76 t78 t80) fun _ =>
  st_g (so_cm p0 [0]) fun _ =>
  st_b (xP_settleLost gl p0 p1) fun _ =>
  xP_turn_b150 gl rec85 p0 p1 p2 p3 p4 p5)
  else
  (st_g (so_gq p0 [0] 5) fun t99 =>
  st_g (so_gi t99 [1] 3) fun t100 =>
  st_w (so_p t99 [1] 3 (.int (t100 - (1 : Int32)))) (
  xP_turn_b150 gl rec85 p0 p1 p2 p3 p4 p5)))
def xP_turn (gl : gl_T) (v0 : Option Nat) (v1 : Int32) : st_M (Int32) :=
  st_g (so_cm v0 [0]) fun _ =>
  st_b (xP_isVat gl v0 v1) fun t1 =>
  if t1 = 0 then
  (xP_turn_b23 gl )
  else
  (st_g (so_gq v0 [0] 0) fun t9 =>
  st_g (so_lq t9 [4] v1) fun t10 =>
  st_g (so_gq t10 [5] 1) fun t11 =>
  st_g (so_cm t11 [6]) fun _ =>
  st_b (al_isEmpty gl t11) fun t12 =>
  if t12 = 0 then
  (st_g (so_gq v0 [0] 0) fun t20 =>
  st_g (so_lq t20 [4] v1) fun t21 =>
  st_g (so_gq t21 [5] 1) fun t22 =>
  st_g (so_cm t22 [6]) fun _ =>
  st_b (al_remove gl t22 (0 : Int32)) fun t23 =>
  st_g (so_k t23 [8]) fun _ =>
  st_g (so_gq t23 [8] 0) fun t32 =>
  st_g (so_i t32 [3] [4]) fun t33 =>
  if t33 = 0 then
  (st_r (-1 : Int32))
  else
  (st_g (so_k t32 [3]) fun _ =>
  st_g (so_gq v0 [0] 5) fun t35 =>
  st_g (so_cm t35 [1]) fun _ =>
  st_b (xT_begin gl t35 t32 t23) fun _ =>
  st_g (so_gq v0 [0] 1) fun t44 =>
  st_g (so_gi t32 [3] 0) fun t45 =>
  st_g (so_lq t44 [5] t45) fun t46 =>
  st_it (fun rec85 => (fun x : Option Nat × Int32 × Option Nat × Option Nat × Option Nat × Int32 => xP_turn_b85 gl rec85 x.1 x.2.1 x.2.2.1 x.2.2.2.1 x.2.2.2.2.1 x.2.2.2.2.2)) fu_ (v0, v1, t23, t32, t46, (0 : Int32))))
  else
  (xP_turn_b23 gl ))
/-! PromiseVats.flying(II)I -/
def xP_flying_b36 (gl : gl_T) : st_M (Int32) :=
  st_r (0 : Int32)
def xP_flying (gl : gl_T) (v0 : Option Nat) (v1 : Int32) (v2 : Int32) : st_M (Int32) :=
  st_g (so_cm v0 [0]) fun _ =>
  st_b (xP_isVat gl v0 v1) fun t1 =>
  if t1 = 0 then
  (xP_flying_b36 gl )
  else
  (st_g (so_cm v0 [0]) fun _ =>
  st_b (xP_isVat gl v0 v2) fun t9 =>
  if t9 = 0 then
  (xP_flying_b36 gl )
  else
  (st_g (so_gq v0 [0] 0) fun t17 =>
  st_g (so_lq t17 [4] v1) fun t18 =>
  st_g (so_gq t18 [5] 2) fun t19 =>
  st_g (so_lq t19 [8] v2) fun t20 =>
  st_g (so_gq t20 [7] 0) fun t21 =>
  st_g (so_cm t21 [6]) fun _ =>
  st_b (al_size gl t21) fun t22 =>
  st_r t22))
/-! PromiseVats.unpackArgument(LPromiseVats$Entity;II)V -/
def xP_unpackArgument (gl : gl_T) (v0 : Option Nat) (v1 : Option Nat) (v2 : Int32) (v3 : Int32) : st_M (Unit) :=
  if v1 = none then
  (st_r ())
  else
  (st_g (so_gi v1 [3, 4] 4) fun t1 =>
  if t1 = v3 then
  (st_r ())
  else
  (st_g (so_gq v1 [3, 4] 8) fun t2 =>
  st_g (so_li t2 0 v3) fun t3 =>
  st_w (so_si t2 0 v3 (t3 + (1 : Int32))) (
  st_g (so_gi v1 [3, 4] 4) fun t5 =>
  if t5 = v2 then
  (st_r ())
  else
  (st_g (so_gi v1 [3, 4] 4) fun t6 =>
  st_n (.inr (.inr (9, cd_9))) 5 fun t7 =>
  st_b (xM_init gl (some t7) (5 : Int32) v1 none v2) fun _ =>
  st_g (so_cm v0 [0]) fun _ =>
  st_b (xP_post gl v0 v3 t6 (some t7)) fun _ =>
  st_r ()))))
/-! PromiseVats.takeGift(LPromiseVats$Entity;II)V -/
def xP_takeGift_b25 (gl : gl_T) (p0 : Option Nat) (p3 : Int32) : st_M (Unit) :=
  st_g (so_gq p0 [3, 4] 9) fun t6 =>
  st_g (so_li t6 0 p3) fun t7 =>
  st_w (so_si t6 0 p3 (t7 + (1 : Int32))) (
  st_r ())
def xP_takeGift (gl : gl_T) (v0 : Option Nat) (v1 : Int32) (v2 : Int32) : st_M (Unit) :=
  st_g (so_gq v0 [3, 4] 9) fun t1 =>
  st_g (so_li t1 0 ((v1 * (4 : Int32)) + v2)) fun t2 =>
  if 0 ≤ t2 then
  (xP_takeGift_b25 gl v0 ((v1 * (4 : Int32)) + v2))
  else
  (st_g (so_gq v0 [3, 4] 7) fun t3 =>
  st_g (so_li t3 0 v2) fun t4 =>
  st_w (so_si t3 0 v2 (t4 + (1 : Int32))) (
  xP_takeGift_b25 gl v0 ((v1 * (4 : Int32)) + v2)))
/-! PromiseVats.takeRedeem(LPromiseVats$Entity;II)V -/
def xP_takeRedeem_b25 (gl : gl_T) (p0 : Option Nat) (p3 : Int32) : st_M (Unit) :=
  st_g (so_gq p0 [3, 4] 9) fun t6 =>
  st_g (so_li t6 0 p3) fun t7 =>
  st_w (so_si t6 0 p3 (t7 - (1 : Int32))) (
  st_r ())
def xP_takeRedeem (gl : gl_T) (v0 : Option Nat) (v1 : Int32) (v2 : Int32) : st_M (Unit) :=
  st_g (so_gq v0 [3, 4] 9) fun t1 =>
  st_g (so_li t1 0 ((v1 * (4 : Int32)) + v2)) fun t2 =>
  if t2 ≤ 0 then
  (xP_takeRedeem_b25 gl v0 ((v1 * (4 : Int32)) + v2))
  else
  (st_g (so_gq v0 [3, 4] 7) fun t3 =>
  st_g (so_li t3 0 v2) fun t4 =>
  st_w (so_si t3 0 v2 (t4 + (1 : Int32))) (
  xP_takeRedeem_b25 gl v0 ((v1 * (4 : Int32)) + v2)))
/-! PromiseVats.takeMessage(LPromiseVats$Message;II)V -/
def xP_takeMessage_b85 (gl : gl_T) : st_M (Unit) :=
  st_r ()
def xP_takeMessage (gl : gl_T) (v0 : Option Nat) (v1 : Option Nat) (v2 : Int32) (v3 : Int32) : st_M (Unit) :=
  st_g (so_gq v1 [9] 1) fun t1 =>
  st_g (so_gi v1 [9] 0) fun t2 =>
  (if t2 = (1 : Int32) then
  (st_g (so_gq v1 [9] 4) fun t3 =>
  if t3 = none then
  (st_r ())
  else
  (st_g (so_gq v1 [9] 4) fun t4 =>
  st_g (so_cm v0 [0]) fun _ =>
  st_b (xP_arrive gl v0 t4 v3) fun _ =>
  st_r ()))
  else
  (if t2 = (2 : Int32) then
  (st_g (so_i t1 [4] [3]) fun t14 =>
  if t14 = 0 then
  (xP_takeMessage_b85 gl )
  else
  (st_g (so_k t1 [4]) fun _ =>
  st_g (so_gq v1 [9] 2) fun t16 =>
  st_g (so_cm v0 [0]) fun _ =>
  st_b (xP_resolveIn gl v0 v3 t1 t16) fun _ =>
  xP_takeMessage_b85 gl ))
  else
  (if t2 = (3 : Int32) then
  (st_g (so_gq t1 [3, 4] 7) fun t26 =>
  st_g (so_li t26 0 v2) fun t27 =>
  st_g (so_gi v1 [9] 3) fun t28 =>
  st_w (so_si t26 0 v2 (t27 - t28)) (
  st_r ()))
  else
  (if t2 = (4 : Int32) then
  (st_g (so_gi v1 [9] 3) fun t30 =>
  st_b (xP_takeGift gl t1 v2 t30) fun _ =>
  st_r ())
  else
  (st_g (so_gi v1 [9] 3) fun t39 =>
  st_b (xP_takeRedeem gl t1 t39 v2) fun _ =>
  st_r ())))))
/-! PromiseVats.deliver(II)I -/
def xP_deliver (gl : gl_T) (v0 : Option Nat) (v1 : Int32) (v2 : Int32) : st_M (Int32) :=
  st_g (so_cm v0 [0]) fun _ =>
  st_b (xP_flying gl v0 v1 v2) fun t1 =>
  if t1 = 0 then
  (st_r (0 : Int32))
  else
  (st_g (so_gq v0 [0] 0) fun t9 =>
  st_g (so_lq t9 [4] v1) fun t10 =>
  st_g (so_gq t10 [5] 2) fun t11 =>
  st_g (so_lq t11 [8] v2) fun t12 =>
  st_g (so_gq t12 [7] 0) fun t13 =>
  st_g (so_cm t13 [6]) fun _ =>
  st_b (al_remove gl t13 (0 : Int32)) fun t14 =>
  st_g (so_k t14 [9]) fun _ =>
  st_g (so_gq t14 [9] 2) fun t23 =>
  st_g (so_cm v0 [0]) fun _ =>
  st_b (xP_unpackArgument gl v0 t23 v1 v2) fun _ =>
  st_g (so_cm v0 [0]) fun _ =>
  st_b (xP_takeMessage gl v0 t14 v1 v2) fun _ =>
  st_g (so_cm v0 [0]) fun _ =>
  st_b (xP_settleLost gl v0 v2) fun _ =>
  st_g (so_gi t14 [9] 0) fun t48 =>
  st_r t48)
/-! PromiseVats.reach(LPromiseVats$Entity;)V -/
def xP_reach (gl : gl_T) (v0 : Option Nat) (v1 : Option Nat) : st_M (Unit) :=
  if v1 = none then
  (st_r ())
  else
  (st_g (so_gi v1 [3, 4] 6) fun t1 =>
  if t1 = 0 then
  (st_g (so_gi v0 [0] 9) fun t2 =>
  st_g (so_gq v0 [0] 8) fun t3 =>
  st_g (so_n t3 [6]) fun t4 =>
  if t4 ≤ t2 then
  (st_r ())
  else
  (st_w (so_p v1 [3, 4] 6 (.int (1 : Int32))) (
  st_g (so_gq v0 [0] 8) fun t6 =>
  st_g (so_gi v0 [0] 9) fun t7 =>
  st_w (so_sq t6 [6] [3, 4] t7 v1) (
  st_g (so_gi v0 [0] 9) fun t9 =>
  st_w (so_p v0 [0] 9 (.int (t9 + (1 : Int32)))) (
  st_r ())))))
  else
  (st_r ()))
/-! PromiseVats$Entity.isExported()Z -/
def xE_isExported_b2 (gl : gl_T) (rec2 : Option Nat × Int32 → st_M (Int32)) (p0 : Option Nat) (p1 : Int32) : st_M (Int32) :=
  st_g (so_gq p0 [3, 4] 7) fun t1 =>
  st_g (so_n t1 [0]) fun t2 =>
  if t2 ≤ p1 then
  (st_r (0 : Int32))
  else
  (st_g (so_gq p0 [3, 4] 7) fun t3 =>
  st_g (so_li t3 0 p1) fun t4 =>
  if t4 ≤ 0 then
  (rec2 (p0, (p1 + (1 : Int32))))
  else
  (st_r (1 : Int32)))
def xE_isExported (gl : gl_T) (v0 : Option Nat) : st_M (Int32) :=
  st_it (fun rec2 => (fun x : Option Nat × Int32 => xE_isExported_b2 gl rec2 x.1 x.2)) fu_ (v0, (0 : Int32))
/-! PromiseVats$Entity.unpaired(I)I -/
def xE_unpaired_b4 (gl : gl_T) (rec4 : Option Nat × Int32 × Int32 × Int32 → st_M (Int32)) (p0 : Option Nat) (p1 : Int32) (p2 : Int32) (p3 : Int32) : st_M (Int32) :=
  st_g (so_gq p0 [3, 4] 9) fun t1 =>
  st_g (so_n t1 [0]) fun t2 =>
  if t2 ≤ p3 then
  (st_r p2)
  else
  (st_g (so_gq p0 [3, 4] 9) fun t3 =>
  st_g (so_li t3 0 p3) fun t4 =>
  st_b (ma_max gl (0 : Int32) (p1 * t4)) fun t5 =>
  rec4 (p0, p1, (p2 + t5), (p3 + (1 : Int32))))
def xE_unpaired (gl : gl_T) (v0 : Option Nat) (v1 : Int32) : st_M (Int32) :=
  st_it (fun rec4 => (fun x : Option Nat × Int32 × Int32 × Int32 => xE_unpaired_b4 gl rec4 x.1 x.2.1 x.2.2.1 x.2.2.2)) fu_ (v0, v1, (0 : Int32), (0 : Int32))
/-! PromiseVats$Entity.isWanted()Z -/
def xE_isWanted_b15 (gl : gl_T) : st_M (Int32) :=
  st_r (1 : Int32)
def xE_isWanted (gl : gl_T) (v0 : Option Nat) : st_M (Int32) :=
  st_g (so_cm v0 [3, 4]) fun _ =>
  st_b (xE_isExported gl v0) fun t1 =>
  if t1 = 0 then
  (st_g (so_cm v0 [3, 4]) fun _ =>
  st_b (xE_unpaired gl v0 (1 : Int32)) fun t9 =>
  if t9 ≤ 0 then
  (st_r (0 : Int32))
  else
  (xE_isWanted_b15 gl ))
  else
  (xE_isWanted_b15 gl )
/-! PromiseVats$Promise.isWanted()Z -/
def xQ_isWanted_b25 (gl : gl_T) : st_M (Int32) :=
  st_r (1 : Int32)
def xQ_isWanted (gl : gl_T) (v0 : Option Nat) : st_M (Int32) :=
  st_g (so_cm v0 [4]) fun _ =>
  st_b (xE_isExported gl v0) fun t1 =>
  if t1 = 0 then
  (st_g (so_cm v0 [4]) fun _ =>
  st_b (xE_unpaired gl v0 (1 : Int32)) fun t9 =>
  if 0 < t9 then
  (xQ_isWanted_b25 gl )
  else
  (st_g (so_gq v0 [4] 2) fun t17 =>
  st_g (so_cm t17 [6]) fun _ =>
  st_b (al_isEmpty gl t17) fun t18 =>
  if t18 = 0 then
  (xQ_isWanted_b25 gl )
  else
  (st_r (0 : Int32))))
  else
  (xQ_isWanted_b25 gl )
/-! PromiseVats.reachWanted(I)V -/
def xP_reachWanted_b49 (gl : gl_T) (rec2 : Option Nat × Int32 × Int32 → st_M (Unit)) (p0 : Option Nat) (p1 : Int32) (p2 : Int32) : st_M (Unit) :=
  rec2 (p0, p1, (p2 + (1 : Int32)))
def xP_reachWanted_b2 (gl : gl_T) (rec2 : Option Nat × Int32 × Int32 → st_M (Unit)) (p0 : Option Nat) (p1 : Int32) (p2 : Int32) : st_M (Unit) :=
  st_g (so_gq p0 [0] 2) fun t1 =>
  st_g (so_n t1 [6]) fun t2 =>
  if t2 ≤ p2 then
  (st_r ())
  else
  (st_g (so_gq p0 [0] 2) fun t3 =>
  st_g (so_lq t3 [6] p2) fun t4 =>
  if t4 = none then
  (xP_reachWanted_b49 gl rec2 p0 p1 p2)
  else
  (st_g (so_gi t4 [3, 4] 4) fun t5 =>
  if t5 = p1 then
  (st_g (so_gi t4 [3, 4] 5) fun t6 =>
  if t6 = 0 then
  (st_g (so_c t4) fun t7 =>
  if t7 ∈ ([3] : List Nat) then
  (st_g (so_cm t4 [3]) fun _ =>
  st_b (xE_isWanted gl t4) fun t8 =>
  if t8 = 0 then
  (xP_reachWanted_b49 gl rec2 p0 p1 p2)
  else
  (st_g (so_cm p0 [0]) fun _ =>
  st_b (xP_reach gl p0 t4) fun _ =>
  xP_reachWanted_b49 gl rec2 p0 p1 p2))
  else
  (st_g (so_cm t4 [4]) fun _ =>
  st_b (xQ_isWanted gl t4) fun t26 =>
  if t26 = 0 then
  (xP_reachWanted_b49 gl rec2 p0 p1 p2)
  else
  (st_g (so_cm p0 [0]) fun _ =>
  st_b (xP_reach gl p0 t4) fun _ =>
  xP_reachWanted_b49 gl rec2 p0 p1 p2)))
  else
  (xP_reachWanted_b49 gl rec2 p0 p1 p2))
  else
  (xP_reachWanted_b49 gl rec2 p0 p1 p2)))
def xP_reachWanted (gl : gl_T) (v0 : Option Nat) (v1 : Int32) : st_M (Unit) :=
  st_it (fun rec2 => (fun x : Option Nat × Int32 × Int32 => xP_reachWanted_b2 gl rec2 x.1 x.2.1 x.2.2)) fu_ (v0, v1, (1 : Int32))
/-! PromiseVats.reachCalls(Ljava/util/ArrayList;)V -/
def xP_reachCalls_b2 (gl : gl_T) (rec2 : Option Nat × Option Nat × Int32 → st_M (Unit)) (p0 : Option Nat) (p1 : Option Nat) (p2 : Int32) : st_M (Unit) :=
  st_g (so_cm p1 [6]) fun _ =>
  st_b (al_size gl p1) fun t1 =>
  if t1 ≤ p2 then
  (st_r ())
  else
  (st_g (so_cm p1 [6]) fun _ =>
  st_b (al_get gl p1 p2) fun t9 =>
  st_g (so_k t9 [8]) fun _ =>
  st_g (so_gq t9 [8] 0) fun t18 =>
  st_g (so_cm p0 [0]) fun _ =>
  st_b (xP_reach gl p0 t18) fun _ =>
  st_g (so_cm p1 [6]) fun _ =>
  st_b (al_get gl p1 p2) fun t27 =>
  st_g (so_k t27 [8]) fun _ =>
  st_g (so_gq t27 [8] 2) fun t36 =>
  st_g (so_cm p0 [0]) fun _ =>
  st_b (xP_reach gl p0 t36) fun _ =>
  rec2 (p0, p1, (p2 + (1 : Int32))))
def xP_reachCalls (gl : gl_T) (v0 : Option Nat) (v1 : Option Nat) : st_M (Unit) :=
  st_it (fun rec2 => (fun x : Option Nat × Option Nat × Int32 => xP_reachCalls_b2 gl rec2 x.1 x.2.1 x.2.2)) fu_ (v0, v1, (0 : Int32))
/-! PromiseVats.reachInside(LPromiseVats$Entity;)V -/
def xP_reachInside_b15 (gl : gl_T) (rec15 : Option Nat × Option Nat × Int32 → st_M (Unit)) (p0 : Option Nat) (p2 : Option Nat) (p4 : Int32) : st_M (Unit) :=
  if (4 : Int32) ≤ p4 then
  (st_r ())
  else
  (st_g (so_gq p2 [3] 2) fun t25 =>
  st_g (so_lq t25 [6] p4) fun t26 =>
  st_g (so_cm p0 [0]) fun _ =>
  st_b (xP_reach gl p0 t26) fun _ =>
  rec15 (p0, p2, (p4 + (1 : Int32))))
def xP_reachInside (gl : gl_T) (v0 : Option Nat) (v1 : Option Nat) : st_M (Unit) :=
  st_g (so_i v1 [3] [4]) fun t1 =>
  if t1 = 0 then
  (st_g (so_i v1 [4] [3]) fun t2 =>
  if t2 = 0 then
  (st_r ())
  else
  (st_g (so_k v1 [4]) fun _ =>
  st_g (so_gq v1 [4] 1) fun t4 =>
  st_g (so_cm v0 [0]) fun _ =>
  st_b (xP_reach gl v0 t4) fun _ =>
  st_g (so_gq v1 [4] 2) fun t13 =>
  st_g (so_cm v0 [0]) fun _ =>
  st_b (xP_reachCalls gl v0 t13) fun _ =>
  st_r ()))
  else
  (st_g (so_k v1 [3]) fun _ =>
  st_it (fun rec15 => (fun x : Option Nat × Option Nat × Int32 => xP_reachInside_b15 gl rec15 x.1 x.2.1 x.2.2)) fu_ (v0, v1, (0 : Int32)))
/-! PromiseVats.findReached(I)V -/
def xP_findReached_b30 (gl : gl_T) (rec2 : Option Nat × Int32 × Int32 → st_M (Unit)) (p0 : Option Nat) (p1 : Int32) (p2 : Int32) : st_M (Unit) :=
  rec2 (p0, p1, (p2 + (1 : Int32)))
def xP_findReached_b114 (gl : gl_T) (rec74 : Option Nat × Int32 × Int32 → st_M (Unit)) (p0 : Option Nat) (p1 : Int32) (p2 : Int32) : st_M (Unit) :=
  rec74 (p0, p1, (p2 + (1 : Int32)))
def xP_findReached_b74 (gl : gl_T) (rec74 : Option Nat × Int32 × Int32 → st_M (Unit)) (p0 : Option Nat) (p1 : Int32) (p2 : Int32) : st_M (Unit) :=
  st_g (so_gq p0 [0] 8) fun t42 =>
  st_g (so_n t42 [6]) fun t43 =>
  if t43 ≤ p2 then
  (st_r ())
  else
  (st_g (so_gi p0 [0] 9) fun t44 =>
  if t44 ≤ p2 then
  (st_r ())
  else
  (st_g (so_gq p0 [0] 8) fun t45 =>
  st_g (so_lq t45 [6] p2) fun t46 =>
  st_g (so_gi t46 [3, 4] 4) fun t47 =>
  if t47 = p1 then
  (st_g (so_gq p0 [0] 8) fun t48 =>
  st_g (so_lq t48 [6] p2) fun t49 =>
  st_g (so_cm p0 [0]) fun _ =>
  st_b (xP_reachInside gl p0 t49) fun _ =>
  xP_findReached_b114 gl rec74 p0 p1 p2)
  else
  (xP_findReached_b114 gl rec74 p0 p1 p2)))
def xP_findReached_b2 (gl : gl_T) (rec2 : Option Nat × Int32 × Int32 → st_M (Unit)) (p0 : Option Nat) (p1 : Int32) (p2 : Int32) : st_M (Unit) :=
  st_g (so_gq p0 [0] 2) fun t1 =>
  st_g (so_n t1 [6]) fun t2 =>
  if t2 ≤ p2 then
  (st_w (so_p p0 [0] 9 (.int (0 : Int32))) (
  st_g (so_gq p0 [0] 0) fun t4 =>
  st_g (so_lq t4 [4] p1) fun t5 =>
  st_g (so_gq t5 [5] 0) fun t6 =>
  st_g (so_cm p0 [0]) fun _ =>
  st_b (xP_reach gl p0 t6) fun _ =>
  st_g (so_cm p0 [0]) fun _ =>
  st_b (xP_reachWanted gl p0 p1) fun _ =>
  st_g (so_gq p0 [0] 0) fun t23 =>
  st_g (so_lq t23 [4] p1) fun t24 =>
  st_g (so_gq t24 [5] 1) fun t25 =>
  st_g (so_cm p0 [0]) fun _ =>
  st_b (xP_reachCalls gl p0 t25) fun _ =>
  st_it (fun rec74 => (fun x : Option Nat × Int32 × Int32 => xP_findReached_b74 gl rec74 x.1 x.2.1 x.2.2)) fu_ (p0, p1, (0 : Int32))))
  else
  (st_g (so_gq p0 [0] 2) fun t37 =>
  st_g (so_lq t37 [6] p2) fun t38 =>
  if t38 = none then
  (xP_findReached_b30 gl rec2 p0 p1 p2)
  else
  (st_g (so_gq p0 [0] 2) fun t39 =>
  st_g (so_lq t39 [6] p2) fun t40 =>
  st_w (so_p t40 [3, 4] 6 (.int (0 : Int32))) (
  xP_findReached_b30 gl rec2 p0 p1 p2)))
def xP_findReached (gl : gl_T) (v0 : Option Nat) (v1 : Int32) : st_M (Unit) :=
  st_it (fun rec2 => (fun x : Option Nat × Int32 × Int32 => xP_findReached_b2 gl rec2 x.1 x.2.1 x.2.2)) fu_ (v0, v1, (1 : Int32))
/-! PromiseVats.freeUnreached(I)I -/
def xP_freeUnreached_b60 (gl : gl_T) (rec4 : Option Nat × Int32 × Int32 × Int32 → st_M (Int32)) (p0 : Option Nat) (p1 : Int32) (p2 : Int32) (p3 : Int32) : st_M (Int32) :=
  rec4 (p0, p1, p2, (p3 + (1 : Int32)))
def xP_freeUnreached_b4 (gl : gl_T) (rec4 : Option Nat × Int32 × Int32 × Int32 → st_M (Int32)) (p0 : Option Nat) (p1 : Int32) (p2 : Int32) (p3 : Int32) : st_M (Int32) :=
  st_g (so_gq p0 [0] 2) fun t1 =>
  st_g (so_n t1 [6]) fun t2 =>
  if t2 ≤ p3 then
  (st_r p2)
  else
  (st_g (so_gq p0 [0] 2) fun t3 =>
  st_g (so_lq t3 [6] p3) fun t4 =>
  if t4 = none then
  (xP_freeUnreached_b60 gl rec4 p0 p1 p2 p3)
  else
  (st_g (so_gi t4 [3, 4] 4) fun t5 =>
  if t5 = p1 then
  (st_g (so_gi t4 [3, 4] 6) fun t6 =>
  if t6 = 0 then
  (st_g (so_gi t4 [3, 4] 5) fun t7 =>
  if t7 = 0 then
  (st_w (so_p t4 [3, 4] 5 (.int (1 : Int32))) (
  xP_freeUnreached_b60 gl rec4 p0 p1 (p2 + (1 : Int32)) p3))
  else
  (xP_freeUnreached_b60 gl rec4 p0 p1 p2 p3))
  else
  (xP_freeUnreached_b60 gl rec4 p0 p1 p2 p3))
  else
  (xP_freeUnreached_b60 gl rec4 p0 p1 p2 p3)))
def xP_freeUnreached (gl : gl_T) (v0 : Option Nat) (v1 : Int32) : st_M (Int32) :=
  st_it (fun rec4 => (fun x : Option Nat × Int32 × Int32 × Int32 => xP_freeUnreached_b4 gl rec4 x.1 x.2.1 x.2.2.1 x.2.2.2)) fu_ (v0, v1, (0 : Int32), (1 : Int32))
/-! PromiseVats.releaseUnreached(I)V -/
def xP_releaseUnreached_b70 (gl : gl_T) (rec2 : Option Nat × Int32 × Int32 → st_M (Unit)) (p0 : Option Nat) (p1 : Int32) (p2 : Int32) : st_M (Unit) :=
  rec2 (p0, p1, (p2 + (1 : Int32)))
def xP_releaseUnreached_b2 (gl : gl_T) (rec2 : Option Nat × Int32 × Int32 → st_M (Unit)) (p0 : Option Nat) (p1 : Int32) (p2 : Int32) : st_M (Unit) :=
  st_g (so_gq p0 [0] 2) fun t1 =>
  st_g (so_n t1 [6]) fun t2 =>
  if t2 ≤ p2 then
  (st_r ())
  else
  (st_g (so_gq p0 [0] 2) fun t3 =>
  st_g (so_lq t3 [6] p2) fun t4 =>
  if t4 = none then
  (xP_releaseUnreached_b70 gl rec2 p0 p1 p2)
  else
  (st_g (so_gq t4 [3, 4] 8) fun t5 =>
  st_g (so_li t5 0 p1) fun t6 =>
  if t6 ≤ 0 then
  (xP_releaseUnreached_b70 gl rec2 p0 p1 p2)
  else
  (st_g (so_gi t4 [3, 4] 6) fun t7 =>
  if t7 = 0 then
  (st_g (so_gi t4 [3, 4] 4) fun t8 =>
  st_n (.inr (.inr (9, cd_9))) 5 fun t9 =>
  st_g (so_gq t4 [3, 4] 8) fun t13 =>
  st_g (so_li t13 0 p1) fun t14 =>
  st_b (xM_init gl (some t9) (3 : Int32) t4 none t14) fun _ =>
  st_g (so_cm p0 [0]) fun _ =>
  st_b (xP_post gl p0 p1 t8 (some t9)) fun _ =>
  st_g (so_gq t4 [3, 4] 8) fun t31 =>
  st_w (so_si t31 0 p1 (0 : Int32)) (
  xP_releaseUnreached_b70 gl rec2 p0 p1 p2))
  else
  (xP_releaseUnreached_b70 gl rec2 p0 p1 p2))))
def xP_releaseUnreached (gl : gl_T) (v0 : Option Nat) (v1 : Int32) : st_M (Unit) :=
  st_it (fun rec2 => (fun x : Option Nat × Int32 × Int32 => xP_releaseUnreached_b2 gl rec2 x.1 x.2.1 x.2.2)) fu_ (v0, v1, (1 : Int32))
/-! PromiseVats.sweep(I)I -/
def xP_sweep (gl : gl_T) (v0 : Option Nat) (v1 : Int32) : st_M (Int32) :=
  st_g (so_cm v0 [0]) fun _ =>
  st_b (xP_isVat gl v0 v1) fun t1 =>
  if t1 = 0 then
  (st_r (-1 : Int32))
  else
  (st_g (so_cm v0 [0]) fun _ =>
  st_b (xP_findReached gl v0 v1) fun _ =>
  st_g (so_cm v0 [0]) fun _ =>
  st_b (xP_freeUnreached gl v0 v1) fun t17 =>
  st_g (so_cm v0 [0]) fun _ =>
  st_b (xP_releaseUnreached gl v0 v1) fun _ =>
  st_r t17)
/-! PromiseVats.inbox(I)I -/
def xP_inbox (gl : gl_T) (v0 : Option Nat) (v1 : Int32) : st_M (Int32) :=
  st_g (so_cm v0 [0]) fun _ =>
  st_b (xP_isVat gl v0 v1) fun t1 =>
  if t1 = 0 then
  (st_r (0 : Int32))
  else
  (st_g (so_gq v0 [0] 0) fun t9 =>
  st_g (so_lq t9 [4] v1) fun t10 =>
  st_g (so_gq t10 [5] 1) fun t11 =>
  st_g (so_cm t11 [6]) fun _ =>
  st_b (al_size gl t11) fun t12 =>
  st_r t12)
/-! PromiseVats.waitingAt(LPromiseVats$Entity;)I -/
def xP_waitingAt (gl : gl_T) (v0 : Option Nat) : st_M (Int32) :=
  st_g (so_i v0 [4] [3]) fun t1 =>
  if t1 = 0 then
  (st_r (0 : Int32))
  else
  (st_g (so_k v0 [4]) fun _ =>
  st_g (so_gq v0 [4] 2) fun t3 =>
  st_g (so_cm t3 [6]) fun _ =>
  st_b (al_size gl t3) fun t4 =>
  st_r t4)
/-! PromiseVats.kindOf(LPromiseVats$Entity;)I -/
def xP_kindOf (gl : gl_T) (v0 : Option Nat) : st_M (Int32) :=
  st_g (so_i v0 [4] [3]) fun t1 =>
  if t1 = 0 then
  (st_r (0 : Int32))
  else
  (st_g (so_k v0 [4]) fun _ =>
  st_g (so_gi v0 [4] 0) fun t3 =>
  if t3 = 0 then
  (st_r (2 : Int32))
  else
  (st_r (1 : Int32)))
/-! PromiseVats.shareInCount(LPromiseVats$Entity;II)I -/
def xP_shareInCount_b92 (gl : gl_T) : st_M (Int32) :=
  st_r (0 : Int32)
def xP_shareInCount (gl : gl_T) (v0 : Option Nat) (v1 : Int32) (v2 : Int32) : st_M (Int32) :=
  if v2 = (3 : Int32) then
  (st_g (so_gq v0 [3, 4] 8) fun t1 =>
  st_g (so_li t1 0 v1) fun t2 =>
  if t2 ≤ 0 then
  (st_r (0 : Int32))
  else
  (st_r (1 : Int32)))
  else
  (st_g (so_gi v0 [3, 4] 4) fun t3 =>
  if t3 = v1 then
  ((if v2 = (4 : Int32) then
  (st_g (so_cm v0 [3, 4]) fun _ =>
  st_b (xE_unpaired gl v0 (1 : Int32)) fun t4 =>
  st_r t4)
  else
  (if v2 = (5 : Int32) then
  (st_g (so_cm v0 [3, 4]) fun _ =>
  st_b (xE_unpaired gl v0 (-1 : Int32)) fun t13 =>
  st_r t13)
  else
  (if v2 = (6 : Int32) then
  (st_b (xP_waitingAt gl v0) fun t22 =>
  st_r t22)
  else
  (st_g (so_gi v0 [3, 4] 5) fun t30 =>
  if t30 = 0 then
  (st_b (xP_kindOf gl v0) fun t31 =>
  if v2 = t31 then
  (st_r (1 : Int32))
  else
  (xP_shareInCount_b92 gl ))
  else
  (xP_shareInCount_b92 gl ))))))
  else
  (st_r (0 : Int32)))
/-! PromiseVats.count(II)I -/
def xP_count_b66 (gl : gl_T) (rec31 : Option Nat × Int32 × Int32 × Int32 × Int32 → st_M (Int32)) (p0 : Option Nat) (p1 : Int32) (p2 : Int32) (p3 : Int32) (p4 : Int32) : st_M (Int32) :=
  rec31 (p0, p1, p2, p3, (p4 + (1 : Int32)))
def xP_count_b31 (gl : gl_T) (rec31 : Option Nat × Int32 × Int32 × Int32 × Int32 → st_M (Int32)) (p0 : Option Nat) (p1 : Int32) (p2 : Int32) (p3 : Int32) (p4 : Int32) : st_M (Int32) :=
  st_g (so_gq p0 [0] 2) fun t13 =>
  st_g (so_n t13 [6]) fun t14 =>
  if t14 ≤ p4 then
  (st_r p3)
  else
  (st_g (so_gq p0 [0] 2) fun t15 =>
  st_g (so_lq t15 [6] p4) fun t16 =>
  if t16 = none then
  (xP_count_b66 gl rec31 p0 p1 p2 p3 p4)
  else
  (st_g (so_gq p0 [0] 2) fun t17 =>
  st_g (so_lq t17 [6] p4) fun t18 =>
  st_b (xP_shareInCount gl t18 p1 p2) fun t19 =>
  xP_count_b66 gl rec31 p0 p1 p2 (p3 + t19) p4))
def xP_count (gl : gl_T) (v0 : Option Nat) (v1 : Int32) (v2 : Int32) : st_M (Int32) :=
  st_g (so_cm v0 [0]) fun _ =>
  st_b (xP_isVat gl v0 v1) fun t1 =>
  if t1 = 0 then
  (st_r (0 : Int32))
  else
  (if v2 = (7 : Int32) then
  (st_g (so_gq v0 [0] 0) fun t9 =>
  st_g (so_lq t9 [4] v1) fun t10 =>
  st_g (so_gi t10 [5] 4) fun t11 =>
  st_r t11)
  else
  (st_it (fun rec31 => (fun x : Option Nat × Int32 × Int32 × Int32 × Int32 => xP_count_b31 gl rec31 x.1 x.2.1 x.2.2.1 x.2.2.2.1 x.2.2.2.2)) fu_ (v0, v1, v2, (0 : Int32), (1 : Int32))))
/-! PromiseVats.madeEntity(I)LPromiseVats$Entity; -/
def xP_madeEntity_b22 (gl : gl_T) : st_M (Option Nat) :=
  st_r none
def xP_madeEntity (gl : gl_T) (v0 : Option Nat) (v1 : Int32) : st_M (Option Nat) :=
  if v1 < 0 then
  (xP_madeEntity_b22 gl )
  else
  (st_g (so_gq v0 [0] 2) fun t1 =>
  st_g (so_n t1 [6]) fun t2 =>
  if t2 ≤ v1 then
  (xP_madeEntity_b22 gl )
  else
  (st_g (so_gq v0 [0] 2) fun t3 =>
  st_g (so_lq t3 [6] v1) fun t4 =>
  st_r t4))
/-! PromiseVats.imported(II)I -/
def xP_imported_b27 (gl : gl_T) : st_M (Int32) :=
  st_r (0 : Int32)
def xP_imported (gl : gl_T) (v0 : Option Nat) (v1 : Int32) (v2 : Int32) : st_M (Int32) :=
  st_g (so_cm v0 [0]) fun _ =>
  st_b (xP_madeEntity gl v0 v2) fun t1 =>
  st_g (so_cm v0 [0]) fun _ =>
  st_b (xP_isVat gl v0 v1) fun t9 =>
  if t9 = 0 then
  (xP_imported_b27 gl )
  else
  (if t1 = none then
  (xP_imported_b27 gl )
  else
  (st_g (so_gq t1 [3, 4] 8) fun t17 =>
  st_g (so_li t17 0 v1) fun t18 =>
  st_r t18))
/-! PromiseVats.liveEntity(I)LPromiseVats$Entity; -/
def xP_liveEntity_b17 (gl : gl_T) : st_M (Option Nat) :=
  st_r none
def xP_liveEntity (gl : gl_T) (v0 : Option Nat) (v1 : Int32) : st_M (Option Nat) :=
  st_g (so_cm v0 [0]) fun _ =>
  st_b (xP_madeEntity gl v0 v1) fun t1 =>
  if t1 = none then
  (xP_liveEntity_b17 gl )
  else
  (st_g (so_gi t1 [3, 4] 5) fun t9 =>
  if t9 = 0 then
  (st_r t1)
  else
  (xP_liveEntity_b17 gl ))
/-! PromiseVats.exported(II)I -/
def xP_exported_b27 (gl : gl_T) : st_M (Int32) :=
  st_r (0 : Int32)
def xP_exported (gl : gl_T) (v0 : Option Nat) (v1 : Int32) (v2 : Int32) : st_M (Int32) :=
  st_g (so_cm v0 [0]) fun _ =>
  st_b (xP_liveEntity gl v0 v1) fun t1 =>
  st_g (so_cm v0 [0]) fun _ =>
  st_b (xP_isVat gl v0 v2) fun t9 =>
  if t9 = 0 then
  (xP_exported_b27 gl )
  else
  (if t1 = none then
  (xP_exported_b27 gl )
  else
  (st_g (so_gq t1 [3, 4] 7) fun t17 =>
  st_g (so_li t17 0 v2) fun t18 =>
  st_r t18))
/-! PromiseVats.home(I)I -/
def xP_home (gl : gl_T) (v0 : Option Nat) (v1 : Int32) : st_M (Int32) :=
  st_g (so_cm v0 [0]) fun _ =>
  st_b (xP_liveEntity gl v0 v1) fun t1 =>
  if t1 = none then
  (st_r (-1 : Int32))
  else
  (st_g (so_gi t1 [3, 4] 4) fun t9 =>
  st_r t9)
/-! PromiseVats.referenceTo(LPromiseVats$Entity;)I -/
def xP_referenceTo (gl : gl_T) (v0 : Option Nat) : st_M (Int32) :=
  if v0 = none then
  (st_r (0 : Int32))
  else
  (st_g (so_gi v0 [3, 4] 3) fun t1 =>
  st_r t1)
/-! PromiseVats.slot(II)I -/
def xP_slot_b38 (gl : gl_T) : st_M (Int32) :=
  st_r (0 : Int32)
def xP_slot (gl : gl_T) (v0 : Option Nat) (v1 : Int32) (v2 : Int32) : st_M (Int32) :=
  st_b (xP_isSlot gl v2) fun t1 =>
  if t1 = 0 then
  (xP_slot_b38 gl )
  else
  (st_g (so_cm v0 [0]) fun _ =>
  st_b (xP_liveEntity gl v0 v1) fun t9 =>
  st_g (so_i t9 [3] [4]) fun t17 =>
  if t17 = 0 then
  (xP_slot_b38 gl )
  else
  (st_g (so_k t9 [3]) fun _ =>
  st_g (so_gq t9 [3] 2) fun t19 =>
  st_g (so_lq t19 [6] v2) fun t20 =>
  st_b (xP_referenceTo gl t20) fun t21 =>
  st_r t21))
/-! PromiseVats.number(I)I -/
def xP_number (gl : gl_T) (v0 : Option Nat) (v1 : Int32) : st_M (Int32) :=
  st_g (so_cm v0 [0]) fun _ =>
  st_b (xP_liveEntity gl v0 v1) fun t1 =>
  st_g (so_i t1 [3] [4]) fun t9 =>
  if t9 = 0 then
  (st_r (0 : Int32))
  else
  (st_g (so_k t1 [3]) fun _ =>
  st_g (so_gi t1 [3] 1) fun t11 =>
  st_r t11)
/-! PromiseVats.resolved(I)I -/
def xP_resolved_b33 (gl : gl_T) : st_M (Int32) :=
  st_r (-1 : Int32)
def xP_resolved (gl : gl_T) (v0 : Option Nat) (v1 : Int32) : st_M (Int32) :=
  st_g (so_cm v0 [0]) fun _ =>
  st_b (xP_liveEntity gl v0 v1) fun t1 =>
  st_g (so_i t1 [4] [3]) fun t9 =>
  if t9 = 0 then
  (xP_resolved_b33 gl )
  else
  (st_g (so_k t1 [4]) fun _ =>
  st_g (so_gi t1 [4] 0) fun t11 =>
  if t11 = 0 then
  (st_g (so_gq t1 [4] 1) fun t12 =>
  st_b (xP_referenceTo gl t12) fun t13 =>
  st_r t13)
  else
  (xP_resolved_b33 gl ))
/-! PromiseVats.output(II)I -/
def xP_output_b32 (gl : gl_T) : st_M (Int32) :=
  st_r (0 : Int32)
def xP_output (gl : gl_T) (v0 : Option Nat) (v1 : Int32) (v2 : Int32) : st_M (Int32) :=
  st_g (so_cm v0 [0]) fun _ =>
  st_b (xP_isVat gl v0 v1) fun t1 =>
  if t1 = 0 then
  (xP_output_b32 gl )
  else
  (if v2 < 0 then
  (xP_output_b32 gl )
  else
  (if (10 : Int32) ≤ v2 then
  (xP_output_b32 gl )
  else
  (st_g (so_gq v0 [0] 0) fun t9 =>
  st_g (so_lq t9 [4] v1) fun t10 =>
  st_g (so_gq t10 [5] 3) fun t11 =>
  st_g (so_li t11 0 v2) fun t12 =>
  st_r t12)))
