/-! java/lang/Math.min(II)I -/
def ma_min (gl : gl_T) (v0 : Int32) (v1 : Int32) : st_M (Int32) :=
  if v1 < v0 then
  (st_r v1)
  else
  (st_r v0)
/-! java/lang/Math.max(II)I -/
def ma_max (gl : gl_T) (v0 : Int32) (v1 : Int32) : st_M (Int32) :=
  if v0 < v1 then
  (st_r v1)
  else
  (st_r v0)
/-! java/util/AbstractCollection.<init>()V -/
def aq_init (gl : gl_T) (v0 : Option Nat) : st_M (Unit) :=
  st_g (so_c v0) fun _ =>
  st_r ()
/-! java/util/AbstractList.<init>()V -/
def ab_init (gl : gl_T) (v0 : Option Nat) : st_M (Unit) :=
  st_g (so_c v0) fun _ =>
  st_b (aq_init gl v0) fun _ =>
  st_w (so_p v0 [6] 2 (.int (0 : Int32))) (
  st_r ())
/-! java/util/ArrayList.<init>()V -/
def al_init (gl : gl_T) (v0 : Option Nat) : st_M (Unit) :=
  st_g (so_c v0) fun _ =>
  st_b (ab_init gl v0) fun _ =>
  st_w (so_p v0 [6] 0 (va_rf (some gl.1))) (
  st_r ())
/-! java/util/ArrayList.size()I -/
def al_size (gl : gl_T) (v0 : Option Nat) : st_M (Int32) :=
  st_g (so_gi v0 [6] 1) fun t1 =>
  st_r t1
/-! jdk/internal/util/ArraysSupport.hugeLength(II)I -/
def as_hugeLength (gl : gl_T) (v0 : Int32) (v1 : Int32) : st_M (Int32) :=
  if 0 ≤ (v0 + v1) then
  (if (2147483639 : Int32) < (v0 + v1) then
  (st_r (v0 + v1))
  else
  (st_r (2147483639 : Int32)))
  else
  (fun _ => none)
/-! jdk/internal/util/ArraysSupport.newLength(III)I -/
def as_newLength_b21 (gl : gl_T) (p0 : Int32) (p1 : Int32) : st_M (Int32) :=
  st_b (as_hugeLength gl p0 p1) fun t9 =>
  st_r t9
def as_newLength (gl : gl_T) (v0 : Int32) (v1 : Int32) (v2 : Int32) : st_M (Int32) :=
  st_b (ma_max gl v1 v2) fun t1 =>
  if (v0 + t1) ≤ (0 : Int32) then
  (as_newLength_b21 gl v0 v1)
  else
  (if (2147483639 : Int32) < (v0 + t1) then
  (as_newLength_b21 gl v0 v1)
  else
  (st_r (v0 + t1)))
/-! java/util/Arrays.copyOf([Ljava/lang/Object;ILjava/lang/Class;)[Ljava/lang/Object; -/
def ar_copyOf3_b24 (gl : gl_T) (p0 : Option Nat) (p1 : Int32) (q0 : Option Nat) : st_M (Option Nat) :=
  st_g (so_ne gl p0 [9]) fun t7 =>
  st_b (ma_min gl t7 p1) fun t8 =>
  st_w (so_cq p0 (0 : Int32) q0 (0 : Int32) t8 9 [8, 9]) (
  st_r q0)
def ar_copyOf3 (gl : gl_T) (v0 : Option Nat) (v1 : Int32) (v2 : Option Nat) : st_M (Option Nat) :=
  if v2 = (some gl.2.1) then
  (st_g (so_l v1) fun _ =>
  st_n (.inr (.inl (9, v1.toNatClampNeg, fun _ => none))) v1.toNatClampNeg fun t1 =>
  ar_copyOf3_b24 gl v0 v1 (some t1))
  else
  (fun _ => none)
/-! java/util/Arrays.copyOf([Ljava/lang/Object;I)[Ljava/lang/Object; -/
def ar_copyOf2 (gl : gl_T) (v0 : Option Nat) (v1 : Int32) : st_M (Option Nat) :=
  st_g (so_ro v0 9) fun _ =>
  st_b (ar_copyOf3 gl v0 v1 (some gl.2.1)) fun t2 =>
  st_r t2
/-! java/util/ArrayList.grow(I)[Ljava/lang/Object; -/
def al_grow1_b20 (gl : gl_T) (p0 : Option Nat) (p1 : Int32) (p2 : Int32) : st_M (Option Nat) :=
  st_b (as_newLength gl p2 (p1 - p2) (p2 >>> ((1 : Int32) &&& 31))) fun t19 =>
  st_g (so_gq p0 [6] 0) fun t27 =>
  st_b (ar_copyOf2 gl t27 t19) fun t28 =>
  st_w (so_p p0 [6] 0 (va_rf t28)) (
  st_r t28)
def al_grow1 (gl : gl_T) (v0 : Option Nat) (v1 : Int32) : st_M (Option Nat) :=
  st_g (so_gq v0 [6] 0) fun t1 =>
  st_g (so_ne gl t1 [9]) fun t2 =>
  if 0 < t2 then
  (al_grow1_b20 gl v0 v1 t2)
  else
  (st_g (so_gq v0 [6] 0) fun t3 =>
  if t3 = (some gl.1) then
  (st_b (ma_max gl (10 : Int32) v1) fun t4 =>
  st_g (so_l t4) fun _ =>
  st_n (.inr (.inl (9, t4.toNatClampNeg, fun _ => none))) t4.toNatClampNeg fun t12 =>
  st_w (so_p v0 [6] 0 (va_rf (some t12))) (
  st_r (some t12)))
  else
  (al_grow1_b20 gl v0 v1 t2))
/-! java/util/ArrayList.grow()[Ljava/lang/Object; -/
def al_grow0 (gl : gl_T) (v0 : Option Nat) : st_M (Option Nat) :=
  st_g (so_gi v0 [6] 1) fun t1 =>
  st_g (so_cm v0 [6]) fun _ =>
  st_b (al_grow1 gl v0 (t1 + (1 : Int32))) fun t2 =>
  st_r t2
/-! java/util/ArrayList.add(Ljava/lang/Object;[Ljava/lang/Object;I)V -/
def al_add3_b11 (gl : gl_T) (p0 : Option Nat) (p1 : Option Nat) (p2 : Option Nat) (p3 : Int32) : st_M (Unit) :=
  st_w (so_sq p2 [9] [8, 9] p3 p1) (
  st_w (so_p p0 [6] 1 (.int (p3 + (1 : Int32)))) (
  st_r ()))
def al_add3 (gl : gl_T) (v0 : Option Nat) (v1 : Option Nat) (v2 : Option Nat) (v3 : Int32) : st_M (Unit) :=
  st_g (so_ne gl v2 [9]) fun t1 =>
  if v3 = t1 then
  (st_g (so_cm v0 [6]) fun _ =>
  st_b (al_grow0 gl v0) fun t2 =>
  al_add3_b11 gl v0 v1 t2 v3)
  else
  (al_add3_b11 gl v0 v1 v2 v3)
/-! java/util/ArrayList.add(Ljava/lang/Object;)Z -/
def al_add1 (gl : gl_T) (v0 : Option Nat) (v1 : Option Nat) : st_M (Int32) :=
  st_g (so_gi v0 [6] 2) fun t1 =>
  st_w (so_p v0 [6] 2 (.int (t1 + (1 : Int32)))) (
  st_g (so_gq v0 [6] 0) fun t3 =>
  st_g (so_gi v0 [6] 1) fun t4 =>
  st_g (so_cm v0 [6]) fun _ =>
  st_b (al_add3 gl v0 v1 t3 t4) fun _ =>
  st_r (1 : Int32))
/-! java/util/ArrayList.isEmpty()Z -/
def al_isEmpty (gl : gl_T) (v0 : Option Nat) : st_M (Int32) :=
  st_g (so_gi v0 [6] 1) fun t1 =>
  if t1 = 0 then
  (st_r (1 : Int32))
  else
  (st_r (0 : Int32))
/-! jdk/internal/util/Preconditions.checkIndex(IILjava/util/function/BiFunction;)I -/
def pc_checkIndex (gl : gl_T) (v0 : Int32) (v1 : Int32) (v2 : Option Nat) : st_M (Int32) :=
  if v0 < 0 then
  (fun _ => none)
  else
  (if v0 < v1 then
  (st_r v0)
  else
  (fun _ => none))
/-! java/util/Objects.checkIndex(II)I -/
def ob_checkIndex (gl : gl_T) (v0 : Int32) (v1 : Int32) : st_M (Int32) :=
  st_b (pc_checkIndex gl v0 v1 none) fun t1 =>
  st_r t1
/-! java/util/ArrayList.fastRemove([Ljava/lang/Object;I)V -/
def al_fastRemove_b34 (gl : gl_T) (p0 : Option Nat) (p1 : Option Nat) (p3 : Int32) : st_M (Unit) :=
  st_w (so_p p0 [6] 1 (.int p3)) (
  st_w (so_sq p1 [9] [8, 9] p3 none) (
  st_r ()))
def al_fastRemove (gl : gl_T) (v0 : Option Nat) (v1 : Option Nat) (v2 : Int32) : st_M (Unit) :=
  st_g (so_gi v0 [6] 2) fun t1 =>
  st_w (so_p v0 [6] 2 (.int (t1 + (1 : Int32)))) (
  st_g (so_gi v0 [6] 1) fun t3 =>
  if (t3 - (1 : Int32)) ≤ v2 then
  (al_fastRemove_b34 gl v0 v1 (t3 - (1 : Int32)))
  else
  (st_w (so_cq v1 (v2 + (1 : Int32)) v1 v2 ((t3 - (1 : Int32)) - v2) 9 [8, 9]) (
  al_fastRemove_b34 gl v0 v1 (t3 - (1 : Int32)))))
/-! java/util/ArrayList.remove(I)Ljava/lang/Object; -/
def al_remove (gl : gl_T) (v0 : Option Nat) (v1 : Int32) : st_M (Option Nat) :=
  st_g (so_gi v0 [6] 1) fun t1 =>
  st_b (ob_checkIndex gl v1 t1) fun t2 =>
  st_g (so_gq v0 [6] 0) fun t10 =>
  st_g (so_lq t10 [9] v1) fun t11 =>
  st_g (so_cm v0 [6]) fun _ =>
  st_b (al_fastRemove gl v0 t10 v1) fun _ =>
  st_r t11
/-! java/util/ArrayList.elementData(I)Ljava/lang/Object; -/
def al_elementData (gl : gl_T) (v0 : Option Nat) (v1 : Int32) : st_M (Option Nat) :=
  st_g (so_gq v0 [6] 0) fun t1 =>
  st_g (so_lq t1 [9] v1) fun t2 =>
  st_r t2
/-! java/util/ArrayList.get(I)Ljava/lang/Object; -/
def al_get (gl : gl_T) (v0 : Option Nat) (v1 : Int32) : st_M (Option Nat) :=
  st_g (so_gi v0 [6] 1) fun t1 =>
  st_b (ob_checkIndex gl v1 t1) fun t2 =>
  st_g (so_cm v0 [6]) fun _ =>
  st_b (al_elementData gl v0 v1) fun t10 =>
  st_r t10
/-! java/util/ArrayList.clear()V -/
def al_clear_b27 (gl : gl_T) (rec27 : Option Nat × Int32 × Int32 → st_M (Unit)) (p1 : Option Nat) (p2 : Int32) (p3 : Int32) : st_M (Unit) :=
  if p2 ≤ p3 then
  (st_r ())
  else
  (st_w (so_sq p1 [9] [8, 9] p3 none) (
  rec27 (p1, p2, (p3 + (1 : Int32)))))
def al_clear (gl : gl_T) (v0 : Option Nat) : st_M (Unit) :=
  st_g (so_gi v0 [6] 2) fun t1 =>
  st_w (so_p v0 [6] 2 (.int (t1 + (1 : Int32)))) (
  st_g (so_gq v0 [6] 0) fun t3 =>
  st_g (so_gi v0 [6] 1) fun t4 =>
  st_w (so_p v0 [6] 1 (.int (0 : Int32))) (
  st_it (fun rec27 => (fun x : Option Nat × Int32 × Int32 => al_clear_b27 gl rec27 x.1 x.2.1 x.2.2)) fu_ (t3, t4, (0 : Int32))))
