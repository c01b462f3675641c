/-! the reference's methods on its picture, printed from the same bytecode -/
/-! code -/
def pm_code_b31 : pm_M Int32 :=
  pr_ (0 : Int32)
def pm_code_b92 : pm_M Int32 :=
  pr_ (0 : Int32)
def pm_code_b94 (p1 : Int32) (p2 : Int32) (p3 : Int32) : pm_M Int32 :=
  pg_ (pl_ 3 p1) fun t2 =>
  pw_ (ps_ 4 (((8 : Int32) * p1) + t2) p2) (
  pw_ (ps_ 5 (((8 : Int32) * p1) + t2) p3) (
  pg_ (pl_ 3 p1) fun t3 =>
  pw_ (ps_ 3 p1 (t3 + (1 : Int32))) (
  pr_ (1 : Int32))))
def pm_code_b82 (p1 : Int32) (p2 : Int32) (p3 : Int32) : pm_M Int32 :=
  if p3 < 0 then
  (pm_code_b92 )
  else
  (if p3 ≤ (7 : Int32) then
  (pm_code_b94 p1 p2 p3)
  else
  (pm_code_b92 ))
def pm_code_b70 (p1 : Int32) (p2 : Int32) (p3 : Int32) : pm_M Int32 :=
  if p2 = (6 : Int32) then
  (pm_code_b82 p1 p2 p3)
  else
  (if p2 = (8 : Int32) then
  (pm_code_b82 p1 p2 p3)
  else
  (pm_code_b94 p1 p2 p3))
def pm_code_b54 (p1 : Int32) (p2 : Int32) (p3 : Int32) (q0 : Int32) : pm_M Int32 :=
  if q0 = 0 then
  (pm_code_b70 p1 p2 p3)
  else
  (if p3 < 0 then
  (pm_code_b92 )
  else
  (if (3 : Int32) < p3 then
  (pm_code_b92 )
  else
  (pm_code_b70 p1 p2 p3)))
def pm_code_b49 (p1 : Int32) (p2 : Int32) (p3 : Int32) : pm_M Int32 :=
  pm_code_b54 p1 p2 p3 (1 : Int32)
def pm_code (v1 : Int32) (v2 : Int32) (v3 : Int32) : pm_M Int32 :=
  if v1 < 0 then
  (pm_code_b31 )
  else
  (if (7 : Int32) < v1 then
  (pm_code_b31 )
  else
  (if v2 < 0 then
  (pm_code_b31 )
  else
  (if (10 : Int32) < v2 then
  (pm_code_b31 )
  else
  (pg_ (pl_ 3 v1) fun t1 =>
  if t1 < (8 : Int32) then
  (if v2 = (3 : Int32) then
  (pm_code_b49 v1 v2 v3)
  else
  (if v2 = (4 : Int32) then
  (pm_code_b49 v1 v2 v3)
  else
  (if v2 = (7 : Int32) then
  (pm_code_b49 v1 v2 v3)
  else
  (pm_code_b54 v1 v2 v3 (0 : Int32)))))
  else
  (pm_code_b31 )))))
/-! clear -/
def pm_clear_b10 : pm_M Int32 :=
  pr_ (0 : Int32)
def pm_clear (v1 : Int32) : pm_M Int32 :=
  if v1 < 0 then
  (pm_clear_b10 )
  else
  (if v1 ≤ (7 : Int32) then
  (pw_ (ps_ 3 v1 (0 : Int32)) (
  pr_ (1 : Int32)))
  else
  (pm_clear_b10 ))
/-! vat -/
def pm_vat_b16 : pm_M Int32 :=
  pr_ (0 : Int32)
def pm_vat (v1 : Int32) : pm_M Int32 :=
  if v1 < 0 then
  (pm_vat_b16 )
  else
  (pg_ (pi_ 0) fun t1 =>
  if t1 ≤ v1 then
  (pm_vat_b16 )
  else
  (pr_ (1 : Int32)))
/-! oldest -/
def pm_oldest_b29 (p2 : Int32) : pm_M Int32 :=
  pg_ (pi_ 24) fun t3 =>
  if t3 ≤ p2 then
  (pr_ (-1 : Int32))
  else
  (pr_ p2)
def pm_oldest_b2 (rec2 : Int32 × Int32 → pm_M Int32) (p1 : Int32) (p2 : Int32) : pm_M Int32 :=
  pg_ (pi_ 24) fun t1 =>
  if t1 ≤ p2 then
  (pm_oldest_b29 p2)
  else
  (pg_ (pl_ 25 p2) fun t2 =>
  if (t2 - t2 / (16 : Int32) * (16 : Int32)) = p1 then
  (pm_oldest_b29 p2)
  else
  (rec2 (p1, (p2 + (1 : Int32)))))
def pm_oldest (v1 : Int32) : pm_M Int32 :=
  pt_ (fun rec2 => (fun x : Int32 × Int32 => pm_oldest_b2 rec2 x.1 x.2)) fu_ (v1, (0 : Int32))
/-! unmail -/
def pm_unmail_b12 (rec12 : Int32 → pm_M Unit) (p2 : Int32) : pm_M Unit :=
  pg_ (pi_ 24) fun t2 =>
  if t2 ≤ p2 then
  (pr_ ())
  else
  (pg_ (pl_ 25 (p2 + (1 : Int32))) fun t3 =>
  pw_ (ps_ 25 p2 (t3.toInt8.toInt32)) (
  pg_ (pl_ 26 (p2 + (1 : Int32))) fun t4 =>
  pw_ (ps_ 26 p2 (t4.toInt16.toInt32)) (
  pg_ (pl_ 27 (p2 + (1 : Int32))) fun t5 =>
  pw_ (ps_ 27 p2 t5) (
  pg_ (pl_ 28 (p2 + (1 : Int32))) fun t6 =>
  pw_ (ps_ 28 p2 (t6.toInt16.toInt32)) (
  pg_ (pl_ 29 (p2 + (1 : Int32))) fun t7 =>
  pw_ (ps_ 29 p2 (t7.toInt16.toInt32)) (
  rec12 (p2 + (1 : Int32))))))))
def pm_unmail (v1 : Int32) : pm_M Unit :=
  pg_ (pi_ 24) fun t1 =>
  pw_ (pp_ 24 (t1 - (1 : Int32))) (
  pt_ (fun rec12 => (fun x : Int32 => pm_unmail_b12 rec12 x)) fu_ v1)
/-! post -/
def pm_post (v1 : Int32) (v2 : Int32) (v3 : Int32) (v4 : Int32) (v5 : Int32) (v6 : Int32) : pm_M Unit :=
  pg_ (pi_ 24) fun t1 =>
  pw_ (ps_ 25 t1 (((((16 : Int32) * v1) + v2).toInt8.toInt32).toInt8.toInt32)) (
  pg_ (pi_ 24) fun t2 =>
  pw_ (ps_ 26 t2 ((v3.toInt16.toInt32).toInt16.toInt32)) (
  pg_ (pi_ 24) fun t3 =>
  pw_ (ps_ 27 t3 v4) (
  pg_ (pi_ 24) fun t4 =>
  pw_ (ps_ 28 t4 ((v5.toInt16.toInt32).toInt16.toInt32)) (
  pg_ (pi_ 24) fun t5 =>
  pw_ (ps_ 29 t5 ((v6.toInt16.toInt32).toInt16.toInt32)) (
  pg_ (pi_ 24) fun t6 =>
  pw_ (pp_ 24 (t6 + (1 : Int32))) (
  pr_ ()))))))
/-! unpack -/
def pm_unpack (v1 : Int32) (v2 : Int32) (v3 : Int32) : pm_M Unit :=
  if v3 = 0 then
  (pr_ ())
  else
  (pg_ (pl_ 6 v3) fun t1 =>
  if t1 = v2 then
  (pr_ ())
  else
  (pg_ (pl_ 16 (((4 : Int32) * v3) + v2)) fun t2 =>
  pw_ (ps_ 16 (((4 : Int32) * v3) + v2) (t2 + (1 : Int32))) (
  pg_ (pl_ 6 v3) fun t3 =>
  if t3 = v1 then
  (pr_ ())
  else
  (pg_ (pl_ 6 v3) fun t4 =>
  pb_ (pm_post (5 : Int32) (((4 : Int32) * v2) + t4) v3 v1 (0 : Int32) (0 : Int32)) fun _ =>
  pr_ ()))))
/-! passes -/
def pm_passes_b29 : pm_M Int32 :=
  pr_ (0 : Int32)
def pm_passes (v1 : Int32) (v2 : Int32) : pm_M Int32 :=
  if v2 ≤ (100 : Int32) then
  (pm_passes_b29 )
  else
  (pg_ (pl_ 6 v2) fun t1 =>
  if t1 = v1 then
  (pg_ (pl_ 8 v2) fun t2 =>
  if t2 = 0 then
  (pm_passes_b29 )
  else
  (pr_ (1 : Int32)))
  else
  (pm_passes_b29 ))
/-! waits -/
def pm_waits_b29 (rec4 : Int32 × Int32 × Int32 → pm_M Int32) (p1 : Int32) (p3 : Int32) (q0 : Int32) : pm_M Int32 :=
  rec4 (p1, q0, (p3 + (1 : Int32)))
def pm_waits_b4 (rec4 : Int32 × Int32 × Int32 → pm_M Int32) (p1 : Int32) (p2 : Int32) (p3 : Int32) : pm_M Int32 :=
  pg_ (pi_ 18) fun t1 =>
  if t1 ≤ p3 then
  (pr_ p2)
  else
  (pg_ (pl_ 19 p3) fun t2 =>
  if t2 = p1 then
  (pm_waits_b29 rec4 p1 p3 (p2 + (1 : Int32)))
  else
  (pm_waits_b29 rec4 p1 p3 p2))
def pm_waits (v1 : Int32) : pm_M Int32 :=
  pt_ (fun rec4 => (fun x : Int32 × Int32 × Int32 => pm_waits_b4 rec4 x.1 x.2.1 x.2.2)) fu_ (v1, (0 : Int32), (0 : Int32))
/-! pack -/
def pm_pack (v1 : Int32) (v2 : Int32) (v3 : Int32) : pm_M Unit :=
  if v3 = 0 then
  (pr_ ())
  else
  (pg_ (pl_ 6 v3) fun t1 =>
  if t1 = v1 then
  (pg_ (pl_ 15 (((4 : Int32) * v3) + v2)) fun t2 =>
  pw_ (ps_ 15 (((4 : Int32) * v3) + v2) (t2 + (1 : Int32))) (
  pr_ ()))
  else
  (if t1 = v2 then
  (pr_ ())
  else
  (pb_ (pm_post (4 : Int32) (((4 : Int32) * v1) + t1) v3 v2 (0 : Int32) (0 : Int32)) fun _ =>
  pr_ ())))
/-! rest -/
def pm_rest (v1 : Int32) (v2 : Int32) (v3 : Int32) (v4 : Int32) (v5 : Int32) : pm_M Unit :=
  pg_ (pi_ 18) fun t1 =>
  pw_ (ps_ 19 t1 v1) (
  pg_ (pi_ 18) fun t2 =>
  pw_ (ps_ 20 t2 v2) (
  pg_ (pi_ 18) fun t3 =>
  pw_ (ps_ 21 t3 v3) (
  pg_ (pi_ 18) fun t4 =>
  pw_ (ps_ 22 t4 v4) (
  pg_ (pi_ 18) fun t5 =>
  pw_ (ps_ 23 t5 v5) (
  pg_ (pi_ 18) fun t6 =>
  pw_ (pp_ 18 (t6 + (1 : Int32))) (
  pr_ ()))))))
/-! go -/
def pm_go_b102 (q0 : Int32) : pm_M Unit :=
  pw_ (pp_ 30 q0) (
  pr_ ())
def pm_go_b72 (p5 : Int32) : pm_M Unit :=
  pg_ (pi_ 30) fun t11 =>
  pw_ (ps_ 31 t11 p5) (
  if p5 ≤ 0 then
  (pg_ (pi_ 30) fun t12 =>
  pm_go_b102 t12)
  else
  (pg_ (pi_ 30) fun t13 =>
  pm_go_b102 (t13 + (1 : Int32))))
def pm_go_b173 (p3 : Int32) (p4 : Int32) (p5 : Int32) (p6 : Int32) (q0 : Int32) : pm_M Unit :=
  pb_ (pm_rest q0 p6 p3 p4 p5) fun _ =>
  pr_ ()
def pm_go_b108 (p1 : Int32) (p3 : Int32) (p4 : Int32) (p5 : Int32) (p6 : Int32) : pm_M Unit :=
  pg_ (pl_ 6 p6) fun t5 =>
  if t5 = p1 then
  (if p6 ≤ (100 : Int32) then
  (pm_go_b173 p3 p4 p5 p6 p1)
  else
  (pm_go_b173 p3 p4 p5 p6 p6))
  else
  (pg_ (pl_ 6 p6) fun t6 =>
  pb_ (pm_pack p1 t6 p4) fun _ =>
  pg_ (pl_ 6 p6) fun t8 =>
  pb_ (pm_post (1 : Int32) (((4 : Int32) * p1) + t8) p6 p3 p4 p5) fun _ =>
  pr_ ())
def pm_go_b38 (p1 : Int32) (p3 : Int32) (p4 : Int32) (p5 : Int32) (p6 : Int32) : pm_M Unit :=
  if p6 = 0 then
  (pm_go_b72 p5)
  else
  (if p6 ≤ (100 : Int32) then
  (pm_go_b108 p1 p3 p4 p5 p6)
  else
  (pg_ (pl_ 6 p6) fun t3 =>
  if t3 = p1 then
  (pb_ (pm_waits p6) fun t4 =>
  if t4 < (8 : Int32) then
  (pm_go_b108 p1 p3 p4 p5 p6)
  else
  (pm_go_b72 p5))
  else
  (pm_go_b108 p1 p3 p4 p5 p6)))
def pm_go_b6 (rec6 : Int32 × Int32 × Int32 × Int32 × Int32 × Int32 → pm_M Unit) (p1 : Int32) (p3 : Int32) (p4 : Int32) (p5 : Int32) (p6 : Int32) (p7 : Int32) : pm_M Unit :=
  if (100 : Int32) < p7 then
  (pm_go_b38 p1 p3 p4 p5 p6)
  else
  (pb_ (pm_passes p1 p6) fun t1 =>
  if t1 = 0 then
  (pm_go_b38 p1 p3 p4 p5 p6)
  else
  (pg_ (pl_ 9 p6) fun t2 =>
  rec6 (p1, p3, p4, p5, t2, (p7 + (1 : Int32)))))
def pm_go (v1 : Int32) (v2 : Int32) (v3 : Int32) (v4 : Int32) (v5 : Int32) : pm_M Unit :=
  pt_ (fun rec6 => (fun x : Int32 × Int32 × Int32 × Int32 × Int32 × Int32 => pm_go_b6 rec6 x.1 x.2.1 x.2.2.1 x.2.2.2.1 x.2.2.2.2.1 x.2.2.2.2.2)) fu_ (v1, v3, v4, v5, v2, (0 : Int32))
/-! unrest -/
def pm_unrest_b12 (rec12 : Int32 → pm_M Unit) (p2 : Int32) : pm_M Unit :=
  pg_ (pi_ 18) fun t2 =>
  if t2 ≤ p2 then
  (pr_ ())
  else
  (pg_ (pl_ 19 (p2 + (1 : Int32))) fun t3 =>
  pw_ (ps_ 19 p2 t3) (
  pg_ (pl_ 20 (p2 + (1 : Int32))) fun t4 =>
  pw_ (ps_ 20 p2 t4) (
  pg_ (pl_ 21 (p2 + (1 : Int32))) fun t5 =>
  pw_ (ps_ 21 p2 t5) (
  pg_ (pl_ 22 (p2 + (1 : Int32))) fun t6 =>
  pw_ (ps_ 22 p2 t6) (
  pg_ (pl_ 23 (p2 + (1 : Int32))) fun t7 =>
  pw_ (ps_ 23 p2 t7) (
  rec12 (p2 + (1 : Int32))))))))
def pm_unrest (v1 : Int32) : pm_M Unit :=
  pg_ (pi_ 18) fun t1 =>
  pw_ (pp_ 18 (t1 - (1 : Int32))) (
  pt_ (fun rec12 => (fun x : Int32 => pm_unrest_b12 rec12 x)) fu_ v1)
/-! settle -/
def pm_settle_b137 (rec137 : Int32 × Int32 × Int32 → pm_M Unit) (p1 : Int32) (p2 : Int32) (p5 : Int32) : pm_M Unit :=
  pg_ (pi_ 18) fun t10 =>
  if t10 ≤ p5 then
  (pr_ ())
  else
  (pg_ (pl_ 19 p5) fun t11 =>
  if t11 = p2 then
  (pg_ (pl_ 21 p5) fun t12 =>
  pg_ (pl_ 22 p5) fun t13 =>
  pg_ (pl_ 23 p5) fun t14 =>
  pb_ (pm_unrest p5) fun _ =>
  pg_ (pl_ 9 p2) fun t16 =>
  pb_ (pm_go p1 t16 t12 t13 t14) fun _ =>
  rec137 (p1, p2, p5))
  else
  (rec137 (p1, p2, (p5 + (1 : Int32)))))
def pm_settle_b133 (p1 : Int32) (p2 : Int32) (q0 : Int32) (q1 : Int32) : pm_M Unit :=
  pw_ (ps_ 9 q1 q0) (
  pt_ (fun rec137 => (fun x : Int32 × Int32 × Int32 => pm_settle_b137 rec137 x.1 x.2.1 x.2.2)) fu_ (p1, p2, (0 : Int32)))
def pm_settle_b110 (p1 : Int32) (p2 : Int32) (p3 : Int32) (p4 : Int32) : pm_M Unit :=
  pg_ (pz_ (1 : Int32)) fun _ =>
  pw_ (ps_ 8 p2 (1 : Int32)) (
  if p4 = p2 then
  (pm_settle_b133 p1 p2 (0 : Int32) p2)
  else
  (pm_settle_b133 p1 p2 p3 p2))
def pm_settle_b72 (rec72 : Int32 × Int32 × Int32 × Int32 × Int32 → pm_M Unit) (p1 : Int32) (p2 : Int32) (p3 : Int32) (p4 : Int32) (p5 : Int32) : pm_M Unit :=
  if (100 : Int32) < p5 then
  (pm_settle_b110 p1 p2 p3 p4)
  else
  (if p4 = p2 then
  (pm_settle_b110 p1 p2 p3 p4)
  else
  (pb_ (pm_passes p1 p4) fun t8 =>
  if t8 = 0 then
  (pm_settle_b110 p1 p2 p3 p4)
  else
  (pg_ (pl_ 9 p4) fun t9 =>
  rec72 (p1, p2, p3, t9, (p5 + (1 : Int32))))))
def pm_settle (v1 : Int32) (v2 : Int32) (v3 : Int32) : pm_M Unit :=
  if v2 = 0 then
  (pr_ ())
  else
  (pg_ (pl_ 6 v2) fun t1 =>
  if t1 = v1 then
  (pg_ (pl_ 7 v2) fun t2 =>
  if t2 = 0 then
  (pg_ (pl_ 8 v2) fun t3 =>
  if t3 = 0 then
  (pt_ (fun rec72 => (fun x : Int32 × Int32 × Int32 × Int32 × Int32 => pm_settle_b72 rec72 x.1 x.2.1 x.2.2.1 x.2.2.2.1 x.2.2.2.2)) fu_ (v1, v2, v3, v3, (0 : Int32)))
  else
  (pr_ ()))
  else
  (pr_ ()))
  else
  (pg_ (pl_ 6 v2) fun t4 =>
  pb_ (pm_pack v1 t4 v3) fun _ =>
  pg_ (pl_ 6 v2) fun t6 =>
  pb_ (pm_post (2 : Int32) (((4 : Int32) * v1) + t6) v2 (0 : Int32) v3 (0 : Int32)) fun _ =>
  pr_ ()))
/-! pair -/
def pm_pair_b50 (p2 : Int32) (p3 : Int32) (p4 : Int32) (p5 : Int32) (q0 : Int32) : pm_M Unit :=
  pg_ (pl_ 17 p5) fun t3 =>
  pw_ (ps_ 17 p5 (t3 + p4)) (
  if q0 = 0 then
  (pr_ ())
  else
  (pg_ (pl_ 15 (((4 : Int32) * p3) + p2)) fun t4 =>
  pw_ (ps_ 15 (((4 : Int32) * p3) + p2) (t4 + (1 : Int32))) (
  pr_ ())))
def pm_pair (v1 : Int32) (v2 : Int32) (v3 : Int32) (v4 : Int32) : pm_M Unit :=
  if v4 ≤ 0 then
  (pg_ (pl_ 17 ((((16 : Int32) * v3) + ((4 : Int32) * v1)) + v2)) fun t1 =>
  if t1 ≤ 0 then
  (pm_pair_b50 v2 v3 v4 ((((16 : Int32) * v3) + ((4 : Int32) * v1)) + v2) (0 : Int32))
  else
  (pm_pair_b50 v2 v3 v4 ((((16 : Int32) * v3) + ((4 : Int32) * v1)) + v2) (1 : Int32)))
  else
  (pg_ (pl_ 17 ((((16 : Int32) * v3) + ((4 : Int32) * v1)) + v2)) fun t2 =>
  if 0 ≤ t2 then
  (pm_pair_b50 v2 v3 v4 ((((16 : Int32) * v3) + ((4 : Int32) * v1)) + v2) (0 : Int32))
  else
  (pm_pair_b50 v2 v3 v4 ((((16 : Int32) * v3) + ((4 : Int32) * v1)) + v2) (1 : Int32)))
/-! mourn -/
def pm_mourn_b2 (rec2 : Int32 × Int32 → pm_M Unit) (p1 : Int32) (p2 : Int32) : pm_M Unit :=
  pg_ (pi_ 30) fun t1 =>
  if t1 ≤ p2 then
  (pw_ (pp_ 30 (0 : Int32)) (
  pr_ ()))
  else
  (pg_ (pl_ 31 p2) fun t2 =>
  pb_ (pm_settle p1 t2 (0 : Int32)) fun _ =>
  rec2 (p1, (p2 + (1 : Int32))))
def pm_mourn (v1 : Int32) : pm_M Unit :=
  pt_ (fun rec2 => (fun x : Int32 × Int32 => pm_mourn_b2 rec2 x.1 x.2)) fu_ (v1, (0 : Int32))
/-! deliver -/
def pm_deliver_b21 : pm_M Int32 :=
  pr_ (0 : Int32)
def pm_deliver_b183 (p2 : Int32) (p4 : Int32) : pm_M Int32 :=
  pb_ (pm_mourn p2) fun _ =>
  pr_ p4
def pm_deliver_b167 (p1 : Int32) (p2 : Int32) (p4 : Int32) (p5 : Int32) (p6 : Int32) : pm_M Int32 :=
  if p4 = (5 : Int32) then
  (pb_ (pm_pair p6 p1 p5 (-1 : Int32)) fun _ =>
  pm_deliver_b183 p2 p4)
  else
  (pm_deliver_b183 p2 p4)
def pm_deliver_b151 (p1 : Int32) (p2 : Int32) (p4 : Int32) (p5 : Int32) (p6 : Int32) : pm_M Int32 :=
  if p4 = (4 : Int32) then
  (pb_ (pm_pair p1 p6 p5 (1 : Int32)) fun _ =>
  pm_deliver_b167 p1 p2 p4 p5 p6)
  else
  (pm_deliver_b167 p1 p2 p4 p5 p6)
def pm_deliver_b129 (p1 : Int32) (p2 : Int32) (p4 : Int32) (p5 : Int32) (p6 : Int32) : pm_M Int32 :=
  if p4 = (3 : Int32) then
  (pg_ (pl_ 15 (((4 : Int32) * p5) + p1)) fun t13 =>
  pw_ (ps_ 15 (((4 : Int32) * p5) + p1) (t13 - p6)) (
  pm_deliver_b151 p1 p2 p4 p5 p6))
  else
  (pm_deliver_b151 p1 p2 p4 p5 p6)
def pm_deliver_b114 (p1 : Int32) (p2 : Int32) (p4 : Int32) (p5 : Int32) (p6 : Int32) (p7 : Int32) : pm_M Int32 :=
  if p4 = (2 : Int32) then
  (pb_ (pm_settle p2 p5 p7) fun _ =>
  pm_deliver_b129 p1 p2 p4 p5 p6)
  else
  (pm_deliver_b129 p1 p2 p4 p5 p6)
def pm_deliver (v1 : Int32) (v2 : Int32) : pm_M Int32 :=
  pb_ (pm_vat v1) fun t1 =>
  if t1 = 0 then
  (pm_deliver_b21 )
  else
  (pb_ (pm_vat v2) fun t2 =>
  if t2 = 0 then
  (pm_deliver_b21 )
  else
  (if v1 = v2 then
  (pm_deliver_b21 )
  else
  (pb_ (pm_oldest (((4 : Int32) * v1) + v2)) fun t3 =>
  if 0 ≤ t3 then
  (pg_ (pl_ 25 t3) fun t4 =>
  pg_ (pl_ 26 t3) fun t5 =>
  pg_ (pl_ 27 t3) fun t6 =>
  pg_ (pl_ 28 t3) fun t7 =>
  pg_ (pl_ 29 t3) fun t8 =>
  pb_ (pm_unmail t3) fun _ =>
  pb_ (pm_unpack v1 v2 t7) fun _ =>
  if (t4 / (16 : Int32)) = (1 : Int32) then
  (pb_ (pm_go v2 t5 t6 t7 t8) fun _ =>
  pm_deliver_b114 v1 v2 (t4 / (16 : Int32)) t5 t6 t7)
  else
  (pm_deliver_b114 v1 v2 (t4 / (16 : Int32)) t5 t6 t7))
  else
  (pr_ (0 : Int32)))))
/-! give -/
def pm_give_b25 : pm_M Int32 :=
  pr_ (0 : Int32)
def pm_give_b79 : pm_M Int32 :=
  pr_ (1 : Int32)
def pm_give (v1 : Int32) (v2 : Int32) (v3 : Int32) : pm_M Int32 :=
  pb_ (pm_vat v1) fun t1 =>
  if t1 = 0 then
  (pm_give_b25 )
  else
  (pb_ (pm_vat v3) fun t2 =>
  if t2 = 0 then
  (pm_give_b25 )
  else
  (if v2 < 0 then
  (pm_give_b25 )
  else
  (if v2 ≤ (3 : Int32) then
  (pw_ (ps_ 13 (((4 : Int32) * (v1 + (1 : Int32))) + v2) (v3 + (1 : Int32))) (
  if v1 = v3 then
  (pm_give_b79 )
  else
  (pg_ (pl_ 15 (((4 : Int32) * (v3 + (1 : Int32))) + v1)) fun t3 =>
  pw_ (ps_ 15 (((4 : Int32) * (v3 + (1 : Int32))) + v1) (t3 + (1 : Int32))) (
  pg_ (pl_ 16 (((4 : Int32) * (v3 + (1 : Int32))) + v1)) fun t4 =>
  pw_ (ps_ 16 (((4 : Int32) * (v3 + (1 : Int32))) + v1) (t4 + (1 : Int32))) (
  pm_give_b79 )))))
  else
  (pm_give_b25 ))))
/-! inbox -/
def pm_inbox_b37 (rec4 : Int32 × Int32 × Int32 → pm_M Int32) (p1 : Int32) (p3 : Int32) (q0 : Int32) : pm_M Int32 :=
  rec4 (p1, q0, (p3 + (1 : Int32)))
def pm_inbox_b44 (p2 : Int32) : pm_M Int32 :=
  pr_ p2
def pm_inbox_b4 (rec4 : Int32 × Int32 × Int32 → pm_M Int32) (p1 : Int32) (p2 : Int32) (p3 : Int32) : pm_M Int32 :=
  pg_ (pi_ 18) fun t1 =>
  if t1 ≤ p3 then
  (pm_inbox_b44 p2)
  else
  (pb_ (pm_vat p1) fun t2 =>
  if t2 = 0 then
  (pm_inbox_b44 p2)
  else
  (pg_ (pl_ 19 p3) fun t3 =>
  if t3 = p1 then
  (pm_inbox_b37 rec4 p1 p3 (p2 + (1 : Int32)))
  else
  (pm_inbox_b37 rec4 p1 p3 p2)))
def pm_inbox (v1 : Int32) : pm_M Int32 :=
  pt_ (fun rec4 => (fun x : Int32 × Int32 × Int32 => pm_inbox_b4 rec4 x.1 x.2.1 x.2.2)) fu_ (v1, (0 : Int32), (0 : Int32))
/-! poke -/
def pm_poke_b18 : pm_M Int32 :=
  pr_ (0 : Int32)
def pm_poke (v1 : Int32) (v2 : Int32) : pm_M Int32 :=
  pb_ (pm_vat v1) fun t1 =>
  if t1 = 0 then
  (pm_poke_b18 )
  else
  (pb_ (pm_inbox v1) fun t2 =>
  if t2 < (20 : Int32) then
  (pb_ (pm_rest v1 (v1 + (1 : Int32)) v2 (0 : Int32) (0 : Int32)) fun _ =>
  pr_ (1 : Int32))
  else
  (pm_poke_b18 ))
/-! fresh -/
def pm_fresh (v1 : Int32) (v2 : Int32) : pm_M Int32 :=
  pg_ (pi_ 1) fun t1 =>
  if t1 < (60 : Int32) then
  (pg_ (pi_ 1) fun t2 =>
  pw_ (pp_ 1 (t2 + (1 : Int32))) (
  pg_ (pi_ 1) fun t3 =>
  pw_ (ps_ 6 t3 ((v1.toInt8.toInt32).toInt8.toInt32)) (
  pg_ (pi_ 1) fun t4 =>
  pw_ (ps_ 11 t4 ((v2.toInt8.toInt32).toInt8.toInt32)) (
  pg_ (pi_ 1) fun t5 =>
  pg_ (pi_ 34) fun t6 =>
  pw_ (ps_ 12 t5 t6) (
  pg_ (pi_ 1) fun t7 =>
  pg_ (pi_ 35) fun t8 =>
  pw_ (ps_ 13 ((4 : Int32) * t7) t8) (
  pg_ (pi_ 1) fun t9 =>
  pr_ t9))))))
  else
  (pr_ (0 : Int32))
/-! send -/
def pm_send_b13 : pm_M Int32 :=
  pr_ (0 : Int32)
def pm_send (v1 : Int32) (v2 : Int32) : pm_M Int32 :=
  if v2 = 0 then
  (pm_send_b13 )
  else
  (pg_ (pi_ 2) fun t1 =>
  if t1 < (100 : Int32) then
  (pg_ (pi_ 2) fun t2 =>
  pw_ (pp_ 2 (t2 + (1 : Int32))) (
  pg_ (pi_ 2) fun t3 =>
  pg_ (pl_ 6 v2) fun t4 =>
  pw_ (ps_ 6 ((100 : Int32) + t3) ((t4.toInt8.toInt32).toInt8.toInt32)) (
  if t4 = v1 then
  (pg_ (pi_ 34) fun t5 =>
  pg_ (pi_ 35) fun t6 =>
  pb_ (pm_go v1 v2 t5 t6 ((100 : Int32) + t3)) fun _ =>
  pb_ (pm_mourn v1) fun _ =>
  pr_ ((100 : Int32) + t3))
  else
  (pg_ (pi_ 35) fun t9 =>
  pb_ (pm_pack v1 t4 t9) fun _ =>
  pg_ (pi_ 34) fun t11 =>
  pg_ (pi_ 35) fun t12 =>
  pb_ (pm_post (1 : Int32) (((4 : Int32) * v1) + t4) v2 t11 t12 ((100 : Int32) + t3)) fun _ =>
  pw_ (ps_ 15 (((4 : Int32) * ((100 : Int32) + t3)) + v1) (1 : Int32)) (
  pw_ (ps_ 16 (((4 : Int32) * ((100 : Int32) + t3)) + v1) (1 : Int32)) (
  pr_ ((100 : Int32) + t3)))))))
  else
  (pm_send_b13 ))
/-! put -/
def pm_put (v1 : Int32) : pm_M Unit :=
  pg_ (pl_ 32 v1) fun t1 =>
  pg_ (pi_ 34) fun t2 =>
  pw_ (ps_ 33 (((10 : Int32) * v1) + (t1 - t1 / (10 : Int32) * (10 : Int32))) t2) (
  pg_ (pl_ 32 v1) fun t3 =>
  pw_ (ps_ 32 v1 (t3 + (1 : Int32))) (
  pr_ ()))
/-! act -/
def pm_act_b204 : pm_M Int32 :=
  pr_ (0 : Int32)
def pm_act (v1 : Int32) (v2 : Int32) (v3 : Int32) (v4 : Int32) : pm_M Int32 :=
  (if v3 = (0 : Int32) then
  (pw_ (pp_ 34 v4) (
  pm_act_b204 ))
  else
  (if v3 = (1 : Int32) then
  (pg_ (pi_ 34) fun t1 =>
  pg_ (pl_ 12 v2) fun t2 =>
  pw_ (pp_ 34 (t1 + t2)) (
  pm_act_b204 ))
  else
  (if v3 = (2 : Int32) then
  (pg_ (pi_ 34) fun t3 =>
  pw_ (ps_ 12 v2 t3) (
  pm_act_b204 ))
  else
  (if v3 = (3 : Int32) then
  (pg_ (pi_ 35) fun t4 =>
  pw_ (ps_ 13 (((4 : Int32) * v2) + v4) t4) (
  pm_act_b204 ))
  else
  (if v3 = (4 : Int32) then
  (pg_ (pl_ 13 (((4 : Int32) * v2) + v4)) fun t5 =>
  pw_ (pp_ 35 t5) (
  pm_act_b204 ))
  else
  (if v3 = (5 : Int32) then
  (pw_ (pp_ 35 v2) (
  pm_act_b204 ))
  else
  (if v3 = (6 : Int32) then
  (pb_ (pm_fresh v1 v4) fun t6 =>
  pw_ (pp_ 35 t6) (
  pm_act_b204 ))
  else
  (if v3 = (7 : Int32) then
  (pg_ (pl_ 13 (((4 : Int32) * v2) + v4)) fun t7 =>
  pb_ (pm_send v1 t7) fun t8 =>
  pw_ (pp_ 35 t8) (
  pm_act_b204 ))
  else
  (if v3 = (8 : Int32) then
  (pg_ (pi_ 34) fun t9 =>
  if t9 = 0 then
  (pr_ v4)
  else
  (pr_ (0 : Int32)))
  else
  (if v3 = (9 : Int32) then
  (pb_ (pm_put v1) fun _ =>
  pm_act_b204 )
  else
  (pw_ (pp_ 35 (0 : Int32)) (
  pm_act_b204 ))))))))))))
/-! turn -/
def pm_turn_b42 : pm_M Int32 :=
  pr_ (-1 : Int32)
def pm_turn_b95 (rec95 : Int32 × Int32 × Int32 × Int32 × Int32 → pm_M Int32) (p1 : Int32) (p3 : Int32) (p4 : Int32) (p5 : Int32) (p6 : Int32) : pm_M Int32 :=
  pg_ (pl_ 3 p5) fun t11 =>
  if t11 ≤ p6 then
  (pg_ (pi_ 35) fun t12 =>
  pb_ (pm_settle p1 p4 t12) fun _ =>
  pb_ (pm_mourn p1) fun _ =>
  pr_ p3)
  else
  (pg_ (pl_ 4 (((8 : Int32) * p5) + p6)) fun t15 =>
  pg_ (pl_ 5 (((8 : Int32) * p5) + p6)) fun t16 =>
  pb_ (pm_act p1 p3 t15 t16) fun t17 =>
  rec95 (p1, p3, p4, p5, ((p6 + (1 : Int32)) + t17)))
def pm_turn_b26 (p1 : Int32) (p2 : Int32) : pm_M Int32 :=
  pb_ (pm_vat p1) fun t3 =>
  if t3 = 0 then
  (pm_turn_b42 )
  else
  (pg_ (pi_ 18) fun t4 =>
  if p2 < t4 then
  (pg_ (pl_ 20 p2) fun t5 =>
  pg_ (pl_ 21 p2) fun t6 =>
  pw_ (pp_ 34 t6) (
  pg_ (pl_ 22 p2) fun t7 =>
  pw_ (pp_ 35 t7) (
  pg_ (pl_ 23 p2) fun t8 =>
  pb_ (pm_unrest p2) fun _ =>
  pg_ (pl_ 11 t5) fun t10 =>
  pt_ (fun rec95 => (fun x : Int32 × Int32 × Int32 × Int32 × Int32 => pm_turn_b95 rec95 x.1 x.2.1 x.2.2.1 x.2.2.2.1 x.2.2.2.2)) fu_ (p1, t5, t8, t10, (0 : Int32)))))
  else
  (pm_turn_b42 ))
def pm_turn_b2 (rec2 : Int32 × Int32 → pm_M Int32) (p1 : Int32) (p2 : Int32) : pm_M Int32 :=
  pg_ (pi_ 18) fun t1 =>
  if t1 ≤ p2 then
  (pm_turn_b26 p1 p2)
  else
  (pg_ (pl_ 19 p2) fun t2 =>
  if t2 = p1 then
  (pm_turn_b26 p1 p2)
  else
  (rec2 (p1, (p2 + (1 : Int32)))))
def pm_turn (v1 : Int32) : pm_M Int32 :=
  pt_ (fun rec2 => (fun x : Int32 × Int32 => pm_turn_b2 rec2 x.1 x.2)) fu_ (v1, (0 : Int32))
/-! made -/
def pm_made_b30 : pm_M Int32 :=
  pr_ (1 : Int32)
def pm_made_b34 : pm_M Int32 :=
  pr_ (0 : Int32)
def pm_made_b13 (p1 : Int32) : pm_M Int32 :=
  if p1 < (101 : Int32) then
  (pm_made_b34 )
  else
  (pg_ (pi_ 2) fun t2 =>
  if ((100 : Int32) + t2) < p1 then
  (pm_made_b34 )
  else
  (pm_made_b30 ))
def pm_made (v1 : Int32) : pm_M Int32 :=
  if v1 < (1 : Int32) then
  (pm_made_b13 v1)
  else
  (pg_ (pi_ 1) fun t1 =>
  if v1 ≤ t1 then
  (pm_made_b30 )
  else
  (pm_made_b13 v1))
/-! lives -/
def pm_lives_b21 : pm_M Int32 :=
  pr_ (0 : Int32)
def pm_lives (v1 : Int32) : pm_M Int32 :=
  pb_ (pm_made v1) fun t1 =>
  if t1 = 0 then
  (pm_lives_b21 )
  else
  (pg_ (pl_ 7 v1) fun t2 =>
  if t2 = 0 then
  (pr_ (1 : Int32))
  else
  (pm_lives_b21 ))
/-! rooted -/
def pm_rooted_b45 (rec16 : Int32 × Int32 × Int32 → pm_M Int32) (p2 : Int32) (p4 : Int32) (q0 : Int32) : pm_M Int32 :=
  rec16 (p2, q0, (p4 + (1 : Int32)))
def pm_rooted_b40 (rec16 : Int32 × Int32 × Int32 → pm_M Int32) (p2 : Int32) (p4 : Int32) : pm_M Int32 :=
  pm_rooted_b45 rec16 p2 p4 (1 : Int32)
def pm_rooted_b86 (rec55 : Int32 × Int32 × Int32 → pm_M Int32) (p2 : Int32) (p4 : Int32) (q0 : Int32) : pm_M Int32 :=
  rec55 (p2, q0, (p4 + (1 : Int32)))
def pm_rooted_b81 (rec55 : Int32 × Int32 × Int32 → pm_M Int32) (p2 : Int32) (p4 : Int32) : pm_M Int32 :=
  pm_rooted_b86 rec55 p2 p4 (1 : Int32)
def pm_rooted_b55 (rec55 : Int32 × Int32 × Int32 → pm_M Int32) (p2 : Int32) (p3 : Int32) (p4 : Int32) : pm_M Int32 :=
  if (16 : Int32) ≤ p4 then
  (pg_ (pz_ p3) fun _ =>
  pr_ p3)
  else
  (if p3 = 0 then
  (pg_ (pl_ 17 (((16 : Int32) * p2) + p4)) fun t2 =>
  if t2 ≤ 0 then
  (pm_rooted_b86 rec55 p2 p4 (0 : Int32))
  else
  (pm_rooted_b81 rec55 p2 p4))
  else
  (pm_rooted_b81 rec55 p2 p4))
def pm_rooted_b16 (rec16 : Int32 × Int32 × Int32 → pm_M Int32) (p2 : Int32) (p3 : Int32) (p4 : Int32) : pm_M Int32 :=
  if (4 : Int32) ≤ p4 then
  (pt_ (fun rec55 => (fun x : Int32 × Int32 × Int32 => pm_rooted_b55 rec55 x.1 x.2.1 x.2.2)) fu_ (p2, p3, (0 : Int32)))
  else
  (if p3 = 0 then
  (pg_ (pl_ 15 (((4 : Int32) * p2) + p4)) fun t1 =>
  if t1 ≤ 0 then
  (pm_rooted_b45 rec16 p2 p4 (0 : Int32))
  else
  (pm_rooted_b40 rec16 p2 p4))
  else
  (pm_rooted_b40 rec16 p2 p4))
def pm_rooted_b12 (p2 : Int32) (q0 : Int32) : pm_M Int32 :=
  pt_ (fun rec16 => (fun x : Int32 × Int32 × Int32 => pm_rooted_b16 rec16 x.1 x.2.1 x.2.2)) fu_ (p2, q0, (0 : Int32))
def pm_rooted (v1 : Int32) (v2 : Int32) : pm_M Int32 :=
  if v2 = (v1 + (1 : Int32)) then
  (pm_rooted_b12 v2 (1 : Int32))
  else
  (pm_rooted_b12 v2 (0 : Int32))
/-! mark -/
def pm_mark (v1 : Int32) : pm_M Unit :=
  if v1 = 0 then
  (pr_ ())
  else
  (pg_ (pl_ 10 v1) fun t1 =>
  if t1 = 0 then
  (pg_ (pz_ (1 : Int32)) fun _ =>
  pw_ (ps_ 10 v1 (1 : Int32)) (
  pw_ (pp_ 14 (1 : Int32)) (
  pr_ ())))
  else
  (pr_ ()))
/-! spread -/
def pm_spread_b98 (rec2 : Int32 × Int32 → pm_M Unit) (p1 : Int32) (p2 : Int32) : pm_M Unit :=
  rec2 (p1, (p2 + (1 : Int32)))
def pm_spread_b67 (rec2 : Int32 × Int32 → pm_M Unit) (rec67 : Int32 × Int32 × Int32 → pm_M Unit) (p1 : Int32) (p2 : Int32) (p3 : Int32) : pm_M Unit :=
  if (4 : Int32) ≤ p3 then
  (pm_spread_b98 rec2 p1 p2)
  else
  (if (60 : Int32) < p2 then
  (pm_spread_b98 rec2 p1 p2)
  else
  (pg_ (pl_ 13 (((4 : Int32) * p2) + p3)) fun t7 =>
  pb_ (pm_mark t7) fun _ =>
  rec67 (p1, p2, (p3 + (1 : Int32)))))
def pm_spread_b65 (rec2 : Int32 × Int32 → pm_M Unit) (p1 : Int32) (p2 : Int32) : pm_M Unit :=
  pt_ (fun rec67 => (fun x : Int32 × Int32 × Int32 => pm_spread_b67 rec2 rec67 x.1 x.2.1 x.2.2)) fu_ (p1, p2, (0 : Int32))
def pm_spread_b62 (rec2 : Int32 × Int32 → pm_M Unit) (p1 : Int32) (p2 : Int32) (q0 : Int32) : pm_M Unit :=
  pb_ (pm_mark q0) fun _ =>
  pm_spread_b65 rec2 p1 p2
def pm_spread_b164 (rec106 : Int32 × Int32 → pm_M Unit) (p1 : Int32) (p2 : Int32) : pm_M Unit :=
  rec106 (p1, (p2 + (1 : Int32)))
def pm_spread_b106 (rec106 : Int32 × Int32 → pm_M Unit) (p1 : Int32) (p2 : Int32) : pm_M Unit :=
  pg_ (pi_ 18) fun t9 =>
  if t9 ≤ p2 then
  (pr_ ())
  else
  (pg_ (pl_ 19 p2) fun t10 =>
  if t10 ≤ (100 : Int32) then
  (pm_spread_b164 rec106 p1 p2)
  else
  (pg_ (pl_ 19 p2) fun t11 =>
  pg_ (pl_ 6 t11) fun t12 =>
  if t12 = p1 then
  (pg_ (pl_ 19 p2) fun t13 =>
  pg_ (pl_ 10 t13) fun t14 =>
  if t14 = 0 then
  (pm_spread_b164 rec106 p1 p2)
  else
  (pg_ (pl_ 22 p2) fun t15 =>
  pb_ (pm_mark t15) fun _ =>
  pm_spread_b164 rec106 p1 p2))
  else
  (pm_spread_b164 rec106 p1 p2)))
def pm_spread_b2 (rec2 : Int32 × Int32 → pm_M Unit) (p1 : Int32) (p2 : Int32) : pm_M Unit :=
  if (200 : Int32) < p2 then
  (pt_ (fun rec106 => (fun x : Int32 × Int32 => pm_spread_b106 rec106 x.1 x.2)) fu_ (p1, (0 : Int32)))
  else
  (pb_ (pm_lives p2) fun t1 =>
  if t1 = 0 then
  (pm_spread_b98 rec2 p1 p2)
  else
  (pg_ (pl_ 6 p2) fun t2 =>
  if t2 = p1 then
  (pg_ (pl_ 10 p2) fun t3 =>
  if t3 = 0 then
  (pm_spread_b98 rec2 p1 p2)
  else
  (if p2 ≤ (100 : Int32) then
  (pm_spread_b65 rec2 p1 p2)
  else
  (pg_ (pl_ 8 p2) fun t4 =>
  if t4 = 0 then
  (pm_spread_b62 rec2 p1 p2 (0 : Int32))
  else
  (pg_ (pl_ 9 p2) fun t5 =>
  pm_spread_b62 rec2 p1 p2 t5))))
  else
  (pm_spread_b98 rec2 p1 p2)))
def pm_spread (v1 : Int32) : pm_M Unit :=
  pt_ (fun rec2 => (fun x : Int32 × Int32 => pm_spread_b2 rec2 x.1 x.2)) fu_ (v1, (1 : Int32))
/-! sweep -/
def pm_sweep_b56 (rec12 : Int32 × Int32 → pm_M Int32) (p1 : Int32) (p2 : Int32) (q0 : Int32) (q1 : Int32) : pm_M Int32 :=
  pg_ (pz_ q0) fun _ =>
  pw_ (ps_ 10 q1 q0) (
  rec12 (p1, (p2 + (1 : Int32))))
def pm_sweep_b55 (rec12 : Int32 × Int32 → pm_M Int32) (p1 : Int32) (p2 : Int32) (q0 : Int32) : pm_M Int32 :=
  pm_sweep_b56 rec12 p1 p2 (0 : Int32) q0
def pm_sweep_b142 (rec65 : Int32 × Int32 → pm_M Int32) (p1 : Int32) (p2 : Int32) : pm_M Int32 :=
  rec65 (p1, (p2 + (1 : Int32)))
def pm_sweep_b233 (rec189 : Int32 × Int32 × Int32 → pm_M Int32) (p1 : Int32) (p2 : Int32) (p3 : Int32) : pm_M Int32 :=
  rec189 (p1, p2, (p3 + (1 : Int32)))
def pm_sweep_b305 (rec241 : Int32 × Int32 × Int32 → pm_M Int32) (p1 : Int32) (p2 : Int32) (p3 : Int32) : pm_M Int32 :=
  rec241 (p1, p2, (p3 + (1 : Int32)))
def pm_sweep_b241 (rec241 : Int32 × Int32 × Int32 → pm_M Int32) (p1 : Int32) (p2 : Int32) (p3 : Int32) : pm_M Int32 :=
  if (200 : Int32) < p3 then
  (pr_ p2)
  else
  (pg_ (pl_ 16 (((4 : Int32) * p3) + p1)) fun t21 =>
  if t21 ≤ 0 then
  (pm_sweep_b305 rec241 p1 p2 p3)
  else
  (pg_ (pl_ 10 p3) fun t22 =>
  if t22 = 0 then
  (pw_ (ps_ 16 (((4 : Int32) * p3) + p1) (0 : Int32)) (
  pg_ (pl_ 6 p3) fun t23 =>
  pb_ (pm_post (3 : Int32) (((4 : Int32) * p1) + t23) p3 t21 (0 : Int32) (0 : Int32)) fun _ =>
  pm_sweep_b305 rec241 p1 p2 p3))
  else
  (pm_sweep_b305 rec241 p1 p2 p3)))
def pm_sweep_b189 (rec189 : Int32 × Int32 × Int32 → pm_M Int32) (p1 : Int32) (p2 : Int32) (p3 : Int32) : pm_M Int32 :=
  if (200 : Int32) < p3 then
  (pt_ (fun rec241 => (fun x : Int32 × Int32 × Int32 => pm_sweep_b241 rec241 x.1 x.2.1 x.2.2)) fu_ (p1, p2, (1 : Int32)))
  else
  (pb_ (pm_lives p3) fun t18 =>
  if t18 = 0 then
  (pm_sweep_b233 rec189 p1 p2 p3)
  else
  (pg_ (pl_ 6 p3) fun t19 =>
  if t19 = p1 then
  (pg_ (pl_ 10 p3) fun t20 =>
  if t20 = 0 then
  (pg_ (pz_ (1 : Int32)) fun _ =>
  pw_ (ps_ 7 p3 (1 : Int32)) (
  pm_sweep_b233 rec189 p1 (p2 + (1 : Int32)) p3))
  else
  (pm_sweep_b233 rec189 p1 p2 p3))
  else
  (pm_sweep_b233 rec189 p1 p2 p3)))
def pm_sweep_b185 (p1 : Int32) : pm_M Int32 :=
  pt_ (fun rec189 => (fun x : Int32 × Int32 × Int32 => pm_sweep_b189 rec189 x.1 x.2.1 x.2.2)) fu_ (p1, (0 : Int32), (1 : Int32))
def pm_sweep_b155 (rec155 : Int32 × Int32 → pm_M Int32) (p1 : Int32) (p2 : Int32) : pm_M Int32 :=
  if (300 : Int32) ≤ p2 then
  (pm_sweep_b185 p1)
  else
  (pg_ (pi_ 14) fun t16 =>
  if t16 = 0 then
  (pm_sweep_b185 p1)
  else
  (pw_ (pp_ 14 (0 : Int32)) (
  pb_ (pm_spread p1) fun _ =>
  rec155 (p1, (p2 + (1 : Int32))))))
def pm_sweep_b65 (rec65 : Int32 × Int32 → pm_M Int32) (p1 : Int32) (p2 : Int32) : pm_M Int32 :=
  pg_ (pi_ 18) fun t5 =>
  if t5 ≤ p2 then
  (pw_ (pp_ 14 (1 : Int32)) (
  pt_ (fun rec155 => (fun x : Int32 × Int32 => pm_sweep_b155 rec155 x.1 x.2)) fu_ (p1, (0 : Int32))))
  else
  (pg_ (pl_ 19 p2) fun t6 =>
  if t6 = p1 then
  (pg_ (pl_ 20 p2) fun t7 =>
  pb_ (pm_mark t7) fun _ =>
  pg_ (pl_ 22 p2) fun t9 =>
  pb_ (pm_mark t9) fun _ =>
  pm_sweep_b142 rec65 p1 p2)
  else
  (pg_ (pl_ 19 p2) fun t11 =>
  if t11 ≤ (100 : Int32) then
  (pm_sweep_b142 rec65 p1 p2)
  else
  (pg_ (pl_ 19 p2) fun t12 =>
  pg_ (pl_ 6 t12) fun t13 =>
  if t13 = p1 then
  (pg_ (pl_ 19 p2) fun t14 =>
  pb_ (pm_mark t14) fun _ =>
  pm_sweep_b142 rec65 p1 p2)
  else
  (pm_sweep_b142 rec65 p1 p2))))
def pm_sweep_b12 (rec12 : Int32 × Int32 → pm_M Int32) (p1 : Int32) (p2 : Int32) : pm_M Int32 :=
  if (200 : Int32) < p2 then
  (pt_ (fun rec65 => (fun x : Int32 × Int32 => pm_sweep_b65 rec65 x.1 x.2)) fu_ (p1, (0 : Int32)))
  else
  (pb_ (pm_lives p2) fun t2 =>
  if t2 = 0 then
  (pm_sweep_b55 rec12 p1 p2 p2)
  else
  (pg_ (pl_ 6 p2) fun t3 =>
  if t3 = p1 then
  (pb_ (pm_rooted p1 p2) fun t4 =>
  if t4 = 0 then
  (pm_sweep_b55 rec12 p1 p2 p2)
  else
  (pm_sweep_b56 rec12 p1 p2 (1 : Int32) p2))
  else
  (pm_sweep_b55 rec12 p1 p2 p2)))
def pm_sweep (v1 : Int32) : pm_M Int32 :=
  pb_ (pm_vat v1) fun t1 =>
  if t1 = 0 then
  (pr_ (-1 : Int32))
  else
  (pt_ (fun rec12 => (fun x : Int32 × Int32 => pm_sweep_b12 rec12 x.1 x.2)) fu_ (v1, (1 : Int32)))
/-! flying -/
def pm_flying_b55 (rec5 : Int32 × Int32 × Int32 × Int32 → pm_M Int32) (p1 : Int32) (p2 : Int32) (p4 : Int32) (q0 : Int32) : pm_M Int32 :=
  rec5 (p1, p2, q0, (p4 + (1 : Int32)))
def pm_flying_b62 (p3 : Int32) : pm_M Int32 :=
  pr_ p3
def pm_flying_b5 (rec5 : Int32 × Int32 × Int32 × Int32 → pm_M Int32) (p1 : Int32) (p2 : Int32) (p3 : Int32) (p4 : Int32) : pm_M Int32 :=
  pg_ (pi_ 24) fun t1 =>
  if t1 ≤ p4 then
  (pm_flying_b62 p3)
  else
  (pb_ (pm_vat p1) fun t2 =>
  if t2 = 0 then
  (pm_flying_b62 p3)
  else
  (pb_ (pm_vat p2) fun t3 =>
  if t3 = 0 then
  (pm_flying_b62 p3)
  else
  (pg_ (pl_ 25 p4) fun t4 =>
  if (t4 - t4 / (16 : Int32) * (16 : Int32)) = (((4 : Int32) * p1) + p2) then
  (pm_flying_b55 rec5 p1 p2 p4 (p3 + (1 : Int32)))
  else
  (pm_flying_b55 rec5 p1 p2 p4 p3))))
def pm_flying (v1 : Int32) (v2 : Int32) : pm_M Int32 :=
  pt_ (fun rec5 => (fun x : Int32 × Int32 × Int32 × Int32 => pm_flying_b5 rec5 x.1 x.2.1 x.2.2.1 x.2.2.2)) fu_ (v1, v2, (0 : Int32), (0 : Int32))
/-! counts -/
def pm_counts_b42 : pm_M Int32 :=
  pr_ (0 : Int32)
def pm_counts_b94 : pm_M Int32 :=
  pr_ (1 : Int32)
def pm_counts_b98 : pm_M Int32 :=
  pr_ (0 : Int32)
def pm_counts_b74 (p2 : Int32) (p3 : Int32) : pm_M Int32 :=
  if p2 = (2 : Int32) then
  (if p3 ≤ (100 : Int32) then
  (pm_counts_b98 )
  else
  (pg_ (pl_ 8 p3) fun t5 =>
  if t5 = 0 then
  (pm_counts_b98 )
  else
  (pm_counts_b94 )))
  else
  (pm_counts_b98 )
def pm_counts_b54 (p2 : Int32) (p3 : Int32) : pm_M Int32 :=
  if p2 = (1 : Int32) then
  (if p3 ≤ (100 : Int32) then
  (pm_counts_b74 p2 p3)
  else
  (pg_ (pl_ 8 p3) fun t4 =>
  if t4 = 0 then
  (pm_counts_b94 )
  else
  (pm_counts_b74 p2 p3)))
  else
  (pm_counts_b74 p2 p3)
def pm_counts (v1 : Int32) (v2 : Int32) (v3 : Int32) : pm_M Int32 :=
  if v2 = (3 : Int32) then
  (pg_ (pl_ 16 (((4 : Int32) * v3) + v1)) fun t1 =>
  if t1 ≤ 0 then
  (pr_ (0 : Int32))
  else
  (pr_ (1 : Int32)))
  else
  (pb_ (pm_lives v3) fun t2 =>
  if t2 = 0 then
  (pm_counts_b42 )
  else
  (pg_ (pl_ 6 v3) fun t3 =>
  if t3 = v1 then
  (if v2 = 0 then
  (if v3 ≤ (60 : Int32) then
  (pm_counts_b94 )
  else
  (pm_counts_b54 v2 v3))
  else
  (pm_counts_b54 v2 v3))
  else
  (pm_counts_b42 )))
/-! count -/
def pm_count_b18 : pm_M Int32 :=
  pr_ (0 : Int32)
def pm_count_b56 (rec25 : Int32 × Int32 × Int32 × Int32 → pm_M Int32) (p1 : Int32) (p2 : Int32) (p4 : Int32) (q0 : Int32) : pm_M Int32 :=
  rec25 (p1, p2, q0, (p4 + (1 : Int32)))
def pm_count_b116 (rec66 : Int32 × Int32 × Int32 × Int32 → pm_M Int32) (p1 : Int32) (p2 : Int32) (p4 : Int32) (q0 : Int32) : pm_M Int32 :=
  rec66 (p1, p2, q0, (p4 + (1 : Int32)))
def pm_count_b115 (rec66 : Int32 × Int32 × Int32 × Int32 → pm_M Int32) (p1 : Int32) (p2 : Int32) (p3 : Int32) (p4 : Int32) : pm_M Int32 :=
  pm_count_b116 rec66 p1 p2 p4 p3
def pm_count_b197 (rec127 : Int32 × Int32 × Int32 × Int32 → pm_M Int32) (p1 : Int32) (p2 : Int32) (p4 : Int32) (q0 : Int32) : pm_M Int32 :=
  rec127 (p1, p2, q0, (p4 + (1 : Int32)))
def pm_count_b196 (rec127 : Int32 × Int32 × Int32 × Int32 → pm_M Int32) (p1 : Int32) (p2 : Int32) (p3 : Int32) (p4 : Int32) : pm_M Int32 :=
  pm_count_b197 rec127 p1 p2 p4 p3
def pm_count_b168 (rec127 : Int32 × Int32 × Int32 × Int32 → pm_M Int32) (p1 : Int32) (p2 : Int32) (p3 : Int32) (p4 : Int32) (q0 : Int32) : pm_M Int32 :=
  if q0 ≤ 0 then
  (pm_count_b196 rec127 p1 p2 p3 p4)
  else
  (pg_ (pl_ 6 (p4 / (16 : Int32))) fun t10 =>
  if t10 = p1 then
  (pm_count_b197 rec127 p1 p2 p4 (p3 + q0))
  else
  (pm_count_b196 rec127 p1 p2 p3 p4))
def pm_count_b145 (rec127 : Int32 × Int32 × Int32 × Int32 → pm_M Int32) (p1 : Int32) (p2 : Int32) (p3 : Int32) (p4 : Int32) : pm_M Int32 :=
  if p2 = (4 : Int32) then
  (pg_ (pl_ 17 p4) fun t8 =>
  pm_count_b168 rec127 p1 p2 p3 p4 t8)
  else
  (pg_ (pl_ 17 p4) fun t9 =>
  pm_count_b168 rec127 p1 p2 p3 p4 (-t9))
def pm_count_b204 (p1 : Int32) (p2 : Int32) (p3 : Int32) : pm_M Int32 :=
  if p2 = (7 : Int32) then
  (pg_ (pl_ 32 p1) fun t7 =>
  pr_ t7)
  else
  (pr_ p3)
def pm_count_b127 (rec127 : Int32 × Int32 × Int32 × Int32 → pm_M Int32) (p1 : Int32) (p2 : Int32) (p3 : Int32) (p4 : Int32) : pm_M Int32 :=
  if (3216 : Int32) ≤ p4 then
  (pm_count_b204 p1 p2 p3)
  else
  (if p2 = (4 : Int32) then
  (pm_count_b145 rec127 p1 p2 p3 p4)
  else
  (if p2 = (5 : Int32) then
  (pm_count_b145 rec127 p1 p2 p3 p4)
  else
  (pm_count_b204 p1 p2 p3)))
def pm_count_b123 (p1 : Int32) (p2 : Int32) (p3 : Int32) : pm_M Int32 :=
  pt_ (fun rec127 => (fun x : Int32 × Int32 × Int32 × Int32 => pm_count_b127 rec127 x.1 x.2.1 x.2.2.1 x.2.2.2)) fu_ (p1, p2, p3, (16 : Int32))
def pm_count_b66 (rec66 : Int32 × Int32 × Int32 × Int32 → pm_M Int32) (p1 : Int32) (p2 : Int32) (p3 : Int32) (p4 : Int32) : pm_M Int32 :=
  pg_ (pi_ 18) fun t3 =>
  if t3 ≤ p4 then
  (pm_count_b123 p1 p2 p3)
  else
  (if p2 = (6 : Int32) then
  (pg_ (pl_ 19 p4) fun t4 =>
  if t4 ≤ (100 : Int32) then
  (pm_count_b115 rec66 p1 p2 p3 p4)
  else
  (pg_ (pl_ 19 p4) fun t5 =>
  pg_ (pl_ 6 t5) fun t6 =>
  if t6 = p1 then
  (pm_count_b116 rec66 p1 p2 p4 (p3 + (1 : Int32)))
  else
  (pm_count_b115 rec66 p1 p2 p3 p4)))
  else
  (pm_count_b123 p1 p2 p3))
def pm_count_b63 (p1 : Int32) (p2 : Int32) (p3 : Int32) : pm_M Int32 :=
  pt_ (fun rec66 => (fun x : Int32 × Int32 × Int32 × Int32 => pm_count_b66 rec66 x.1 x.2.1 x.2.2.1 x.2.2.2)) fu_ (p1, p2, p3, (0 : Int32))
def pm_count_b25 (rec25 : Int32 × Int32 × Int32 × Int32 → pm_M Int32) (p1 : Int32) (p2 : Int32) (p3 : Int32) (p4 : Int32) : pm_M Int32 :=
  if (200 : Int32) < p4 then
  (pm_count_b63 p1 p2 p3)
  else
  (if (4 : Int32) ≤ p2 then
  (pm_count_b63 p1 p2 p3)
  else
  (pb_ (pm_counts p1 p2 p4) fun t2 =>
  if t2 = 0 then
  (pm_count_b56 rec25 p1 p2 p4 p3)
  else
  (pm_count_b56 rec25 p1 p2 p4 (p3 + (1 : Int32)))))
def pm_count (v1 : Int32) (v2 : Int32) : pm_M Int32 :=
  pb_ (pm_vat v1) fun t1 =>
  if t1 = 0 then
  (pm_count_b18 )
  else
  (if v2 < 0 then
  (pm_count_b18 )
  else
  (if v2 ≤ (7 : Int32) then
  (pt_ (fun rec25 => (fun x : Int32 × Int32 × Int32 × Int32 => pm_count_b25 rec25 x.1 x.2.1 x.2.2.1 x.2.2.2)) fu_ (v1, v2, (0 : Int32), (1 : Int32)))
  else
  (pm_count_b18 )))
/-! imported -/
def pm_imported_b29 : pm_M Int32 :=
  pr_ (0 : Int32)
def pm_imported (v1 : Int32) (v2 : Int32) : pm_M Int32 :=
  pb_ (pm_vat v1) fun t1 =>
  if t1 = 0 then
  (pm_imported_b29 )
  else
  (pb_ (pm_made v2) fun t2 =>
  if t2 = 0 then
  (pm_imported_b29 )
  else
  (pg_ (pl_ 16 (((4 : Int32) * v2) + v1)) fun t3 =>
  pr_ t3))
/-! exported -/
def pm_exported_b39 : pm_M Int32 :=
  pr_ (0 : Int32)
def pm_exported (v1 : Int32) (v2 : Int32) : pm_M Int32 :=
  pb_ (pm_lives v1) fun t1 =>
  if t1 = 0 then
  (pm_exported_b39 )
  else
  (pb_ (pm_vat v2) fun t2 =>
  if t2 = 0 then
  (pm_exported_b39 )
  else
  (pg_ (pl_ 6 v1) fun t3 =>
  if t3 = v2 then
  (pm_exported_b39 )
  else
  (pg_ (pl_ 15 (((4 : Int32) * v1) + v2)) fun t4 =>
  pr_ t4)))
/-! home -/
def pm_home (v1 : Int32) : pm_M Int32 :=
  pb_ (pm_lives v1) fun t1 =>
  if t1 = 0 then
  (pr_ (-1 : Int32))
  else
  (pg_ (pl_ 6 v1) fun t2 =>
  pr_ t2)
/-! slot -/
def pm_slot_b36 : pm_M Int32 :=
  pr_ (0 : Int32)
def pm_slot (v1 : Int32) (v2 : Int32) : pm_M Int32 :=
  pb_ (pm_lives v1) fun t1 =>
  if t1 = 0 then
  (pm_slot_b36 )
  else
  (if (60 : Int32) < v1 then
  (pm_slot_b36 )
  else
  (if v2 < 0 then
  (pm_slot_b36 )
  else
  (if (3 : Int32) < v2 then
  (pm_slot_b36 )
  else
  (pg_ (pl_ 13 (((4 : Int32) * v1) + v2)) fun t2 =>
  pr_ t2))))
/-! number -/
def pm_number_b23 : pm_M Int32 :=
  pr_ (0 : Int32)
def pm_number (v1 : Int32) : pm_M Int32 :=
  pb_ (pm_lives v1) fun t1 =>
  if t1 = 0 then
  (pm_number_b23 )
  else
  (if (60 : Int32) < v1 then
  (pm_number_b23 )
  else
  (pg_ (pl_ 12 v1) fun t2 =>
  pr_ t2))
/-! resolved -/
def pm_resolved_b32 : pm_M Int32 :=
  pr_ (-1 : Int32)
def pm_resolved (v1 : Int32) : pm_M Int32 :=
  pb_ (pm_lives v1) fun t1 =>
  if t1 = 0 then
  (pm_resolved_b32 )
  else
  (if v1 ≤ (100 : Int32) then
  (pm_resolved_b32 )
  else
  (pg_ (pl_ 8 v1) fun t2 =>
  if t2 = 0 then
  (pm_resolved_b32 )
  else
  (pg_ (pl_ 9 v1) fun t3 =>
  pr_ t3)))
/-! output -/
def pm_output_b28 : pm_M Int32 :=
  pr_ (0 : Int32)
def pm_output (v1 : Int32) (v2 : Int32) : pm_M Int32 :=
  pb_ (pm_vat v1) fun t1 =>
  if t1 = 0 then
  (pm_output_b28 )
  else
  (if v2 < 0 then
  (pm_output_b28 )
  else
  (if (9 : Int32) < v2 then
  (pm_output_b28 )
  else
  (pg_ (pl_ 32 v1) fun t2 =>
  if v2 < t2 then
  (pg_ (pl_ 32 v1) fun t3 =>
  pg_ (pl_ 33 (((10 : Int32) * v1) + (((t3 - (1 : Int32)) - v2) - ((t3 - (1 : Int32)) - v2) / (10 : Int32) * (10 : Int32)))) fun t4 =>
  pr_ t4)
  else
  (pm_output_b28 ))))
