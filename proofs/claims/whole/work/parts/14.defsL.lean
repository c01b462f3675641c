/-! the law and its helper -/
def lx_cell (gl : gl_T) (v0 : Option Nat) (v1 : Int32) : st_M (Int32) :=
  st_g (so_xl gl v0) fun t1 =>
  if t1 ≤ v1 then
  (st_r (0 : Int32))
  else
  (st_g (so_x gl v0 v1) fun t2 =>
  st_r t2)
def lx_law_b635 (gl : gl_T) (rec28 : Option Nat × Option Nat × Option Nat × Int32 → st_M (Int32)) (p0 : Option Nat) (p1 : Option Nat) (p2 : Option Nat) (p3 : Int32) : st_M (Int32) :=
  rec28 (p0, p1, p2, (p3 + (4 : Int32)))
def lx_law_b28 (gl : gl_T) (rec28 : Option Nat × Option Nat × Option Nat × Int32 → st_M (Int32)) (p0 : Option Nat) (p1 : Option Nat) (p2 : Option Nat) (p3 : Int32) : st_M (Int32) :=
  st_g (so_xl gl p0) fun t45 =>
  if (t45 - (4 : Int32)) < p3 then
  (st_r (1 : Int32))
  else
  (st_g (so_x gl p0 p3) fun t46 =>
  (if (t46 &&& (31 : Int32)) = (0 : Int32) then
  (st_g (so_x gl p0 (p3 + (1 : Int32))) fun t47 =>
  st_g (so_x gl p0 (p3 + (2 : Int32))) fun t48 =>
  st_g (so_x gl p0 (p3 + (3 : Int32))) fun t49 =>
  st_g (so_cm p1 [0]) fun _ =>
  st_b (xP_code gl p1 t47 t48 t49) fun t50 =>
  st_g (so_x gl p0 (p3 + (1 : Int32))) fun t58 =>
  st_g (so_x gl p0 (p3 + (2 : Int32))) fun t59 =>
  st_g (so_x gl p0 (p3 + (3 : Int32))) fun t60 =>
  st_g (so_cm p2 [10]) fun _ =>
  st_b (mm_code gl p2 t58 t59 t60) fun t61 =>
  if t50 = t61 then
  (lx_law_b635 gl rec28 p0 p1 p2 p3)
  else
  (st_r (0 : Int32)))
  else
  (if (t46 &&& (31 : Int32)) = (1 : Int32) then
  (st_g (so_x gl p0 (p3 + (1 : Int32))) fun t71 =>
  st_g (so_cm p1 [0]) fun _ =>
  st_b (xP_clear gl p1 t71) fun t72 =>
  st_g (so_x gl p0 (p3 + (1 : Int32))) fun t80 =>
  st_g (so_cm p2 [10]) fun _ =>
  st_b (mm_clear gl p2 t80) fun t81 =>
  if t72 = t81 then
  (lx_law_b635 gl rec28 p0 p1 p2 p3)
  else
  (st_r (0 : Int32)))
  else
  (if (t46 &&& (31 : Int32)) = (2 : Int32) then
  (st_g (so_x gl p0 (p3 + (1 : Int32))) fun t91 =>
  st_g (so_x gl p0 (p3 + (2 : Int32))) fun t92 =>
  st_g (so_x gl p0 (p3 + (3 : Int32))) fun t93 =>
  st_g (so_cm p1 [0]) fun _ =>
  st_b (xP_give gl p1 t91 t92 t93) fun t94 =>
  st_g (so_x gl p0 (p3 + (1 : Int32))) fun t102 =>
  st_g (so_x gl p0 (p3 + (2 : Int32))) fun t103 =>
  st_g (so_x gl p0 (p3 + (3 : Int32))) fun t104 =>
  st_g (so_cm p2 [10]) fun _ =>
  st_b (mm_give gl p2 t102 t103 t104) fun t105 =>
  if t94 = t105 then
  (lx_law_b635 gl rec28 p0 p1 p2 p3)
  else
  (st_r (0 : Int32)))
  else
  (if (t46 &&& (31 : Int32)) = (3 : Int32) then
  (st_g (so_x gl p0 (p3 + (1 : Int32))) fun t115 =>
  st_g (so_x gl p0 (p3 + (2 : Int32))) fun t116 =>
  st_g (so_cm p1 [0]) fun _ =>
  st_b (xP_poke gl p1 t115 t116) fun t117 =>
  st_g (so_x gl p0 (p3 + (1 : Int32))) fun t125 =>
  st_g (so_x gl p0 (p3 + (2 : Int32))) fun t126 =>
  st_g (so_cm p2 [10]) fun _ =>
  st_b (mm_poke gl p2 t125 t126) fun t127 =>
  if t117 = t127 then
  (lx_law_b635 gl rec28 p0 p1 p2 p3)
  else
  (st_r (0 : Int32)))
  else
  (if (t46 &&& (31 : Int32)) = (4 : Int32) then
  (st_g (so_x gl p0 (p3 + (1 : Int32))) fun t137 =>
  st_g (so_cm p1 [0]) fun _ =>
  st_b (xP_turn gl p1 t137) fun t138 =>
  st_g (so_x gl p0 (p3 + (1 : Int32))) fun t146 =>
  st_g (so_cm p2 [10]) fun _ =>
  st_b (mm_turn gl p2 t146) fun t147 =>
  if t138 = t147 then
  (lx_law_b635 gl rec28 p0 p1 p2 p3)
  else
  (st_r (0 : Int32)))
  else
  (if (t46 &&& (31 : Int32)) = (5 : Int32) then
  (st_g (so_x gl p0 (p3 + (1 : Int32))) fun t157 =>
  st_g (so_x gl p0 (p3 + (2 : Int32))) fun t158 =>
  st_g (so_cm p1 [0]) fun _ =>
  st_b (xP_deliver gl p1 t157 t158) fun t159 =>
  st_g (so_x gl p0 (p3 + (1 : Int32))) fun t167 =>
  st_g (so_x gl p0 (p3 + (2 : Int32))) fun t168 =>
  st_g (so_cm p2 [10]) fun _ =>
  st_b (mm_deliver gl p2 t167 t168) fun t169 =>
  if t159 = t169 then
  (lx_law_b635 gl rec28 p0 p1 p2 p3)
  else
  (st_r (0 : Int32)))
  else
  (if (t46 &&& (31 : Int32)) = (6 : Int32) then
  (st_g (so_x gl p0 (p3 + (1 : Int32))) fun t179 =>
  st_g (so_cm p1 [0]) fun _ =>
  st_b (xP_sweep gl p1 t179) fun t180 =>
  st_g (so_x gl p0 (p3 + (1 : Int32))) fun t188 =>
  st_g (so_cm p2 [10]) fun _ =>
  st_b (mm_sweep gl p2 t188) fun t189 =>
  if t180 = t189 then
  (lx_law_b635 gl rec28 p0 p1 p2 p3)
  else
  (st_r (0 : Int32)))
  else
  (if (t46 &&& (31 : Int32)) = (7 : Int32) then
  (st_g (so_x gl p0 (p3 + (1 : Int32))) fun t199 =>
  st_g (so_x gl p0 (p3 + (2 : Int32))) fun t200 =>
  st_g (so_cm p1 [0]) fun _ =>
  st_b (xP_flying gl p1 t199 t200) fun t201 =>
  st_g (so_x gl p0 (p3 + (1 : Int32))) fun t209 =>
  st_g (so_x gl p0 (p3 + (2 : Int32))) fun t210 =>
  st_g (so_cm p2 [10]) fun _ =>
  st_b (mm_flying gl p2 t209 t210) fun t211 =>
  if t201 = t211 then
  (lx_law_b635 gl rec28 p0 p1 p2 p3)
  else
  (st_r (0 : Int32)))
  else
  (if (t46 &&& (31 : Int32)) = (8 : Int32) then
  (st_g (so_x gl p0 (p3 + (1 : Int32))) fun t221 =>
  st_g (so_cm p1 [0]) fun _ =>
  st_b (xP_inbox gl p1 t221) fun t222 =>
  st_g (so_x gl p0 (p3 + (1 : Int32))) fun t230 =>
  st_g (so_cm p2 [10]) fun _ =>
  st_b (mm_inbox gl p2 t230) fun t231 =>
  if t222 = t231 then
  (lx_law_b635 gl rec28 p0 p1 p2 p3)
  else
  (st_r (0 : Int32)))
  else
  (if (t46 &&& (31 : Int32)) = (9 : Int32) then
  (st_g (so_x gl p0 (p3 + (1 : Int32))) fun t241 =>
  st_g (so_x gl p0 (p3 + (2 : Int32))) fun t242 =>
  st_g (so_cm p1 [0]) fun _ =>
  st_b (xP_count gl p1 t241 t242) fun t243 =>
  st_g (so_x gl p0 (p3 + (1 : Int32))) fun t251 =>
  st_g (so_x gl p0 (p3 + (2 : Int32))) fun t252 =>
  st_g (so_cm p2 [10]) fun _ =>
  st_b (mm_count gl p2 t251 t252) fun t253 =>
  if t243 = t253 then
  (lx_law_b635 gl rec28 p0 p1 p2 p3)
  else
  (st_r (0 : Int32)))
  else
  (if (t46 &&& (31 : Int32)) = (10 : Int32) then
  (st_g (so_x gl p0 (p3 + (1 : Int32))) fun t263 =>
  st_g (so_x gl p0 (p3 + (2 : Int32))) fun t264 =>
  st_g (so_cm p1 [0]) fun _ =>
  st_b (xP_imported gl p1 t263 t264) fun t265 =>
  st_g (so_x gl p0 (p3 + (1 : Int32))) fun t273 =>
  st_g (so_x gl p0 (p3 + (2 : Int32))) fun t274 =>
  st_g (so_cm p2 [10]) fun _ =>
  st_b (mm_imported gl p2 t273 t274) fun t275 =>
  if t265 = t275 then
  (lx_law_b635 gl rec28 p0 p1 p2 p3)
  else
  (st_r (0 : Int32)))
  else
  (if (t46 &&& (31 : Int32)) = (11 : Int32) then
  (st_g (so_x gl p0 (p3 + (1 : Int32))) fun t285 =>
  st_g (so_x gl p0 (p3 + (2 : Int32))) fun t286 =>
  st_g (so_cm p1 [0]) fun _ =>
  st_b (xP_exported gl p1 t285 t286) fun t287 =>
  st_g (so_x gl p0 (p3 + (1 : Int32))) fun t295 =>
  st_g (so_x gl p0 (p3 + (2 : Int32))) fun t296 =>
  st_g (so_cm p2 [10]) fun _ =>
  st_b (mm_exported gl p2 t295 t296) fun t297 =>
  if t287 = t297 then
  (lx_law_b635 gl rec28 p0 p1 p2 p3)
  else
  (st_r (0 : Int32)))
  else
  (if (t46 &&& (31 : Int32)) = (12 : Int32) then
  (st_g (so_x gl p0 (p3 + (1 : Int32))) fun t307 =>
  st_g (so_cm p1 [0]) fun _ =>
  st_b (xP_home gl p1 t307) fun t308 =>
  st_g (so_x gl p0 (p3 + (1 : Int32))) fun t316 =>
  st_g (so_cm p2 [10]) fun _ =>
  st_b (mm_home gl p2 t316) fun t317 =>
  if t308 = t317 then
  (lx_law_b635 gl rec28 p0 p1 p2 p3)
  else
  (st_r (0 : Int32)))
  else
  (if (t46 &&& (31 : Int32)) = (13 : Int32) then
  (st_g (so_x gl p0 (p3 + (1 : Int32))) fun t327 =>
  st_g (so_x gl p0 (p3 + (2 : Int32))) fun t328 =>
  st_g (so_cm p1 [0]) fun _ =>
  st_b (xP_slot gl p1 t327 t328) fun t329 =>
  st_g (so_x gl p0 (p3 + (1 : Int32))) fun t337 =>
  st_g (so_x gl p0 (p3 + (2 : Int32))) fun t338 =>
  st_g (so_cm p2 [10]) fun _ =>
  st_b (mm_slot gl p2 t337 t338) fun t339 =>
  if t329 = t339 then
  (lx_law_b635 gl rec28 p0 p1 p2 p3)
  else
  (st_r (0 : Int32)))
  else
  (if (t46 &&& (31 : Int32)) = (14 : Int32) then
  (st_g (so_x gl p0 (p3 + (1 : Int32))) fun t349 =>
  st_g (so_cm p1 [0]) fun _ =>
  st_b (xP_number gl p1 t349) fun t350 =>
  st_g (so_x gl p0 (p3 + (1 : Int32))) fun t358 =>
  st_g (so_cm p2 [10]) fun _ =>
  st_b (mm_number gl p2 t358) fun t359 =>
  if t350 = t359 then
  (lx_law_b635 gl rec28 p0 p1 p2 p3)
  else
  (st_r (0 : Int32)))
  else
  (if (t46 &&& (31 : Int32)) = (15 : Int32) then
  (st_g (so_x gl p0 (p3 + (1 : Int32))) fun t369 =>
  st_g (so_cm p1 [0]) fun _ =>
  st_b (xP_resolved gl p1 t369) fun t370 =>
  st_g (so_x gl p0 (p3 + (1 : Int32))) fun t378 =>
  st_g (so_cm p2 [10]) fun _ =>
  st_b (mm_resolved gl p2 t378) fun t379 =>
  if t370 = t379 then
  (lx_law_b635 gl rec28 p0 p1 p2 p3)
  else
  (st_r (0 : Int32)))
  else
  (if (t46 &&& (31 : Int32)) = (16 : Int32) then
  (st_g (so_x gl p0 (p3 + (1 : Int32))) fun t389 =>
  st_g (so_x gl p0 (p3 + (2 : Int32))) fun t390 =>
  st_g (so_cm p1 [0]) fun _ =>
  st_b (xP_output gl p1 t389 t390) fun t391 =>
  st_g (so_x gl p0 (p3 + (1 : Int32))) fun t399 =>
  st_g (so_x gl p0 (p3 + (2 : Int32))) fun t400 =>
  st_g (so_cm p2 [10]) fun _ =>
  st_b (mm_output gl p2 t399 t400) fun t401 =>
  if t391 = t401 then
  (lx_law_b635 gl rec28 p0 p1 p2 p3)
  else
  (st_r (0 : Int32)))
  else
  (lx_law_b635 gl rec28 p0 p1 p2 p3)))))))))))))))))))
def lx_law (gl : gl_T) (v0 : Option Nat) : st_M (Int32) :=
  st_n (.inr (.inr (0, cd_0))) 10 fun t1 =>
  st_b (lx_cell gl v0 (0 : Int32)) fun t5 =>
  st_b (xP_init gl (some t1) t5) fun _ =>
  st_n (.inr (.inr (10, cd_10))) 36 fun t21 =>
  st_b (lx_cell gl v0 (0 : Int32)) fun t25 =>
  st_b (mm_init gl (some t21) t25) fun _ =>
  st_it (fun rec28 => (fun x : Option Nat × Option Nat × Option Nat × Int32 => lx_law_b28 gl rec28 x.1 x.2.1 x.2.2.1 x.2.2.2)) fu_ (v0, (some t1), (some t21), (1 : Int32))
