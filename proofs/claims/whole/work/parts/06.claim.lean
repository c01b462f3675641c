/-! The claim's classes, its rows' types, what a contract knows of the start. Printed from the tables' words. -/
def ct_0 : u_T := fun k => match k with
  | 0 => ("PromiseVats", "vats", "[LPromiseVats$Vat;", true)
  | 1 => ("PromiseVats", "programs", "[LPromiseVats$Program;", true)
  | 2 => ("PromiseVats", "entities", "[LPromiseVats$Entity;", true)
  | 3 => ("PromiseVats", "objectsMade", "I", false)
  | 4 => ("PromiseVats", "promisesMade", "I", false)
  | 5 => ("PromiseVats", "running", "LPromiseVats$Turn;", true)
  | 6 => ("PromiseVats", "lost", "[LPromiseVats$Promise;", true)
  | 7 => ("PromiseVats", "lostCount", "I", false)
  | 8 => ("PromiseVats", "found", "[LPromiseVats$Entity;", true)
  | _ => ("PromiseVats", "foundCount", "I", false)
def cy_0 : Nat → FieldType := fun k => match k with
  | 0 => .array (.object "PromiseVats$Vat")
  | 1 => .array (.object "PromiseVats$Program")
  | 2 => .array (.object "PromiseVats$Entity")
  | 3 => .int
  | 4 => .int
  | 5 => .object "PromiseVats$Turn"
  | 6 => .array (.object "PromiseVats$Promise")
  | 7 => .int
  | 8 => .array (.object "PromiseVats$Entity")
  | _ => .int
def cd_0 : List Value := [.null, .null, .null, .int 0, .int 0, .null, .null, .int 0, .null, .int 0]
def ct_1 : u_T := fun k => match k with
  | 0 => ("PromiseVats$Turn", "self", "LPromiseVats$VatObject;", false)
  | 1 => ("PromiseVats$Turn", "value", "I", false)
  | 2 => ("PromiseVats$Turn", "reference", "LPromiseVats$Entity;", false)
  | _ => ("PromiseVats$Turn", "skips", "I", false)
def cy_1 : Nat → FieldType := fun k => match k with
  | 0 => .object "PromiseVats$VatObject"
  | 1 => .int
  | 2 => .object "PromiseVats$Entity"
  | _ => .int
def cd_1 : List Value := [.null, .int 0, .null, .int 0]
def ct_2 : u_T := fun k => match k with
  | 0 => ("PromiseVats$Program", "ops", "[I", true)
  | 1 => ("PromiseVats$Program", "xs", "[I", true)
  | _ => ("PromiseVats$Program", "length", "I", false)
def cy_2 : Nat → FieldType := fun k => match k with
  | 0 => .array (.int)
  | 1 => .array (.int)
  | _ => .int
def cd_2 : List Value := [.null, .null, .int 0]
def ct_3 : u_T := fun k => match k with
  | 0 => ("PromiseVats$VatObject", "program", "I", true)
  | 1 => ("PromiseVats$VatObject", "amount", "I", false)
  | 2 => ("PromiseVats$VatObject", "slots", "[LPromiseVats$Entity;", true)
  | 3 => ("PromiseVats$Entity", "id", "I", true)
  | 4 => ("PromiseVats$Entity", "home", "I", true)
  | 5 => ("PromiseVats$Entity", "freed", "Z", false)
  | 6 => ("PromiseVats$Entity", "reached", "Z", false)
  | 7 => ("PromiseVats$Entity", "exports", "[I", true)
  | 8 => ("PromiseVats$Entity", "imports", "[I", true)
  | _ => ("PromiseVats$Entity", "gifts", "[I", true)
def cy_3 : Nat → FieldType := fun k => match k with
  | 0 => .int
  | 1 => .int
  | 2 => .array (.object "PromiseVats$Entity")
  | 3 => .int
  | 4 => .int
  | 5 => .boolean
  | 6 => .boolean
  | 7 => .array (.int)
  | 8 => .array (.int)
  | _ => .array (.int)
def cd_3 : List Value := [.int 0, .int 0, .null, .int 0, .int 0, .int 0, .int 0, .null, .null, .null]
def ct_4 : u_T := fun k => match k with
  | 0 => ("PromiseVats$Promise", "open", "Z", false)
  | 1 => ("PromiseVats$Promise", "outcome", "LPromiseVats$Entity;", false)
  | 2 => ("PromiseVats$Promise", "waiting", "Ljava/util/ArrayList;", true)
  | 3 => ("PromiseVats$Entity", "id", "I", true)
  | 4 => ("PromiseVats$Entity", "home", "I", true)
  | 5 => ("PromiseVats$Entity", "freed", "Z", false)
  | 6 => ("PromiseVats$Entity", "reached", "Z", false)
  | 7 => ("PromiseVats$Entity", "exports", "[I", true)
  | 8 => ("PromiseVats$Entity", "imports", "[I", true)
  | _ => ("PromiseVats$Entity", "gifts", "[I", true)
def cy_4 : Nat → FieldType := fun k => match k with
  | 0 => .boolean
  | 1 => .object "PromiseVats$Entity"
  | 2 => .object "java/util/ArrayList"
  | 3 => .int
  | 4 => .int
  | 5 => .boolean
  | 6 => .boolean
  | 7 => .array (.int)
  | 8 => .array (.int)
  | _ => .array (.int)
def cd_4 : List Value := [.int 0, .null, .null, .int 0, .int 0, .int 0, .int 0, .null, .null, .null]
def ct_5 : u_T := fun k => match k with
  | 0 => ("PromiseVats$Vat", "root", "LPromiseVats$VatObject;", true)
  | 1 => ("PromiseVats$Vat", "calls", "Ljava/util/ArrayList;", true)
  | 2 => ("PromiseVats$Vat", "channels", "[LPromiseVats$Channel;", true)
  | 3 => ("PromiseVats$Vat", "latest", "[I", true)
  | _ => ("PromiseVats$Vat", "outputs", "I", false)
def cy_5 : Nat → FieldType := fun k => match k with
  | 0 => .object "PromiseVats$VatObject"
  | 1 => .object "java/util/ArrayList"
  | 2 => .array (.object "PromiseVats$Channel")
  | 3 => .array (.int)
  | _ => .int
def cd_5 : List Value := [.null, .null, .null, .null, .int 0]
def ct_6 : u_T := fun k => match k with
  | 0 => ("java/util/ArrayList", "elementData", "[Ljava/lang/Object;", false)
  | 1 => ("java/util/ArrayList", "size", "I", false)
  | _ => ("java/util/AbstractList", "modCount", "I", false)
def cy_6 : Nat → FieldType := fun k => match k with
  | 0 => .array (.object "java/lang/Object")
  | 1 => .int
  | _ => .int
def cd_6 : List Value := [.null, .int 0, .int 0]
def ct_7 : u_T := fun k => match k with
  | _ => ("PromiseVats$Channel", "messages", "Ljava/util/ArrayList;", true)
def cy_7 : Nat → FieldType := fun k => match k with
  | _ => .object "java/util/ArrayList"
def cd_7 : List Value := [.null]
def ct_8 : u_T := fun k => match k with
  | 0 => ("PromiseVats$Call", "target", "LPromiseVats$Entity;", false)
  | 1 => ("PromiseVats$Call", "value", "I", true)
  | 2 => ("PromiseVats$Call", "argument", "LPromiseVats$Entity;", true)
  | _ => ("PromiseVats$Call", "answe\x72", "LPromiseVats$Promise;", true)
def cy_8 : Nat → FieldType := fun k => match k with
  | 0 => .object "PromiseVats$Entity"
  | 1 => .int
  | 2 => .object "PromiseVats$Entity"
  | _ => .object "PromiseVats$Promise"
def cd_8 : List Value := [.null, .int 0, .null, .null]
def ct_9 : u_T := fun k => match k with
  | 0 => ("PromiseVats$Message", "kind", "I", true)
  | 1 => ("PromiseVats$Message", "subject", "LPromiseVats$Entity;", true)
  | 2 => ("PromiseVats$Message", "argument", "LPromiseVats$Entity;", true)
  | 3 => ("PromiseVats$Message", "amount", "I", true)
  | _ => ("PromiseVats$Message", "call", "LPromiseVats$Call;", false)
def cy_9 : Nat → FieldType := fun k => match k with
  | 0 => .int
  | 1 => .object "PromiseVats$Entity"
  | 2 => .object "PromiseVats$Entity"
  | 3 => .int
  | _ => .object "PromiseVats$Call"
def cd_9 : List Value := [.int 0, .null, .null, .int 0, .null]
def ct_10 : u_T := fun k => match k with
  | 0 => ("PromiseVatsModel", "vats", "I", true)
  | 1 => ("PromiseVatsModel", "objects", "I", false)
  | 2 => ("PromiseVatsModel", "promises", "I", false)
  | 3 => ("PromiseVatsModel", "sizes", "[I", true)
  | 4 => ("PromiseVatsModel", "ops", "[I", true)
  | 5 => ("PromiseVatsModel", "args", "[I", true)
  | 6 => ("PromiseVatsModel", "home", "[B", true)
  | 7 => ("PromiseVatsModel", "gone", "[Z", true)
  | 8 => ("PromiseVatsModel", "settled", "[Z", true)
  | 9 => ("PromiseVatsModel", "to", "[I", true)
  | 10 => ("PromiseVatsModel", "reached", "[Z", true)
  | 11 => ("PromiseVatsModel", "programs", "[B", true)
  | 12 => ("PromiseVatsModel", "numbers", "[I", true)
  | 13 => ("PromiseVatsModel", "slots", "[I", true)
  | 14 => ("PromiseVatsModel", "marked", "Z", false)
  | 15 => ("PromiseVatsModel", "exports", "[I", true)
  | 16 => ("PromiseVatsModel", "imports", "[I", true)
  | 17 => ("PromiseVatsModel", "owed", "[I", true)
  | 18 => ("PromiseVatsModel", "resting", "I", false)
  | 19 => ("PromiseVatsModel", "place", "[I", true)
  | 20 => ("PromiseVatsModel", "target", "[I", true)
  | 21 => ("PromiseVatsModel", "value", "[I", true)
  | 22 => ("PromiseVatsModel", "argument", "[I", true)
  | 23 => ("PromiseVatsModel", "answe\x72", "[I", true)
  | 24 => ("PromiseVatsModel", "mails", "I", false)
  | 25 => ("PromiseVatsModel", "head", "[B", true)
  | 26 => ("PromiseVatsModel", "about", "[S", true)
  | 27 => ("PromiseVatsModel", "load", "[I", true)
  | 28 => ("PromiseVatsModel", "carry", "[S", true)
  | 29 => ("PromiseVatsModel", "back", "[S", true)
  | 30 => ("PromiseVatsModel", "lost", "I", false)
  | 31 => ("PromiseVatsModel", "losers", "[I", true)
  | 32 => ("PromiseVatsModel", "outs", "[I", true)
  | 33 => ("PromiseVatsModel", "out", "[I", true)
  | 34 => ("PromiseVatsModel", "v", "I", false)
  | _ => ("PromiseVatsModel", "\x72", "I", false)
def cy_10 : Nat → FieldType := fun k => match k with
  | 0 => .int
  | 1 => .int
  | 2 => .int
  | 3 => .array (.int)
  | 4 => .array (.int)
  | 5 => .array (.int)
  | 6 => .array (.byte)
  | 7 => .array (.boolean)
  | 8 => .array (.boolean)
  | 9 => .array (.int)
  | 10 => .array (.boolean)
  | 11 => .array (.byte)
  | 12 => .array (.int)
  | 13 => .array (.int)
  | 14 => .boolean
  | 15 => .array (.int)
  | 16 => .array (.int)
  | 17 => .array (.int)
  | 18 => .int
  | 19 => .array (.int)
  | 20 => .array (.int)
  | 21 => .array (.int)
  | 22 => .array (.int)
  | 23 => .array (.int)
  | 24 => .int
  | 25 => .array (.byte)
  | 26 => .array (.short)
  | 27 => .array (.int)
  | 28 => .array (.short)
  | 29 => .array (.short)
  | 30 => .int
  | 31 => .array (.int)
  | 32 => .array (.int)
  | 33 => .array (.int)
  | 34 => .int
  | _ => .int
def cd_10 : List Value := [.int 0, .int 0, .int 0, .null, .null, .null, .null, .null, .null, .null, .null, .null, .null, .null, .int 0, .null, .null, .null, .int 0, .null, .null, .null, .null, .null, .int 0, .null, .null, .null, .null, .null, .int 0, .null, .null, .null, .int 0, .int 0]
def cl_ : List vw_C := [("PromiseVats", ct_0, 10), ("PromiseVats$Turn", ct_1, 4), ("PromiseVats$Program", ct_2, 3), ("PromiseVats$VatObject", ct_3, 10), ("PromiseVats$Promise", ct_4, 10), ("PromiseVats$Vat", ct_5, 5), ("java/util/ArrayList", ct_6, 3), ("PromiseVats$Channel", ct_7, 1), ("PromiseVats$Call", ct_8, 4), ("PromiseVats$Message", ct_9, 5), ("PromiseVatsModel", ct_10, 36)]
def ty_ (ac : Nat → ClassId) : List (ClassId × FieldType) := [(ac 0, .int), (ac 1, .byte), (ac 2, .boolean), (ac 3, .short), (ac 4, .object "PromiseVats$Vat"), (ac 5, .object "PromiseVats$Program"), (ac 6, .object "PromiseVats$Entity"), (ac 7, .object "PromiseVats$Promise"), (ac 8, .object "PromiseVats$Channel"), (ac 9, .object "java/lang/Object")]
theorem cw_0 : ∀ k, k < 10 → u_lay "PromiseVats" ct_0 k ∈ tb_ := by
  intro k hk
  match k, hk with
  | 0, _ => exact tb_in 226 (by decide +kernel) rfl
  | 1, _ => exact tb_in 228 (by decide +kernel) rfl
  | 2, _ => exact tb_in 230 (by decide +kernel) rfl
  | 3, _ => exact tb_in 232 (by decide +kernel) rfl
  | 4, _ => exact tb_in 234 (by decide +kernel) rfl
  | 5, _ => exact tb_in 236 (by decide +kernel) rfl
  | 6, _ => exact tb_in 238 (by decide +kernel) rfl
  | 7, _ => exact tb_in 240 (by decide +kernel) rfl
  | 8, _ => exact tb_in 242 (by decide +kernel) rfl
  | 9, _ => exact tb_in 244 (by decide +kernel) rfl
  | k + 10, hk => exact absurd hk (by omega)
theorem cf_0 : cf_ cl_ tb_ 0 "PromiseVats" ct_0 10 cy_0 := ⟨rfl, fun w h => by
  obtain ⟨k, hk, rfl⟩ := List.mem_map.mp h
  exact cw_0 k (List.mem_range.mp hk), by decide +kernel, by decide +kernel⟩
theorem cb_0 : ∀ j, j < 10 → defaultValue (cy_0 j) = vp_V cd_0 j := by decide +kernel
theorem cw_1 : ∀ k, k < 4 → u_lay "PromiseVats$Turn" ct_1 k ∈ tb_ := by
  intro k hk
  match k, hk with
  | 0, _ => exact tb_in 55 (by decide +kernel) rfl
  | 1, _ => exact tb_in 57 (by decide +kernel) rfl
  | 2, _ => exact tb_in 59 (by decide +kernel) rfl
  | 3, _ => exact tb_in 61 (by decide +kernel) rfl
  | k + 4, hk => exact absurd hk (by omega)
theorem cf_1 : cf_ cl_ tb_ 1 "PromiseVats$Turn" ct_1 4 cy_1 := ⟨rfl, fun w h => by
  obtain ⟨k, hk, rfl⟩ := List.mem_map.mp h
  exact cw_1 k (List.mem_range.mp hk), by decide +kernel, by decide +kernel⟩
theorem cb_1 : ∀ j, j < 4 → defaultValue (cy_1 j) = vp_V cd_1 j := by decide +kernel
theorem cw_2 : ∀ k, k < 3 → u_lay "PromiseVats$Program" ct_2 k ∈ tb_ := by
  intro k hk
  match k, hk with
  | 0, _ => exact tb_in 76 (by decide +kernel) rfl
  | 1, _ => exact tb_in 78 (by decide +kernel) rfl
  | 2, _ => exact tb_in 80 (by decide +kernel) rfl
  | k + 3, hk => exact absurd hk (by omega)
theorem cf_2 : cf_ cl_ tb_ 2 "PromiseVats$Program" ct_2 3 cy_2 := ⟨rfl, fun w h => by
  obtain ⟨k, hk, rfl⟩ := List.mem_map.mp h
  exact cw_2 k (List.mem_range.mp hk), by decide +kernel, by decide +kernel⟩
theorem cb_2 : ∀ j, j < 3 → defaultValue (cy_2 j) = vp_V cd_2 j := by decide +kernel
theorem cw_3 : ∀ k, k < 10 → u_lay "PromiseVats$VatObject" ct_3 k ∈ tb_ := by
  intro k hk
  match k, hk with
  | 0, _ => exact tb_in 129 (by decide +kernel) rfl
  | 1, _ => exact tb_in 131 (by decide +kernel) rfl
  | 2, _ => exact tb_in 133 (by decide +kernel) rfl
  | 3, _ => exact tb_in 135 (by decide +kernel) rfl
  | 4, _ => exact tb_in 137 (by decide +kernel) rfl
  | 5, _ => exact tb_in 139 (by decide +kernel) rfl
  | 6, _ => exact tb_in 141 (by decide +kernel) rfl
  | 7, _ => exact tb_in 143 (by decide +kernel) rfl
  | 8, _ => exact tb_in 145 (by decide +kernel) rfl
  | 9, _ => exact tb_in 147 (by decide +kernel) rfl
  | k + 10, hk => exact absurd hk (by omega)
theorem cf_3 : cf_ cl_ tb_ 3 "PromiseVats$VatObject" ct_3 10 cy_3 := ⟨rfl, fun w h => by
  obtain ⟨k, hk, rfl⟩ := List.mem_map.mp h
  exact cw_3 k (List.mem_range.mp hk), by decide +kernel, by decide +kernel⟩
theorem cb_3 : ∀ j, j < 10 → defaultValue (cy_3 j) = vp_V cd_3 j := by decide +kernel
theorem cw_4 : ∀ k, k < 10 → u_lay "PromiseVats$Promise" ct_4 k ∈ tb_ := by
  intro k hk
  match k, hk with
  | 0, _ => exact tb_in 459 (by decide +kernel) rfl
  | 1, _ => exact tb_in 461 (by decide +kernel) rfl
  | 2, _ => exact tb_in 463 (by decide +kernel) rfl
  | 3, _ => exact tb_in 465 (by decide +kernel) rfl
  | 4, _ => exact tb_in 466 (by decide +kernel) rfl
  | 5, _ => exact tb_in 467 (by decide +kernel) rfl
  | 6, _ => exact tb_in 468 (by decide +kernel) rfl
  | 7, _ => exact tb_in 469 (by decide +kernel) rfl
  | 8, _ => exact tb_in 470 (by decide +kernel) rfl
  | 9, _ => exact tb_in 471 (by decide +kernel) rfl
  | k + 10, hk => exact absurd hk (by omega)
theorem cf_4 : cf_ cl_ tb_ 4 "PromiseVats$Promise" ct_4 10 cy_4 := ⟨rfl, fun w h => by
  obtain ⟨k, hk, rfl⟩ := List.mem_map.mp h
  exact cw_4 k (List.mem_range.mp hk), by decide +kernel, by decide +kernel⟩
theorem cb_4 : ∀ j, j < 10 → defaultValue (cy_4 j) = vp_V cd_4 j := by decide +kernel
theorem cw_5 : ∀ k, k < 5 → u_lay "PromiseVats$Vat" ct_5 k ∈ tb_ := by
  intro k hk
  match k, hk with
  | 0, _ => exact tb_in 205 (by decide +kernel) rfl
  | 1, _ => exact tb_in 207 (by decide +kernel) rfl
  | 2, _ => exact tb_in 209 (by decide +kernel) rfl
  | 3, _ => exact tb_in 211 (by decide +kernel) rfl
  | 4, _ => exact tb_in 213 (by decide +kernel) rfl
  | k + 5, hk => exact absurd hk (by omega)
theorem cf_5 : cf_ cl_ tb_ 5 "PromiseVats$Vat" ct_5 5 cy_5 := ⟨rfl, fun w h => by
  obtain ⟨k, hk, rfl⟩ := List.mem_map.mp h
  exact cw_5 k (List.mem_range.mp hk), by decide +kernel, by decide +kernel⟩
theorem cb_5 : ∀ j, j < 5 → defaultValue (cy_5 j) = vp_V cd_5 j := by decide +kernel
theorem cw_6 : ∀ k, k < 3 → u_lay "java/util/ArrayList" ct_6 k ∈ tb_ := by
  intro k hk
  match k, hk with
  | 0, _ => exact tb_in 174 (by decide +kernel) rfl
  | 1, _ => exact tb_in 176 (by decide +kernel) rfl
  | 2, _ => exact tb_in 178 (by decide +kernel) rfl
  | k + 3, hk => exact absurd hk (by omega)
theorem cf_6 : cf_ cl_ tb_ 6 "java/util/ArrayList" ct_6 3 cy_6 := ⟨rfl, fun w h => by
  obtain ⟨k, hk, rfl⟩ := List.mem_map.mp h
  exact cw_6 k (List.mem_range.mp hk), by decide +kernel, by decide +kernel⟩
theorem cb_6 : ∀ j, j < 3 → defaultValue (cy_6 j) = vp_V cd_6 j := by decide +kernel
theorem cw_7 : ∀ k, k < 1 → u_lay "PromiseVats$Channel" ct_7 k ∈ tb_ := by
  intro k hk
  match k, hk with
  | 0, _ => exact tb_in 192 (by decide +kernel) rfl
  | k + 1, hk => exact absurd hk (by omega)
theorem cf_7 : cf_ cl_ tb_ 7 "PromiseVats$Channel" ct_7 1 cy_7 := ⟨rfl, fun w h => by
  obtain ⟨k, hk, rfl⟩ := List.mem_map.mp h
  exact cw_7 k (List.mem_range.mp hk), by decide +kernel, by decide +kernel⟩
theorem cb_7 : ∀ j, j < 1 → defaultValue (cy_7 j) = vp_V cd_7 j := by decide +kernel
theorem cw_8 : ∀ k, k < 4 → u_lay "PromiseVats$Call" ct_8 k ∈ tb_ := by
  intro k hk
  match k, hk with
  | 0, _ => exact tb_in 295 (by decide +kernel) rfl
  | 1, _ => exact tb_in 297 (by decide +kernel) rfl
  | 2, _ => exact tb_in 299 (by decide +kernel) rfl
  | 3, _ => exact tb_in 301 (by decide +kernel) rfl
  | k + 4, hk => exact absurd hk (by omega)
theorem cf_8 : cf_ cl_ tb_ 8 "PromiseVats$Call" ct_8 4 cy_8 := ⟨rfl, fun w h => by
  obtain ⟨k, hk, rfl⟩ := List.mem_map.mp h
  exact cw_8 k (List.mem_range.mp hk), by decide +kernel, by decide +kernel⟩
theorem cb_8 : ∀ j, j < 4 → defaultValue (cy_8 j) = vp_V cd_8 j := by decide +kernel
theorem cw_9 : ∀ k, k < 5 → u_lay "PromiseVats$Message" ct_9 k ∈ tb_ := by
  intro k hk
  match k, hk with
  | 0, _ => exact tb_in 393 (by decide +kernel) rfl
  | 1, _ => exact tb_in 395 (by decide +kernel) rfl
  | 2, _ => exact tb_in 397 (by decide +kernel) rfl
  | 3, _ => exact tb_in 399 (by decide +kernel) rfl
  | 4, _ => exact tb_in 401 (by decide +kernel) rfl
  | k + 5, hk => exact absurd hk (by omega)
theorem cf_9 : cf_ cl_ tb_ 9 "PromiseVats$Message" ct_9 5 cy_9 := ⟨rfl, fun w h => by
  obtain ⟨k, hk, rfl⟩ := List.mem_map.mp h
  exact cw_9 k (List.mem_range.mp hk), by decide +kernel, by decide +kernel⟩
theorem cb_9 : ∀ j, j < 5 → defaultValue (cy_9 j) = vp_V cd_9 j := by decide +kernel
theorem cw_10 : ∀ k, k < 36 → u_lay "PromiseVatsModel" ct_10 k ∈ tb_ := by
  intro k hk
  match k, hk with
  | 0, _ => exact tb_in 682 (by decide +kernel) rfl
  | 1, _ => exact tb_in 684 (by decide +kernel) rfl
  | 2, _ => exact tb_in 686 (by decide +kernel) rfl
  | 3, _ => exact tb_in 688 (by decide +kernel) rfl
  | 4, _ => exact tb_in 690 (by decide +kernel) rfl
  | 5, _ => exact tb_in 692 (by decide +kernel) rfl
  | 6, _ => exact tb_in 694 (by decide +kernel) rfl
  | 7, _ => exact tb_in 696 (by decide +kernel) rfl
  | 8, _ => exact tb_in 698 (by decide +kernel) rfl
  | 9, _ => exact tb_in 700 (by decide +kernel) rfl
  | 10, _ => exact tb_in 702 (by decide +kernel) rfl
  | 11, _ => exact tb_in 704 (by decide +kernel) rfl
  | 12, _ => exact tb_in 706 (by decide +kernel) rfl
  | 13, _ => exact tb_in 708 (by decide +kernel) rfl
  | 14, _ => exact tb_in 710 (by decide +kernel) rfl
  | 15, _ => exact tb_in 712 (by decide +kernel) rfl
  | 16, _ => exact tb_in 714 (by decide +kernel) rfl
  | 17, _ => exact tb_in 716 (by decide +kernel) rfl
  | 18, _ => exact tb_in 718 (by decide +kernel) rfl
  | 19, _ => exact tb_in 720 (by decide +kernel) rfl
  | 20, _ => exact tb_in 722 (by decide +kernel) rfl
  | 21, _ => exact tb_in 724 (by decide +kernel) rfl
  | 22, _ => exact tb_in 726 (by decide +kernel) rfl
  | 23, _ => exact tb_in 728 (by decide +kernel) rfl
  | 24, _ => exact tb_in 730 (by decide +kernel) rfl
  | 25, _ => exact tb_in 732 (by decide +kernel) rfl
  | 26, _ => exact tb_in 734 (by decide +kernel) rfl
  | 27, _ => exact tb_in 736 (by decide +kernel) rfl
  | 28, _ => exact tb_in 738 (by decide +kernel) rfl
  | 29, _ => exact tb_in 740 (by decide +kernel) rfl
  | 30, _ => exact tb_in 742 (by decide +kernel) rfl
  | 31, _ => exact tb_in 744 (by decide +kernel) rfl
  | 32, _ => exact tb_in 746 (by decide +kernel) rfl
  | 33, _ => exact tb_in 748 (by decide +kernel) rfl
  | 34, _ => exact tb_in 750 (by decide +kernel) rfl
  | 35, _ => exact tb_in 752 (by decide +kernel) rfl
  | k + 36, hk => exact absurd hk (by omega)
theorem cf_10 : cf_ cl_ tb_ 10 "PromiseVatsModel" ct_10 36 cy_10 := ⟨rfl, fun w h => by
  obtain ⟨k, hk, rfl⟩ := List.mem_map.mp h
  exact cw_10 k (List.mem_range.mp hk), by decide +kernel, by decide +kernel⟩
theorem cb_10 : ∀ j, j < 36 → defaultValue (cy_10 j) = vp_V cd_10 j := by decide +kernel
def ca_ : List (String × String) := [("PromiseVats$Promise", "PromiseVats$Promise"), ("PromiseVats$Call", "PromiseVats$Call"), ("PromiseVats$VatObject", "PromiseVats$VatObject"), ("PromiseVats$Message", "PromiseVats$Message"), ("PromiseVats", "java/lang/Object"), ("PromiseVats$Turn", "java/lang/Object"), ("PromiseVats$Program", "java/lang/Object"), ("PromiseVats$VatObject", "java/lang/Object"), ("PromiseVats$Vat", "java/lang/Object"), ("PromiseVats$Channel", "java/lang/Object"), ("PromiseVatsModel", "java/lang/Object"), ("PromiseVats$Call", "java/lang/Object"), ("PromiseVats$Message", "java/lang/Object"), ("PromiseVats$Promise", "java/lang/Object"), ("PromiseVats$Promise", "PromiseVats$Entity"), ("PromiseVats$VatObject", "PromiseVats$Entity")]
def nc_ : List (String × String) := [("PromiseVats", "PromiseVats$Promise"), ("PromiseVats$Turn", "PromiseVats$Promise"), ("PromiseVats$Program", "PromiseVats$Promise"), ("PromiseVats$VatObject", "PromiseVats$Promise"), ("PromiseVats$Vat", "PromiseVats$Promise"), ("java/util/ArrayList", "PromiseVats$Promise"), ("PromiseVats$Channel", "PromiseVats$Promise"), ("PromiseVatsModel", "PromiseVats$Promise"), ("PromiseVats$Call", "PromiseVats$Promise"), ("PromiseVats$Message", "PromiseVats$Promise"), ("PromiseVats", "PromiseVats$VatObject"), ("PromiseVats$Turn", "PromiseVats$VatObject"), ("PromiseVats$Program", "PromiseVats$VatObject"), ("PromiseVats$Vat", "PromiseVats$VatObject"), ("java/util/ArrayList", "PromiseVats$VatObject"), ("PromiseVats$Channel", "PromiseVats$VatObject"), ("PromiseVatsModel", "PromiseVats$VatObject"), ("PromiseVats$Call", "PromiseVats$VatObject"), ("PromiseVats$Message", "PromiseVats$VatObject"), ("PromiseVats$Promise", "PromiseVats$VatObject")]
def ao_ : List String := ["PromiseVats$Vat", "PromiseVats$Program", "PromiseVats$Entity", "PromiseVats$Promise", "PromiseVats$Channel", "java/lang/Object"]
def nl_ : List (String × Nat × MethodName × String) := [("PromiseVats", 38, ⟨"PromiseVats$Turn", "<init>", "()V"⟩, "PromiseVats"), ("PromiseVats", 52, ⟨"PromiseVats$Program", "<init>", "()V"⟩, "PromiseVats"), ("PromiseVats$Vat", 32, ⟨"PromiseVats$Channel", "<init>", "()V"⟩, "PromiseVats")]
/-- what is fixed at the start: the empty row of all empty lists, the class object of Object[], the script's cell, its length, its ints -/
abbrev gl_T : Type := Nat × Nat × Nat × Nat × (Nat → Int32)
def kn_ (D : va_G) (ac : Nat → ClassId) (a0 : Nat) (gl : gl_T) (U : State) : Prop :=
  va_K D cl_ (ty_ ac) U ∧ (∀ q ∈ ca_, va_Nw (.castable q.1 q.2) U) ∧ (∀ q ∈ nc_, va_Nc q.1 q.2 U) ∧ (∀ C ∈ ao_, va_AO C U) ∧ (∀ q ∈ nl_, va_Nw (.methodLinkNest q.1 q.2.1 q.2.2.1 q.2.2.2) U) ∧
  va_Z "java/util/ArrayList" "DEFAULTCAPACITY_EMPTY_ELEMENTDATA" "[Ljava/lang/Object;" (.ref gl.1) (fun q => a0 ≤ q) U U.heap ∧ va_T (.object "java/lang/Object") gl.1 0 (fun _ => .null) (fun q => a0 ≤ q) U U.heap ∧
  va_Mi "[Ljava/lang/Object;" gl.2.1 U ∧ va_Dc U ∧ va_X gl.2.2.1 gl.2.2.2.1 gl.2.2.2.2 U U.heap ∧ gl.2.2.1 < a0 ∧ a0 ≤ U.heap.size
theorem kn_go {D : va_G} {ac : Nat → ClassId} {a0 : Nat} {gl : gl_T} {u U : State} (h : kn_ D ac a0 gl u) (hal : u.vm.Alike U.vm) (hc : ∀ q ∈ ca_, va_Nw (.castable q.1 q.2) u → va_Nw (.castable q.1 q.2) U) (hn : ∀ q ∈ nl_, va_Nw (.methodLinkNest q.1 q.2.1 q.2.2.1 q.2.2.2) u → va_Nw (.methodLinkNest q.1 q.2.1 q.2.2.1 q.2.2.2) U)
    (hH : ∀ q : Nat, q < u.heap.size → ¬ a0 ≤ q → U.heap[q]? = u.heap[q]?) (hz : u.heap.size ≤ U.heap.size) : kn_ D ac a0 gl U := by
  obtain ⟨k1, k2, k3, k4, k5, k6, k7, k8, k9, k10, k11, k12⟩ := h
  exact ⟨k1.moved hal, fun q hq => hc q hq (k2 q hq), fun q hq => (k3 q hq).moved hal, fun C hC => (k4 C hC).moved hal, fun q hq => hn q hq (k5 q hq), (k6.moved hal).kept hH, (k7.moved hal).kept hH, k8.moved hal, k9.moved hal, (k10.moved hal).kept (hH _ (by omega) (by omega)), k11, by omega⟩
theorem kn_ok (D : va_G) (ac : Nat → ClassId) (a0 : Nat) (gl : gl_T) : kk_ D cl_ (ty_ ac) a0 (kn_ D ac a0 gl) := by
  refine ⟨fun U h => h.1, fun a U g mk h => ?_, fun s U H locs h hS hU hW => ?_⟩
  · exact kn_go h (Vm.Alike.refl U.vm) (fun q _ z => va_Nw.same rfl rfl z) (fun q _ z => va_Nw.same rfl rfl z) (fun q _ _ => rfl) (Nat.le_refl _)
  · subst hU
    exact kn_go h hW.alike (fun q _ z => va_Nw.warmC hW z) (fun q _ z => va_Nw.warmM hW z) hS.2.1 hS.1
