/-! THE TABLES' WORDS that stay (T0), and the classes of the worlds (own program: gen02.py) -/
def T0 : List Cond := lw_tbl.filter goodWord
theorem T0_of {w : Cond} (i : Nat) (h : tables_1[i]? = some w) (hg : goodWord w = true) : w ∈ T0 := List.mem_filter.mpr ⟨List.mem_append_right _ (List.mem_of_getElem? h), hg⟩
theorem T0_sel {q : MethodName × Nat} (h : q ∈ lw_privs) : Cond.selects q.1.cls q.1 q.1 ∈ T0 := List.mem_filter.mpr ⟨List.mem_append_left _ (List.mem_map.mpr ⟨q, h, rfl⟩), rfl⟩
theorem T0_sub {ws : List Cond} (ps : List Nat) (hp : ws = ps.filterMap (fun i => tables_1[i]?)) (hg : ws.all goodWord = true) : ∀ w ∈ ws, w ∈ T0 := by
  intro w hw
  have h1 := List.all_eq_true.mp hg w hw
  rw [hp] at hw
  obtain ⟨i, -, hi⟩ := List.mem_filterMap.mp hw
  exact T0_of i hi h1
theorem T0_good : GoodIn T0 T0 := fun w hw => ⟨hw, good_of_word (List.mem_filter.mp hw).2⟩
theorem T0_hts {args : Array Value} {s : State} (h : ∀ w ∈ lw_tbl, w.before args s = true) : ∀ w ∈ T0, w.before args s = true := fun w hw => h w (List.mem_filter.mp hw).1
def kR0 : String := "TemperCellar$Cellar"
def kF0 : u_T := fun k => match k with
  | 0 => ("TemperCellar$Cellar", "year", "I", false)
  | 1 => ("TemperCellar$Cellar", "last", "J", false)
  | 2 => ("TemperCellar$Cellar", "thunders", "I", false)
  | 3 => ("TemperCellar$Cellar", "bin", "[I", true)
  | 4 => ("TemperCellar$Cellar", "force", "[I", true)
  | 5 => ("TemperCellar$Cellar", "cork", "[I", true)
  | 6 => ("TemperCellar$Cellar", "state", "[I", true)
  | 7 => ("TemperCellar$Cellar", "opener", "[I", true)
  | 8 => ("TemperCellar$Cellar", "met", "[I", true)
  | 9 => ("TemperCellar$Cellar", "hates", "[I", true)
  | 10 => ("TemperCellar$Cellar", "haters", "[I", true)
  | _ => ("TemperCellar$Cellar", "load", "[I", true)
def kt0 : Nat → FieldType := fun k => match k with
  | 0 => .int
  | 1 => .long
  | 2 => .int
  | 3 => (.array .int)
  | 4 => (.array .int)
  | 5 => (.array .int)
  | 6 => (.array .int)
  | 7 => (.array .int)
  | 8 => (.array .int)
  | 9 => (.array .int)
  | 10 => (.array .int)
  | _ => (.array .int)
theorem kn0 : ∀ a, a < 12 → ∀ b, b < 12 → a ≠ b → (kF0 a).2.1 ≠ (kF0 b).2.1 := by decide +kernel
theorem kto0 : ∀ k, k < 12 → parseFieldDescriptor (kF0 k).2.2.1 = some (kt0 k) := by decide +kernel
set_option maxRecDepth 20000 in
theorem ki0 : ∀ w ∈ u_ws kR0 kF0 12, w ∈ T0 := T0_sub [288, 290, 292, 294, 296, 298, 300, 302, 304, 306, 308, 310] (by decide +kernel) (by decide +kernel)
def kR1 : String := "TemperCellar$Laws"
def kF1 : u_T := fun k => match k with
  | 0 => ("TemperCellar$Laws", "from", "[I", true)
  | 1 => ("TemperCellar$Laws", "to", "[I", true)
  | 2 => ("TemperCellar$Laws", "sign", "[I", true)
  | 3 => ("TemperCellar$Laws", "number", "[I", true)
  | 4 => ("TemperCellar$Laws", "length", "I", false)
  | _ => ("TemperCellar$Laws", "knots", "I", false)
def kt1 : Nat → FieldType := fun k => match k with
  | 0 => (.array .int)
  | 1 => (.array .int)
  | 2 => (.array .int)
  | 3 => (.array .int)
  | 4 => .int
  | _ => .int
theorem kn1 : ∀ a, a < 6 → ∀ b, b < 6 → a ≠ b → (kF1 a).2.1 ≠ (kF1 b).2.1 := by decide +kernel
theorem kto1 : ∀ k, k < 6 → parseFieldDescriptor (kF1 k).2.2.1 = some (kt1 k) := by decide +kernel
set_option maxRecDepth 20000 in
theorem ki1 : ∀ w ∈ u_ws kR1 kF1 6, w ∈ T0 := T0_sub [67, 69, 71, 73, 75, 77] (by decide +kernel) (by decide +kernel)
def kR2 : String := "TemperCellar$Reader"
def kF2 : u_T := fun k => match k with
  | 0 => ("TemperCellar$Reader", "tokens", "LTemperCellar$Tokens;", true)
  | 1 => ("TemperCellar$Reader", "at", "I", false)
  | 2 => ("TemperCellar$Reader", "told", "LTemperCellar$Told;", false)
  | 3 => ("TemperCellar$Reader", "isThunderTold", "Z", false)
  | 4 => ("TemperCellar$Reader", "isSeedTold", "Z", false)
  | 5 => ("TemperCellar$Reader", "fault", "I", false)
  | _ => ("TemperCellar$Reader", "faultPlace", "I", false)
def kt2 : Nat → FieldType := fun k => match k with
  | 0 => (.object "TemperCellar$Tokens")
  | 1 => .int
  | 2 => (.object "TemperCellar$Told")
  | 3 => .boolean
  | 4 => .boolean
  | 5 => .int
  | _ => .int
theorem kn2 : ∀ a, a < 7 → ∀ b, b < 7 → a ≠ b → (kF2 a).2.1 ≠ (kF2 b).2.1 := by decide +kernel
theorem kto2 : ∀ k, k < 7 → parseFieldDescriptor (kF2 k).2.2.1 = some (kt2 k) := by decide +kernel
set_option maxRecDepth 20000 in
theorem ki2 : ∀ w ∈ u_ws kR2 kF2 7, w ∈ T0 := T0_sub [231, 233, 235, 237, 239, 241, 243] (by decide +kernel) (by decide +kernel)
def kR3 : String := "TemperCellar$Seen"
def kF3 : u_T := fun k => match k with
  | 0 => ("TemperCellar$Seen", "count", "I", false)
  | 1 => ("TemperCellar$Seen", "knownBy", "I", false)
  | 2 => ("TemperCellar$Seen", "years", "[I", true)
  | 3 => ("TemperCellar$Seen", "bottle", "[I", true)
  | 4 => ("TemperCellar$Seen", "isOff", "[Z", true)
  | 5 => ("TemperCellar$Seen", "strikes", "[I", true)
  | 6 => ("TemperCellar$Seen", "isStruck", "[Z", true)
  | _ => ("TemperCellar$Seen", "isKnown", "[Z", true)
def kt3 : Nat → FieldType := fun k => match k with
  | 0 => .int
  | 1 => .int
  | 2 => (.array .int)
  | 3 => (.array .int)
  | 4 => (.array .boolean)
  | 5 => (.array .int)
  | 6 => (.array .boolean)
  | _ => (.array .boolean)
theorem kn3 : ∀ a, a < 8 → ∀ b, b < 8 → a ≠ b → (kF3 a).2.1 ≠ (kF3 b).2.1 := by decide +kernel
theorem kto3 : ∀ k, k < 8 → parseFieldDescriptor (kF3 k).2.2.1 = some (kt3 k) := by decide +kernel
set_option maxRecDepth 20000 in
theorem ki3 : ∀ w ∈ u_ws kR3 kF3 8, w ∈ T0 := T0_sub [380, 382, 384, 386, 388, 390, 392, 394] (by decide +kernel) (by decide +kernel)
def kR4 : String := "TemperCellar$Service"
def kF4 : u_T := fun k => match k with
  | 0 => ("TemperCellar$Service", "told", "LTemperCellar$Told;", false)
  | 1 => ("TemperCellar$Service", "cellar", "LTemperCellar$Cellar;", false)
  | 2 => ("TemperCellar$Service", "most", "I", false)
  | _ => ("TemperCellar$Service", "bottleOf", "[I", true)
def kt4 : Nat → FieldType := fun k => match k with
  | 0 => (.object "TemperCellar$Told")
  | 1 => (.object "TemperCellar$Cellar")
  | 2 => .int
  | _ => (.array .int)
theorem kn4 : ∀ a, a < 4 → ∀ b, b < 4 → a ≠ b → (kF4 a).2.1 ≠ (kF4 b).2.1 := by decide +kernel
theorem kto4 : ∀ k, k < 4 → parseFieldDescriptor (kF4 k).2.2.1 = some (kt4 k) := by decide +kernel
set_option maxRecDepth 20000 in
theorem ki4 : ∀ w ∈ u_ws kR4 kF4 4, w ∈ T0 := T0_sub [410, 412, 414, 416] (by decide +kernel) (by decide +kernel)
def kR5 : String := "TemperCellar$Tokens"
def kF5 : u_T := fun k => match k with
  | 0 => ("TemperCellar$Tokens", "tape", "[B", true)
  | 1 => ("TemperCellar$Tokens", "kind", "[I", true)
  | 2 => ("TemperCellar$Tokens", "place", "[I", true)
  | 3 => ("TemperCellar$Tokens", "value", "[I", true)
  | 4 => ("TemperCellar$Tokens", "length", "I", false)
  | _ => ("TemperCellar$Tokens", "at", "I", false)
def kt5 : Nat → FieldType := fun k => match k with
  | 0 => (.array .byte)
  | 1 => (.array .int)
  | 2 => (.array .int)
  | 3 => (.array .int)
  | 4 => .int
  | _ => .int
theorem kn5 : ∀ a, a < 6 → ∀ b, b < 6 → a ≠ b → (kF5 a).2.1 ≠ (kF5 b).2.1 := by decide +kernel
theorem kto5 : ∀ k, k < 6 → parseFieldDescriptor (kF5 k).2.2.1 = some (kt5 k) := by decide +kernel
set_option maxRecDepth 20000 in
theorem ki5 : ∀ w ∈ u_ws kR5 kF5 6, w ∈ T0 := T0_sub [203, 205, 207, 209, 211, 213] (by decide +kernel) (by decide +kernel)
def kR6 : String := "TemperCellar$Told"
def kF6 : u_T := fun k => match k with
  | 0 => ("TemperCellar$Told", "people", "I", false)
  | 1 => ("TemperCellar$Told", "personName", "[I", true)
  | 2 => ("TemperCellar$Told", "hot", "[I", true)
  | 3 => ("TemperCellar$Told", "bottles", "I", false)
  | 4 => ("TemperCellar$Told", "bottleName", "[I", true)
  | 5 => ("TemperCellar$Told", "whose", "[I", true)
  | 6 => ("TemperCellar$Told", "atWhom", "[I", true)
  | 7 => ("TemperCellar$Told", "bin", "[I", true)
  | 8 => ("TemperCellar$Told", "force", "[I", true)
  | 9 => ("TemperCellar$Told", "cork", "[I", true)
  | 10 => ("TemperCellar$Told", "needs", "I", false)
  | 11 => ("TemperCellar$Told", "needOf", "[I", true)
  | 12 => ("TemperCellar$Told", "needYear", "[I", true)
  | 13 => ("TemperCellar$Told", "needFrom", "[I", true)
  | 14 => ("TemperCellar$Told", "needTo", "[I", true)
  | 15 => ("TemperCellar$Told", "thunder", "I", false)
  | 16 => ("TemperCellar$Told", "seed", "I", false)
  | _ => ("TemperCellar$Told", "laws", "LTemperCellar$Laws;", true)
def kt6 : Nat → FieldType := fun k => match k with
  | 0 => .int
  | 1 => (.array .int)
  | 2 => (.array .int)
  | 3 => .int
  | 4 => (.array .int)
  | 5 => (.array .int)
  | 6 => (.array .int)
  | 7 => (.array .int)
  | 8 => (.array .int)
  | 9 => (.array .int)
  | 10 => .int
  | 11 => (.array .int)
  | 12 => (.array .int)
  | 13 => (.array .int)
  | 14 => (.array .int)
  | 15 => .int
  | 16 => .int
  | _ => (.object "TemperCellar$Laws")
theorem kn6 : ∀ a, a < 18 → ∀ b, b < 18 → a ≠ b → (kF6 a).2.1 ≠ (kF6 b).2.1 := by decide +kernel
theorem kto6 : ∀ k, k < 18 → parseFieldDescriptor (kF6 k).2.2.1 = some (kt6 k) := by decide +kernel
set_option maxRecDepth 20000 in
theorem ki6 : ∀ w ∈ u_ws kR6 kF6 18, w ∈ T0 := T0_sub [151, 153, 155, 157, 159, 161, 163, 165, 167, 169, 171, 173, 175, 177, 179, 181, 183, 185] (by decide +kernel) (by decide +kernel)
def kR7 : String := "TemperCellar$Undos"
def kF7 : u_T := fun k => match k with
  | 0 => ("TemperCellar$Undos", "count", "I", false)
  | 1 => ("TemperCellar$Undos", "deed", "[I", true)
  | 2 => ("TemperCellar$Undos", "bottle", "[I", true)
  | _ => ("TemperCellar$Undos", "before", "[I", true)
def kt7 : Nat → FieldType := fun k => match k with
  | 0 => .int
  | 1 => (.array .int)
  | 2 => (.array .int)
  | _ => (.array .int)
theorem kn7 : ∀ a, a < 4 → ∀ b, b < 4 → a ≠ b → (kF7 a).2.1 ≠ (kF7 b).2.1 := by decide +kernel
theorem kto7 : ∀ k, k < 4 → parseFieldDescriptor (kF7 k).2.2.1 = some (kt7 k) := by decide +kernel
set_option maxRecDepth 20000 in
theorem ki7 : ∀ w ∈ u_ws kR7 kF7 4, w ∈ T0 := T0_sub [355, 357, 359, 361] (by decide +kernel) (by decide +kernel)
def kR8 : String := "TemperCellar$Years"
def kF8 : u_T := fun k => match k with
  | 0 => ("TemperCellar$Years", "told", "LTemperCellar$Told;", false)
  | 1 => ("TemperCellar$Years", "cellar", "LTemperCellar$Cellar;", false)
  | 2 => ("TemperCellar$Years", "thunderBy", "I", false)
  | 3 => ("TemperCellar$Years", "setsOff", "Z", false)
  | 4 => ("TemperCellar$Years", "ages", "Z", false)
  | 5 => ("TemperCellar$Years", "queue", "[I", true)
  | _ => ("TemperCellar$Years", "stack", "[J", true)
def kt8 : Nat → FieldType := fun k => match k with
  | 0 => (.object "TemperCellar$Told")
  | 1 => (.object "TemperCellar$Cellar")
  | 2 => .int
  | 3 => .boolean
  | 4 => .boolean
  | 5 => (.array .int)
  | _ => (.array .long)
theorem kn8 : ∀ a, a < 7 → ∀ b, b < 7 → a ≠ b → (kF8 a).2.1 ≠ (kF8 b).2.1 := by decide +kernel
theorem kto8 : ∀ k, k < 7 → parseFieldDescriptor (kF8 k).2.2.1 = some (kt8 k) := by decide +kernel
set_option maxRecDepth 20000 in
theorem ki8 : ∀ w ∈ u_ws kR8 kF8 7, w ∈ T0 := T0_sub [328, 330, 332, 334, 336, 338, 340] (by decide +kernel) (by decide +kernel)
def kR9 : String := "TemperCellar"
def kF9 : u_T := fun k => match k with
  | 0 => ("TemperCellar", "tape", "[B", true)
  | 1 => ("TemperCellar", "tapeLength", "I", false)
  | 2 => ("TemperCellar", "told", "LTemperCellar$Told;", false)
  | 3 => ("TemperCellar", "spare", "LTemperCellar$Told;", false)
  | 4 => ("TemperCellar", "tokens", "LTemperCellar$Tokens;", true)
  | 5 => ("TemperCellar", "reader", "LTemperCellar$Reader;", true)
  | 6 => ("TemperCellar", "now", "LTemperCellar$Cellar;", true)
  | 7 => ("TemperCellar", "image", "LTemperCellar$Cellar;", true)
  | 8 => ("TemperCellar", "hasImage", "Z", false)
  | 9 => ("TemperCellar", "trial", "LTemperCellar$Cellar;", true)
  | 10 => ("TemperCellar", "years", "LTemperCellar$Years;", true)
  | 11 => ("TemperCellar", "undos", "LTemperCellar$Undos;", true)
  | 12 => ("TemperCellar", "seen", "LTemperCellar$Seen;", true)
  | 13 => ("TemperCellar", "service", "LTemperCellar$Service;", true)
  | _ => ("TemperCellar", "racked", "[I", true)
def kt9 : Nat → FieldType := fun k => match k with
  | 0 => (.array .byte)
  | 1 => .int
  | 2 => (.object "TemperCellar$Told")
  | 3 => (.object "TemperCellar$Told")
  | 4 => (.object "TemperCellar$Tokens")
  | 5 => (.object "TemperCellar$Reader")
  | 6 => (.object "TemperCellar$Cellar")
  | 7 => (.object "TemperCellar$Cellar")
  | 8 => .boolean
  | 9 => (.object "TemperCellar$Cellar")
  | 10 => (.object "TemperCellar$Years")
  | 11 => (.object "TemperCellar$Undos")
  | 12 => (.object "TemperCellar$Seen")
  | 13 => (.object "TemperCellar$Service")
  | _ => (.array .int)
theorem kn9 : ∀ a, a < 15 → ∀ b, b < 15 → a ≠ b → (kF9 a).2.1 ≠ (kF9 b).2.1 := by decide +kernel
theorem kto9 : ∀ k, k < 15 → parseFieldDescriptor (kF9 k).2.2.1 = some (kt9 k) := by decide +kernel
set_option maxRecDepth 20000 in
theorem ki9 : ∀ w ∈ u_ws kR9 kF9 15, w ∈ T0 := T0_sub [443, 445, 447, 449, 451, 453, 455, 457, 459, 461, 463, 465, 467, 469, 471] (by decide +kernel) (by decide +kernel)
def kR10 : String := "TemperCellarModel"
def kF10 : u_T := fun k => match k with
  | 0 => ("TemperCellarModel", "thrown", "I", false)
  | 1 => ("TemperCellarModel", "tape", "[I", true)
  | 2 => ("TemperCellarModel", "taped", "I", false)
  | 3 => ("TemperCellarModel", "number", "[I", true)
  | 4 => ("TemperCellarModel", "manName", "[I", true)
  | 5 => ("TemperCellarModel", "hotOf", "[I", true)
  | 6 => ("TemperCellarModel", "bottleName", "[I", true)
  | 7 => ("TemperCellarModel", "ownerOf", "[I", true)
  | 8 => ("TemperCellarModel", "atOf", "[I", true)
  | 9 => ("TemperCellarModel", "binAs", "[I", true)
  | 10 => ("TemperCellarModel", "forceAs", "[I", true)
  | 11 => ("TemperCellarModel", "corkAs", "[I", true)
  | 12 => ("TemperCellarModel", "needMan", "[I", true)
  | 13 => ("TemperCellarModel", "needYear", "[I", true)
  | 14 => ("TemperCellarModel", "needFrom", "[I", true)
  | 15 => ("TemperCellarModel", "needTo", "[I", true)
  | 16 => ("TemperCellarModel", "sumFrom", "[I", true)
  | 17 => ("TemperCellarModel", "sumTo", "[I", true)
  | 18 => ("TemperCellarModel", "knotSort", "[I", true)
  | 19 => ("TemperCellarModel", "knotValue", "[I", true)
  | 20 => ("TemperCellarModel", "told", "I", false)
  | 21 => ("TemperCellarModel", "lines", "I", false)
  | 22 => ("TemperCellarModel", "size", "I", false)
  | 23 => ("TemperCellarModel", "at", "I", false)
  | 24 => ("TemperCellarModel", "place", "I", false)
  | 25 => ("TemperCellarModel", "sort", "I", false)
  | 26 => ("TemperCellarModel", "value", "I", false)
  | 27 => ("TemperCellarModel", "fault", "I", false)
  | 28 => ("TemperCellarModel", "faultPlace", "I", false)
  | 29 => ("TemperCellarModel", "lastFault", "I", false)
  | 30 => ("TemperCellarModel", "lastPlace", "I", false)
  | 31 => ("TemperCellarModel", "open", "I", false)
  | 32 => ("TemperCellarModel", "counted", "I", false)
  | 33 => ("TemperCellarModel", "names", "[J", true)
  | 34 => ("TemperCellarModel", "worked", "[J", true)
  | 35 => ("TemperCellarModel", "workedMany", "I", false)
  | 36 => ("TemperCellarModel", "year", "[I", true)
  | 37 => ("TemperCellarModel", "drawn", "[I", true)
  | 38 => ("TemperCellarModel", "thunders", "[I", true)
  | 39 => ("TemperCellarModel", "hates", "[I", true)
  | 40 => ("TemperCellarModel", "forceOf", "[I", true)
  | 41 => ("TemperCellarModel", "corkOf", "[I", true)
  | 42 => ("TemperCellarModel", "binOf", "[I", true)
  | 43 => ("TemperCellarModel", "howOf", "[I", true)
  | 44 => ("TemperCellarModel", "openedBy", "[I", true)
  | 45 => ("TemperCellarModel", "outcome", "[I", true)
  | 46 => ("TemperCellarModel", "hasImage", "Z", false)
  | 47 => ("TemperCellarModel", "undoMany", "I", false)
  | 48 => ("TemperCellarModel", "tryWhat", "I", false)
  | 49 => ("TemperCellarModel", "queue", "[I", true)
  | 50 => ("TemperCellarModel", "racked", "[I", true)
  | 51 => ("TemperCellarModel", "rackedMany", "I", false)
  | 52 => ("TemperCellarModel", "rackLeast", "I", false)
  | 53 => ("TemperCellarModel", "rackCode", "I", false)
  | 54 => ("TemperCellarModel", "toCome", "[I", true)
  | 55 => ("TemperCellarModel", "comeMany", "I", false)
  | 56 => ("TemperCellarModel", "canServe", "[I", true)
  | 57 => ("TemperCellarModel", "notes", "I", false)
  | 58 => ("TemperCellarModel", "knownBy", "I", false)
  | 59 => ("TemperCellarModel", "noteYears", "[I", true)
  | 60 => ("TemperCellarModel", "noteBottle", "[I", true)
  | 61 => ("TemperCellarModel", "noteOff", "[Z", true)
  | 62 => ("TemperCellarModel", "outs", "[I", true)
  | _ => ("TemperCellarModel", "isOut", "[Z", true)
def kt10 : Nat → FieldType := fun k => match k with
  | 0 => .int
  | 1 => (.array .int)
  | 2 => .int
  | 3 => (.array .int)
  | 4 => (.array .int)
  | 5 => (.array .int)
  | 6 => (.array .int)
  | 7 => (.array .int)
  | 8 => (.array .int)
  | 9 => (.array .int)
  | 10 => (.array .int)
  | 11 => (.array .int)
  | 12 => (.array .int)
  | 13 => (.array .int)
  | 14 => (.array .int)
  | 15 => (.array .int)
  | 16 => (.array .int)
  | 17 => (.array .int)
  | 18 => (.array .int)
  | 19 => (.array .int)
  | 20 => .int
  | 21 => .int
  | 22 => .int
  | 23 => .int
  | 24 => .int
  | 25 => .int
  | 26 => .int
  | 27 => .int
  | 28 => .int
  | 29 => .int
  | 30 => .int
  | 31 => .int
  | 32 => .int
  | 33 => (.array .long)
  | 34 => (.array .long)
  | 35 => .int
  | 36 => (.array .int)
  | 37 => (.array .int)
  | 38 => (.array .int)
  | 39 => (.array .int)
  | 40 => (.array .int)
  | 41 => (.array .int)
  | 42 => (.array .int)
  | 43 => (.array .int)
  | 44 => (.array .int)
  | 45 => (.array .int)
  | 46 => .boolean
  | 47 => .int
  | 48 => .int
  | 49 => (.array .int)
  | 50 => (.array .int)
  | 51 => .int
  | 52 => .int
  | 53 => .int
  | 54 => (.array .int)
  | 55 => .int
  | 56 => (.array .int)
  | 57 => .int
  | 58 => .int
  | 59 => (.array .int)
  | 60 => (.array .int)
  | 61 => (.array .boolean)
  | 62 => (.array .int)
  | _ => (.array .boolean)
theorem kn10 : ∀ a, a < 64 → ∀ b, b < 64 → a ≠ b → (kF10 a).2.1 ≠ (kF10 b).2.1 := by decide +kernel
theorem kto10 : ∀ k, k < 64 → parseFieldDescriptor (kF10 k).2.2.1 = some (kt10 k) := by decide +kernel
set_option maxRecDepth 20000 in
theorem ki10 : ∀ w ∈ u_ws kR10 kF10 64, w ∈ T0 := T0_sub [1290, 1292, 1294, 1296, 1298, 1300, 1302, 1304, 1306, 1308, 1310, 1312, 1314, 1316, 1318, 1320, 1322, 1324, 1326, 1328, 1330, 1332, 1334, 1336, 1338, 1340, 1342, 1344, 1346, 1348, 1350, 1352, 1354, 1356, 1358, 1360, 1362, 1364, 1366, 1368, 1370, 1372, 1374, 1376, 1378, 1380, 1382, 1384, 1386, 1388, 1390, 1392, 1394, 1396, 1398, 1400, 1402, 1404, 1406, 1408, 1410, 1412, 1414, 1416] (by decide +kernel) (by decide +kernel)
def cls0 : List vw_C := [(kR0, kF0, 12), (kR1, kF1, 6), (kR2, kF2, 7), (kR3, kF3, 8), (kR4, kF4, 4), (kR5, kF5, 6), (kR6, kF6, 18), (kR7, kF7, 4), (kR8, kF8, 7), (kR9, kF9, 15), (kR10, kF10, 64)]
/-- of the ci-th class: its words are there, its fields have types and different names -/
def kOk (ci : Nat) (C : String) (T : u_T) (N : Nat) (ty : Nat → FieldType) : Prop := cls0[ci]? = some (C, T, N) ∧ (∀ w ∈ u_ws C T N, w ∈ T0) ∧ (∀ k, k < N → parseFieldDescriptor (T k).2.2.1 = some (ty k)) ∧ ∀ a, a < N → ∀ b, b < N → a ≠ b → (T a).2.1 ≠ (T b).2.1
theorem ko0 : kOk 0 kR0 kF0 12 kt0 := ⟨rfl, ki0, kto0, kn0⟩
theorem ko1 : kOk 1 kR1 kF1 6 kt1 := ⟨rfl, ki1, kto1, kn1⟩
theorem ko2 : kOk 2 kR2 kF2 7 kt2 := ⟨rfl, ki2, kto2, kn2⟩
theorem ko3 : kOk 3 kR3 kF3 8 kt3 := ⟨rfl, ki3, kto3, kn3⟩
theorem ko4 : kOk 4 kR4 kF4 4 kt4 := ⟨rfl, ki4, kto4, kn4⟩
theorem ko5 : kOk 5 kR5 kF5 6 kt5 := ⟨rfl, ki5, kto5, kn5⟩
theorem ko6 : kOk 6 kR6 kF6 18 kt6 := ⟨rfl, ki6, kto6, kn6⟩
theorem ko7 : kOk 7 kR7 kF7 4 kt7 := ⟨rfl, ki7, kto7, kn7⟩
theorem ko8 : kOk 8 kR8 kF8 7 kt8 := ⟨rfl, ki8, kto8, kn8⟩
theorem ko9 : kOk 9 kR9 kF9 15 kt9 := ⟨rfl, ki9, kto9, kn9⟩
theorem ko10 : kOk 10 kR10 kF10 64 kt10 := ⟨rfl, ki10, kto10, kn10⟩
def N0 : List Cond := [.methodLinkNest "TemperCellar" 17 ⟨"TemperCellar$Told", "<init>", "()V"⟩ "TemperCellar", .methodLinkNest "TemperCellar" 45 ⟨"TemperCellar$Cellar", "<init>", "()V"⟩ "TemperCellar", .methodLinkNest "TemperCellar" 67 ⟨"TemperCellar$Undos", "<init>", "()V"⟩ "TemperCellar", .methodLinkNest "TemperCellar" 74 ⟨"TemperCellar$Seen", "<init>", "()V"⟩ "TemperCellar", .methodLinkNest "TemperCellar$Reader" 158 ⟨"TemperCellar", "isAmong", "(III)Z"⟩ "TemperCellar", .methodLinkNest "TemperCellar$Years" 167 ⟨"TemperCellar", "isAmong", "(III)Z"⟩ "TemperCellar", .methodLinkNest "TemperCellar$Service" 65 ⟨"TemperCellar", "isAmong", "(III)Z"⟩ "TemperCellar"]
set_option maxRecDepth 20000 in
theorem N0_in : ∀ w ∈ N0, w ∈ tables_1 := by
  intro w hw
  have h : N0 = [35, 248, 346, 366, 627, 874, 972].filterMap (fun i => tables_1[i]?) := by decide +kernel
  rw [h] at hw
  obtain ⟨i, -, hi⟩ := List.mem_filterMap.mp hw
  exact List.mem_of_getElem? hi
/-- the String constants: class, entry, text -/
def S0 : List (String × Nat × String) := [("TemperCellar$Tokens", 65, "man bottle need thunder seed law ages creep burst force cork hated bin hot load year or and not "), ("TemperCellar", 136, "no such bottle"), ("TemperCellar", 164, "no such what"), ("TemperCellarModel", 182, "man bottle need thunder seed law ages creep burst or and not force cork hated bin hot load year ")]
def S0len : List Nat := [96, 14, 12, 96]
def S0byt : List (List Int32) := [[109, 97, 110, 32, 98, 111, 116, 116, 108, 101, 32, 110, 101, 101, 100, 32, 116, 104, 117, 110, 100, 101, 114, 32, 115, 101, 101, 100, 32, 108, 97, 119, 32, 97, 103, 101, 115, 32, 99, 114, 101, 101, 112, 32, 98, 117, 114, 115, 116, 32, 102, 111, 114, 99, 101, 32, 99, 111, 114, 107, 32, 104, 97, 116, 101, 100, 32, 98, 105, 110, 32, 104, 111, 116, 32, 108, 111, 97, 100, 32, 121, 101, 97, 114, 32, 111, 114, 32, 97, 110, 100, 32, 110, 111, 116, 32], [110, 111, 32, 115, 117, 99, 104, 32, 98, 111, 116, 116, 108, 101], [110, 111, 32, 115, 117, 99, 104, 32, 119, 104, 97, 116], [109, 97, 110, 32, 98, 111, 116, 116, 108, 101, 32, 110, 101, 101, 100, 32, 116, 104, 117, 110, 100, 101, 114, 32, 115, 101, 101, 100, 32, 108, 97, 119, 32, 97, 103, 101, 115, 32, 99, 114, 101, 101, 112, 32, 98, 117, 114, 115, 116, 32, 111, 114, 32, 97, 110, 100, 32, 110, 111, 116, 32, 102, 111, 114, 99, 101, 32, 99, 111, 114, 107, 32, 104, 97, 116, 101, 100, 32, 98, 105, 110, 32, 104, 111, 116, 32, 108, 111, 97, 100, 32, 121, 101, 97, 114, 32]]
