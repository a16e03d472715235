/-! THE LAW'S JUDGEMENT (own; rows by program mod_r3.py): like J, in the law's own body; cells may be forgotten, places renamed -/
def LE (L : Nat) (xs : Nat → Int32) (z : Nat → Nat) (D : va_G) (aC : FieldType → ClassId) (p : Program) (l : Launch) (e : Env) (s : State) (m : MethodId) (below : List Frame) (meth : Method) (c : Code) (b : Nat) (Z : State → Prop) : Prop :=
  p.tables.exec = Jvm.exec ∧ c.code = code ∧ meth.sig.returnType = ret ∧ c.maxLocals = 7 ∧ s.vm.findClass "TemperCellarLaw" = some m.cls ∧ (∀ w ∈ T0, w.before #[.ref b] s = true) ∧ meth.locks = false ∧ (EX z (fun q => s.heap.size ≤ q) s ∧ EX2 (fun q => s.heap.size ≤ q) s) ∧ va_K D cls0 (tys aC) s ∧ va_X b L xs s s.heap ∧ b < s.heap.size ∧ z 1000 = b ∧ l.flags = flags0 ∧
  ∀ (H : Heap) (pc : Nat) (ls : Array Slot), decode code pc = .ok (.ireturn, 1) → W p l e room_1 s m #[.ref b] below meth c H [] 601024 7293034 Z (F0 m pc ls [.int 1])
def JL (L : Nat) (xs : Nat → Int32) (pc : Nat) (ls : List (Nat × Value)) (st : List Value) (w : List EC) (k n : Nat) : Prop :=
  ∀ (z : Nat → Nat) (D : va_G) (aC : FieldType → ClassId) (p : Program) (l : Launch) (e : Env) (s : State) (m : MethodId) (below : List Frame) (meth : Method) (c : Code) (H : Heap) (locs : List Loc) (lsA : Array Slot) (ad : Nat → Nat) (b : Nat) (Z : State → Prop),
    LE L xs z D aC p l e s m below meth c b Z → lv_has lsA 7 (cl z ad ls) → va_P D cls0 (cw z aC ad w) H → DD (fun q => s.heap.size ≤ q) ad w.length → va_S (fun q => s.heap.size ≤ q) s.heap H locs →
    W p l e room_1 s m #[.ref b] below meth c H locs k n Z (F0 m pc lsA (st.map (cv z ad)))
section LR
variable {L : Nat} {xs : Nat → Int32} {pc k n : Nat} {ls : List (Nat × Value)} {st : List Value} {w : List EC}
theorem L_iconst {i : Int} {v : Int32} (hd : decode code pc = .ok (.iconst i, 1)) (hv : Int32.ofInt i = v) (kk : JL L xs (pc + 1) ls (.int v :: st) w k n) : JL L xs (pc) ls (st) w k n := by
  intro z D aC p l e s m below meth c H locs lsA ad b Z E hl hP hD hS
  exact lv_iconst E.1 E.2.1 hd hv (kk z D aC p l e s m below meth c H locs lsA ad b Z E hl hP hD hS)
theorem L_bipush {i : Int} {v : Int32} (hd : decode code pc = .ok (.bipush i, 2)) (hv : (Int8.ofInt i).toInt32 = v) (kk : JL L xs (pc + 2) ls (.int v :: st) w k n) : JL L xs (pc) ls (st) w k n := by
  intro z D aC p l e s m below meth c H locs lsA ad b Z E hl hP hD hS
  exact lv_bipush E.1 E.2.1 hd hv (kk z D aC p l e s m below meth c H locs lsA ad b Z E hl hP hD hS)
theorem L_sipush {i : Int} {v : Int32} (hd : decode code pc = .ok (.sipush i, 3)) (hv : (Int16.ofInt i).toInt32 = v) (kk : JL L xs (pc + 3) ls (.int v :: st) w k n) : JL L xs (pc) ls (st) w k n := by
  intro z D aC p l e s m below meth c H locs lsA ad b Z E hl hP hD hS
  exact lv_sipush E.1 E.2.1 hd hv (kk z D aC p l e s m below meth c H locs lsA ad b Z E hl hP hD hS)
theorem L_lconst {i : Fin 2} {v : Int64} (hd : decode code pc = .ok (.lconst i, 1)) (hv : Int64.ofNat (i : Nat) = v) (kk : JL L xs (pc + 1) ls (.long v :: st) w k n) : JL L xs (pc) ls (st) w k n := by
  intro z D aC p l e s m below meth c H locs lsA ad b Z E hl hP hD hS
  exact lv_lconst E.1 E.2.1 hd hv (kk z D aC p l e s m below meth c H locs lsA ad b Z E hl hP hD hS)
theorem L_iload_n {j : Fin 4} {x : Int32} (hd : decode code pc = .ok (.iload_n j, 1)) (hx : lk ls (j : Nat) = some (.int x)) (kk : JL L xs (pc + 1) ls (.int x :: st) w k n) : JL L xs (pc) ls (st) w k n := by
  intro z D aC p l e s m below meth c H locs lsA ad b Z E hl hP hD hS
  exact lv_iload_n E.1 E.2.1 hd rfl (lk_has hl hx) (kk z D aC p l e s m below meth c H locs lsA ad b Z E hl hP hD hS)
theorem L_iload {j : Nat} {x : Int32} (hd : decode code pc = .ok (.iload j, 2)) (hx : lk ls j = some (.int x)) (kk : JL L xs (pc + 2) ls (.int x :: st) w k n) : JL L xs (pc) ls (st) w k n := by
  intro z D aC p l e s m below meth c H locs lsA ad b Z E hl hP hD hS
  exact lv_iload E.1 E.2.1 hd (lk_has hl hx) (kk z D aC p l e s m below meth c H locs lsA ad b Z E hl hP hD hS)
theorem L_lload_n {j : Fin 4} {x : Int64} (hd : decode code pc = .ok (.lload_n j, 1)) (hx : lk ls (j : Nat) = some (.long x)) (kk : JL L xs (pc + 1) ls (.long x :: st) w k n) : JL L xs (pc) ls (st) w k n := by
  intro z D aC p l e s m below meth c H locs lsA ad b Z E hl hP hD hS
  exact lv_lload_n E.1 E.2.1 hd rfl (lk_has hl hx) (kk z D aC p l e s m below meth c H locs lsA ad b Z E hl hP hD hS)
theorem L_lload {j : Nat} {x : Int64} (hd : decode code pc = .ok (.lload j, 2)) (hx : lk ls j = some (.long x)) (kk : JL L xs (pc + 2) ls (.long x :: st) w k n) : JL L xs (pc) ls (st) w k n := by
  intro z D aC p l e s m below meth c H locs lsA ad b Z E hl hP hD hS
  exact lv_lload E.1 E.2.1 hd (lk_has hl hx) (kk z D aC p l e s m below meth c H locs lsA ad b Z E hl hP hD hS)
theorem L_aload_n {j : Fin 4} {x : Nat} (hd : decode code pc = .ok (.aload_n j, 1)) (hx : lk ls (j : Nat) = some (.ref x)) (kk : JL L xs (pc + 1) ls (.ref x :: st) w k n) : JL L xs (pc) ls (st) w k n := by
  intro z D aC p l e s m below meth c H locs lsA ad b Z E hl hP hD hS
  exact lv_aload_n E.1 E.2.1 hd rfl (lk_has hl hx) (kk z D aC p l e s m below meth c H locs lsA ad b Z E hl hP hD hS)
theorem L_aload {j : Nat} {x : Nat} (hd : decode code pc = .ok (.aload j, 2)) (hx : lk ls j = some (.ref x)) (kk : JL L xs (pc + 2) ls (.ref x :: st) w k n) : JL L xs (pc) ls (st) w k n := by
  intro z D aC p l e s m below meth c H locs lsA ad b Z E hl hP hD hS
  exact lv_aload E.1 E.2.1 hd (lk_has hl hx) (kk z D aC p l e s m below meth c H locs lsA ad b Z E hl hP hD hS)
theorem L_iadd {x y : Int32} (hd : decode code pc = .ok (.iadd, 1)) (kk : JL L xs (pc + 1) ls (.int (x + y) :: st) w k n) : JL L xs (pc) ls (.int y :: .int x :: st) w k n := by
  intro z D aC p l e s m below meth c H locs lsA ad b Z E hl hP hD hS
  exact lv_iadd E.1 E.2.1 hd (kk z D aC p l e s m below meth c H locs lsA ad b Z E hl hP hD hS)
theorem L_isub {x y : Int32} (hd : decode code pc = .ok (.isub, 1)) (kk : JL L xs (pc + 1) ls (.int (x - y) :: st) w k n) : JL L xs (pc) ls (.int y :: .int x :: st) w k n := by
  intro z D aC p l e s m below meth c H locs lsA ad b Z E hl hP hD hS
  exact lv_isub E.1 E.2.1 hd (kk z D aC p l e s m below meth c H locs lsA ad b Z E hl hP hD hS)
theorem L_imul {x y : Int32} (hd : decode code pc = .ok (.imul, 1)) (kk : JL L xs (pc + 1) ls (.int (x * y) :: st) w k n) : JL L xs (pc) ls (.int y :: .int x :: st) w k n := by
  intro z D aC p l e s m below meth c H locs lsA ad b Z E hl hP hD hS
  exact lv_imul E.1 E.2.1 hd (kk z D aC p l e s m below meth c H locs lsA ad b Z E hl hP hD hS)
theorem L_iand {x y : Int32} (hd : decode code pc = .ok (.iand, 1)) (kk : JL L xs (pc + 1) ls (.int (x &&& y) :: st) w k n) : JL L xs (pc) ls (.int y :: .int x :: st) w k n := by
  intro z D aC p l e s m below meth c H locs lsA ad b Z E hl hP hD hS
  exact lv_iand E.1 E.2.1 hd (kk z D aC p l e s m below meth c H locs lsA ad b Z E hl hP hD hS)
theorem L_ior {x y : Int32} (hd : decode code pc = .ok (.ior, 1)) (kk : JL L xs (pc + 1) ls (.int (x ||| y) :: st) w k n) : JL L xs (pc) ls (.int y :: .int x :: st) w k n := by
  intro z D aC p l e s m below meth c H locs lsA ad b Z E hl hP hD hS
  exact lv_ior E.1 E.2.1 hd (kk z D aC p l e s m below meth c H locs lsA ad b Z E hl hP hD hS)
theorem L_ixor {x y : Int32} (hd : decode code pc = .ok (.ixor, 1)) (kk : JL L xs (pc + 1) ls (.int (x ^^^ y) :: st) w k n) : JL L xs (pc) ls (.int y :: .int x :: st) w k n := by
  intro z D aC p l e s m below meth c H locs lsA ad b Z E hl hP hD hS
  exact lv_ixor E.1 E.2.1 hd (kk z D aC p l e s m below meth c H locs lsA ad b Z E hl hP hD hS)
theorem L_ishl {x y : Int32} (hd : decode code pc = .ok (.ishl, 1)) (kk : JL L xs (pc + 1) ls (.int (x <<< (y &&& 31)) :: st) w k n) : JL L xs (pc) ls (.int y :: .int x :: st) w k n := by
  intro z D aC p l e s m below meth c H locs lsA ad b Z E hl hP hD hS
  exact lv_ishl E.1 E.2.1 hd (kk z D aC p l e s m below meth c H locs lsA ad b Z E hl hP hD hS)
theorem L_ishr {x y : Int32} (hd : decode code pc = .ok (.ishr, 1)) (kk : JL L xs (pc + 1) ls (.int (x >>> (y &&& 31)) :: st) w k n) : JL L xs (pc) ls (.int y :: .int x :: st) w k n := by
  intro z D aC p l e s m below meth c H locs lsA ad b Z E hl hP hD hS
  exact lv_ishr E.1 E.2.1 hd (kk z D aC p l e s m below meth c H locs lsA ad b Z E hl hP hD hS)
theorem L_idiv {x y : Int32} (hd : decode code pc = .ok (.idiv, 1)) (hy : ¬ y = 0) (kk : JL L xs (pc + 1) ls (.int (x / y) :: st) w k n) : JL L xs (pc) ls (.int y :: .int x :: st) w k n := by
  intro z D aC p l e s m below meth c H locs lsA ad b Z E hl hP hD hS
  exact lv_idiv E.1 E.2.1 hd hy (kk z D aC p l e s m below meth c H locs lsA ad b Z E hl hP hD hS)
theorem L_irem {x y : Int32} (hd : decode code pc = .ok (.irem, 1)) (hy : ¬ y = 0) (kk : JL L xs (pc + 1) ls (.int (x - x / y * y) :: st) w k n) : JL L xs (pc) ls (.int y :: .int x :: st) w k n := by
  intro z D aC p l e s m below meth c H locs lsA ad b Z E hl hP hD hS
  exact lv_irem E.1 E.2.1 hd hy (kk z D aC p l e s m below meth c H locs lsA ad b Z E hl hP hD hS)
theorem L_ineg {x : Int32} (hd : decode code pc = .ok (.ineg, 1)) (kk : JL L xs (pc + 1) ls (.int (-x) :: st) w k n) : JL L xs (pc) ls (.int x :: st) w k n := by
  intro z D aC p l e s m below meth c H locs lsA ad b Z E hl hP hD hS
  exact lv_ineg E.1 E.2.1 hd (kk z D aC p l e s m below meth c H locs lsA ad b Z E hl hP hD hS)
theorem L_lneg {x : Int64} (hd : decode code pc = .ok (.lneg, 1)) (kk : JL L xs (pc + 1) ls (.long (-x) :: st) w k n) : JL L xs (pc) ls (.long x :: st) w k n := by
  intro z D aC p l e s m below meth c H locs lsA ad b Z E hl hP hD hS
  exact lv_lneg E.1 E.2.1 hd (kk z D aC p l e s m below meth c H locs lsA ad b Z E hl hP hD hS)
theorem L_ladd {x y : Int64} (hd : decode code pc = .ok (.ladd, 1)) (kk : JL L xs (pc + 1) ls (.long (x + y) :: st) w k n) : JL L xs (pc) ls (.long y :: .long x :: st) w k n := by
  intro z D aC p l e s m below meth c H locs lsA ad b Z E hl hP hD hS
  exact lv_ladd E.1 E.2.1 hd (kk z D aC p l e s m below meth c H locs lsA ad b Z E hl hP hD hS)
theorem L_lsub {x y : Int64} (hd : decode code pc = .ok (.lsub, 1)) (kk : JL L xs (pc + 1) ls (.long (x - y) :: st) w k n) : JL L xs (pc) ls (.long y :: .long x :: st) w k n := by
  intro z D aC p l e s m below meth c H locs lsA ad b Z E hl hP hD hS
  exact lv_lsub E.1 E.2.1 hd (kk z D aC p l e s m below meth c H locs lsA ad b Z E hl hP hD hS)
theorem L_lmul {x y : Int64} (hd : decode code pc = .ok (.lmul, 1)) (kk : JL L xs (pc + 1) ls (.long (x * y) :: st) w k n) : JL L xs (pc) ls (.long y :: .long x :: st) w k n := by
  intro z D aC p l e s m below meth c H locs lsA ad b Z E hl hP hD hS
  exact lv_lmul E.1 E.2.1 hd (kk z D aC p l e s m below meth c H locs lsA ad b Z E hl hP hD hS)
theorem L_land {x y : Int64} (hd : decode code pc = .ok (.land, 1)) (kk : JL L xs (pc + 1) ls (.long (x &&& y) :: st) w k n) : JL L xs (pc) ls (.long y :: .long x :: st) w k n := by
  intro z D aC p l e s m below meth c H locs lsA ad b Z E hl hP hD hS
  exact lv_land E.1 E.2.1 hd (kk z D aC p l e s m below meth c H locs lsA ad b Z E hl hP hD hS)
theorem L_ldiv {x y : Int64} (hd : decode code pc = .ok (.ldiv, 1)) (hy : ¬ y = 0) (kk : JL L xs (pc + 1) ls (.long (x / y) :: st) w k n) : JL L xs (pc) ls (.long y :: .long x :: st) w k n := by
  intro z D aC p l e s m below meth c H locs lsA ad b Z E hl hP hD hS
  exact lv_ldiv E.1 E.2.1 hd hy (kk z D aC p l e s m below meth c H locs lsA ad b Z E hl hP hD hS)
theorem L_lrem {x y : Int64} (hd : decode code pc = .ok (.lrem, 1)) (hy : ¬ y = 0) (kk : JL L xs (pc + 1) ls (.long (x - x / y * y) :: st) w k n) : JL L xs (pc) ls (.long y :: .long x :: st) w k n := by
  intro z D aC p l e s m below meth c H locs lsA ad b Z E hl hP hD hS
  exact lv_lrem E.1 E.2.1 hd hy (kk z D aC p l e s m below meth c H locs lsA ad b Z E hl hP hD hS)
theorem L_i2l {x : Int32} (hd : decode code pc = .ok (.i2l, 1)) (kk : JL L xs (pc + 1) ls (.long x.toInt64 :: st) w k n) : JL L xs (pc) ls (.int x :: st) w k n := by
  intro z D aC p l e s m below meth c H locs lsA ad b Z E hl hP hD hS
  exact lv_i2l E.1 E.2.1 hd rfl (kk z D aC p l e s m below meth c H locs lsA ad b Z E hl hP hD hS)
theorem L_l2i {x : Int64} (hd : decode code pc = .ok (.l2i, 1)) (kk : JL L xs (pc + 1) ls (.int x.toInt32 :: st) w k n) : JL L xs (pc) ls (.long x :: st) w k n := by
  intro z D aC p l e s m below meth c H locs lsA ad b Z E hl hP hD hS
  exact lv_l2i E.1 E.2.1 hd rfl (kk z D aC p l e s m below meth c H locs lsA ad b Z E hl hP hD hS)
theorem L_i2b {x : Int32} (hd : decode code pc = .ok (.i2b, 1)) (kk : JL L xs (pc + 1) ls (.int x.toInt8.toInt32 :: st) w k n) : JL L xs (pc) ls (.int x :: st) w k n := by
  intro z D aC p l e s m below meth c H locs lsA ad b Z E hl hP hD hS
  exact lv_i2b E.1 E.2.1 hd rfl (kk z D aC p l e s m below meth c H locs lsA ad b Z E hl hP hD hS)
theorem L_i2c {x : Int32} (hd : decode code pc = .ok (.i2c, 1)) (kk : JL L xs (pc + 1) ls (.int (x.toUInt32 % 65536).toInt32 :: st) w k n) : JL L xs (pc) ls (.int x :: st) w k n := by
  intro z D aC p l e s m below meth c H locs lsA ad b Z E hl hP hD hS
  exact lv_i2c E.1 E.2.1 hd rfl (kk z D aC p l e s m below meth c H locs lsA ad b Z E hl hP hD hS)
theorem L_iushr {x y : Int32} (hd : decode code pc = .ok (.iushr, 1)) (kk : JL L xs (pc + 1) ls (.int (x.toUInt32 >>> (y.toUInt32 &&& Int32.toUInt32 31)).toInt32 :: st) w k n) : JL L xs (pc) ls (.int y :: .int x :: st) w k n := by
  intro z D aC p l e s m below meth c H locs lsA ad b Z E hl hP hD hS
  exact lv_iushr E.1 E.2.1 hd rfl (kk z D aC p l e s m below meth c H locs lsA ad b Z E hl hP hD hS)
theorem L_lcmp {x y : Int64} (hd : decode code pc = .ok (.lcmp, 1)) (kk : JL L xs (pc + 1) ls (.int (lg_cmp x y) :: st) w k n) : JL L xs (pc) ls (.long y :: .long x :: st) w k n := by
  intro z D aC p l e s m below meth c H locs lsA ad b Z E hl hP hD hS
  exact W.lcmp E.1 E.2.1 hd (kk z D aC p l e s m below meth c H locs lsA ad b Z E hl hP hD hS)
theorem L_dup {v : Value} (hd : decode code pc = .ok (.dup, 1)) (hv : v.category = 1) (kk : JL L xs (pc + 1) ls (v :: v :: st) w k n) : JL L xs (pc) ls (v :: st) w k n := by
  intro z D aC p l e s m below meth c H locs lsA ad b Z E hl hP hD hS
  exact lv_dup E.1 E.2.1 hd ((cv_cat _ _ _).trans hv) (kk z D aC p l e s m below meth c H locs lsA ad b Z E hl hP hD hS)
theorem L_pop {v : Value} (hd : decode code pc = .ok (.pop, 1)) (hv : v.category = 1) (kk : JL L xs (pc + 1) ls (st) w k n) : JL L xs (pc) ls (v :: st) w k n := by
  intro z D aC p l e s m below meth c H locs lsA ad b Z E hl hP hD hS
  exact lv_pop E.1 E.2.1 hd ((cv_cat _ _ _).trans hv) (kk z D aC p l e s m below meth c H locs lsA ad b Z E hl hP hD hS)
theorem L_dup2 {v u : Value} (hd : decode code pc = .ok (.dup2, 1)) (hv : v.category = 1) (hu : u.category = 1) (kk : JL L xs (pc + 1) ls (v :: u :: v :: u :: st) w k n) : JL L xs (pc) ls (v :: u :: st) w k n := by
  intro z D aC p l e s m below meth c H locs lsA ad b Z E hl hP hD hS
  exact lv_dup2_11 E.1 E.2.1 hd ((cv_cat _ _ _).trans hv) ((cv_cat _ _ _).trans hu) (kk z D aC p l e s m below meth c H locs lsA ad b Z E hl hP hD hS)
theorem L_ldc {i : Nat} {v : Int32} (hd : decode code pc = .ok (.ldc i, 2)) (hc : Cond.constant "TemperCellarLaw" i v ∈ T0) (kk : JL L xs (pc + 2) ls (.int v :: st) w k n) : JL L xs (pc) ls (st) w k n := by
  intro z D aC p l e s m below meth c H locs lsA ad b Z E hl hP hD hS
  exact lv_ldc E.1 E.2.1 E.2.2.2.2.1 (E.2.2.2.2.2.1 _ hc) hd (kk z D aC p l e s m below meth c H locs lsA ad b Z E hl hP hD hS)
theorem L_ldc_w {i : Nat} {v : Int32} (hd : decode code pc = .ok (.ldc_w i, 3)) (hc : Cond.constant "TemperCellarLaw" i v ∈ T0) (kk : JL L xs (pc + 3) ls (.int v :: st) w k n) : JL L xs (pc) ls (st) w k n := by
  intro z D aC p l e s m below meth c H locs lsA ad b Z E hl hP hD hS
  exact lv_ldcw E.1 E.2.1 E.2.2.2.2.1 (E.2.2.2.2.2.1 _ hc) hd (kk z D aC p l e s m below meth c H locs lsA ad b Z E hl hP hD hS)
theorem L_ldc2_w {i : Nat} {v : Int64} (hd : decode code pc = .ok (.ldc2_w i, 3)) (hc : Cond.constantLong "TemperCellarLaw" i v ∈ T0) (kk : JL L xs (pc + 3) ls (.long v :: st) w k n) : JL L xs (pc) ls (st) w k n := by
  intro z D aC p l e s m below meth c H locs lsA ad b Z E hl hP hD hS
  exact lv_ldc2 E.1 E.2.1 E.2.2.2.2.1 (E.2.2.2.2.2.1 _ hc) hd (kk z D aC p l e s m below meth c H locs lsA ad b Z E hl hP hD hS)
theorem L_istore_n {j : Fin 4} {x : Int32} (hd : decode code pc = .ok (.istore_n j, 1)) (hi : Nat.blt ((j : Nat)) 7 = true) (kk : JL L xs (pc + 1) (lput (j : Nat) (.int x) ls) (st) w k n) : JL L xs (pc) ls (.int x :: st) w k n := by
  intro z D aC p l e s m below meth c H locs lsA ad b Z E hl hP hD hS
  exact lv_istore_n E.1 E.2.1 hd rfl hl (Nat.le_of_ble_eq_true hi) rfl (fun ls' hl' => kk z D aC p l e s m below meth c H locs ls' ad b Z E (hl'.less (lput_c1 (v := .int x))) hP hD hS)
theorem L_istore {j : Nat} {x : Int32} (hd : decode code pc = .ok (.istore j, 2)) (hi : Nat.blt (j) 7 = true) (kk : JL L xs (pc + 2) (lput j (.int x) ls) (st) w k n) : JL L xs (pc) ls (.int x :: st) w k n := by
  intro z D aC p l e s m below meth c H locs lsA ad b Z E hl hP hD hS
  exact lv_istore E.1 E.2.1 hd hl (Nat.le_of_ble_eq_true hi) rfl (fun ls' hl' => kk z D aC p l e s m below meth c H locs ls' ad b Z E (hl'.less (lput_c1 (v := .int x))) hP hD hS)
theorem L_astore_n {j : Fin 4} {x : Nat} (hd : decode code pc = .ok (.astore_n j, 1)) (hi : Nat.blt ((j : Nat)) 7 = true) (kk : JL L xs (pc + 1) (lput (j : Nat) (.ref x) ls) (st) w k n) : JL L xs (pc) ls (.ref x :: st) w k n := by
  intro z D aC p l e s m below meth c H locs lsA ad b Z E hl hP hD hS
  exact lv_astore_n E.1 E.2.1 hd rfl hl (Nat.le_of_ble_eq_true hi) rfl (fun ls' hl' => kk z D aC p l e s m below meth c H locs ls' ad b Z E (hl'.less (lput_c1 (v := .ref x))) hP hD hS)
theorem L_astore {j : Nat} {x : Nat} (hd : decode code pc = .ok (.astore j, 2)) (hi : Nat.blt (j) 7 = true) (kk : JL L xs (pc + 2) (lput j (.ref x) ls) (st) w k n) : JL L xs (pc) ls (.ref x :: st) w k n := by
  intro z D aC p l e s m below meth c H locs lsA ad b Z E hl hP hD hS
  exact lv_astore E.1 E.2.1 hd hl (Nat.le_of_ble_eq_true hi) rfl (fun ls' hl' => kk z D aC p l e s m below meth c H locs ls' ad b Z E (hl'.less (lput_c1 (v := .ref x))) hP hD hS)
theorem L_lstore_n {j : Fin 4} {x : Int64} (hd : decode code pc = .ok (.lstore_n j, 1)) (hi : Nat.blt ((j : Nat) + 1) 7 = true) (kk : JL L xs (pc + 1) (lput (j : Nat) (.long x) ls) (st) w k n) : JL L xs (pc) ls (.long x :: st) w k n := by
  intro z D aC p l e s m below meth c H locs lsA ad b Z E hl hP hD hS
  exact lv_lstore_n E.1 E.2.1 hd rfl hl (Nat.le_of_ble_eq_true hi) rfl (fun ls' hl' => kk z D aC p l e s m below meth c H locs ls' ad b Z E (hl'.less (lput_c2 (v := .long x) rfl)) hP hD hS)
theorem L_lstore {j : Nat} {x : Int64} (hd : decode code pc = .ok (.lstore j, 2)) (hi : Nat.blt (j + 1) 7 = true) (kk : JL L xs (pc + 2) (lput j (.long x) ls) (st) w k n) : JL L xs (pc) ls (.long x :: st) w k n := by
  intro z D aC p l e s m below meth c H locs lsA ad b Z E hl hP hD hS
  exact lv_lstore E.1 E.2.1 hd hl (Nat.le_of_ble_eq_true hi) rfl (fun ls' hl' => kk z D aC p l e s m below meth c H locs ls' ad b Z E (hl'.less (lput_c2 (v := .long x) rfl)) hP hD hS)
theorem L_iinc {j : Nat} {i : Int} {x v : Int32} (hd : decode code pc = .ok (.iinc j i, 3)) (hx : lk ls j = some (.int x)) (hv : x + Int32.ofInt i = v) (hi : Nat.blt j 7 = true) (kk : JL L xs (pc + 3) (lput j (.int v) ls) (st) w k n) : JL L xs (pc) ls (st) w k n := by
  intro z D aC p l e s m below meth c H locs lsA ad b Z E hl hP hD hS
  obtain ⟨q, hq⟩ := List.getElem?_of_mem (List.mem_map.mpr ⟨(j, .int x), lk_mem hx, rfl⟩ : (j, Value.int x) ∈ cl z ad ls)
  exact lv_iinc E.1 E.2.1 hd hl (k := q) hq hv (Nat.le_of_ble_eq_true hi) rfl (fun ls' hl' => kk z D aC p l e s m below meth c H locs ls' ad b Z E (hl'.less (lput_c1 (v := .int v))) hP hD hS)
theorem L_ls (ls' : List (Nat × Value)) (hs : ∀ q ∈ ls', q ∈ ls) (kk : JL L xs (pc) ls' (st) w k n) : JL L xs (pc) ls (st) w k n := by
  intro z D aC p l e s m below meth c H locs lsA ad b Z E hl hP hD hS
  exact kk z D aC p l e s m below meth c H locs lsA ad b Z E (hl.less (fun q hq => by obtain ⟨a, ha, rfl⟩ := List.mem_map.mp hq; exact List.mem_map.mpr ⟨a, hs a ha, rfl⟩)) hP hD hS
theorem L_lk (ls' : List (Nat × Value)) (hs : ls'.map (fun q => lk ls q.1) = ls'.map (fun q => some q.2)) (kk : JL L xs (pc) ls' (st) w k n) : JL L xs (pc) ls (st) w k n := by
  refine L_ls ls' (fun q hq => ?_) kk
  obtain ⟨i, hi⟩ := List.getElem?_of_mem hq
  have h1 : (ls'.map (fun q => lk ls q.1))[i]? = some (some q.2) := by rw [hs, List.getElem?_map, hi]; rfl
  rw [List.getElem?_map, hi] at h1
  exact lk_mem (Option.some.inj h1)
theorem L_if_eq {x : Int32} {off : Int} {tgt : Nat} (hd : decode code pc = .ok (.ifCond .eq off, 3)) (ht : (pc : Int) + off = (tgt : Int)) (kt : x = 0 → JL L xs (tgt) ls (st) w k n) (kf : ¬ x = 0 → JL L xs (pc + 3) ls (st) w k n) : JL L xs (pc) ls (.int x :: st) w k n := by
  intro z D aC p l e s m below meth c H locs lsA ad b Z E hl hP hD hS
  exact lv_if_eq E.1 E.2.1 hd ht (fun hc => kt hc z D aC p l e s m below meth c H locs lsA ad b Z E hl hP hD hS) (fun hc => kf hc z D aC p l e s m below meth c H locs lsA ad b Z E hl hP hD hS)
theorem L_icmp_eq {x y : Int32} {off : Int} {tgt : Nat} (hd : decode code pc = .ok (.if_icmp .eq off, 3)) (ht : (pc : Int) + off = (tgt : Int)) (kt : x = y → JL L xs (tgt) ls (st) w k n) (kf : ¬ x = y → JL L xs (pc + 3) ls (st) w k n) : JL L xs (pc) ls (.int y :: .int x :: st) w k n := by
  intro z D aC p l e s m below meth c H locs lsA ad b Z E hl hP hD hS
  exact lv_icmp_eq E.1 E.2.1 hd ht (fun hc => kt hc z D aC p l e s m below meth c H locs lsA ad b Z E hl hP hD hS) (fun hc => kf hc z D aC p l e s m below meth c H locs lsA ad b Z E hl hP hD hS)
theorem L_if_ne {x : Int32} {off : Int} {tgt : Nat} (hd : decode code pc = .ok (.ifCond .ne off, 3)) (ht : (pc : Int) + off = (tgt : Int)) (kt : ¬ x = 0 → JL L xs (tgt) ls (st) w k n) (kf : x = 0 → JL L xs (pc + 3) ls (st) w k n) : JL L xs (pc) ls (.int x :: st) w k n := by
  intro z D aC p l e s m below meth c H locs lsA ad b Z E hl hP hD hS
  exact lv_if_ne E.1 E.2.1 hd ht (fun hc => kt hc z D aC p l e s m below meth c H locs lsA ad b Z E hl hP hD hS) (fun hc => kf hc z D aC p l e s m below meth c H locs lsA ad b Z E hl hP hD hS)
theorem L_icmp_ne {x y : Int32} {off : Int} {tgt : Nat} (hd : decode code pc = .ok (.if_icmp .ne off, 3)) (ht : (pc : Int) + off = (tgt : Int)) (kt : ¬ x = y → JL L xs (tgt) ls (st) w k n) (kf : x = y → JL L xs (pc + 3) ls (st) w k n) : JL L xs (pc) ls (.int y :: .int x :: st) w k n := by
  intro z D aC p l e s m below meth c H locs lsA ad b Z E hl hP hD hS
  exact lv_icmp_ne E.1 E.2.1 hd ht (fun hc => kt hc z D aC p l e s m below meth c H locs lsA ad b Z E hl hP hD hS) (fun hc => kf hc z D aC p l e s m below meth c H locs lsA ad b Z E hl hP hD hS)
theorem L_if_lt {x : Int32} {off : Int} {tgt : Nat} (hd : decode code pc = .ok (.ifCond .lt off, 3)) (ht : (pc : Int) + off = (tgt : Int)) (kt : x < 0 → JL L xs (tgt) ls (st) w k n) (kf : ¬ x < 0 → JL L xs (pc + 3) ls (st) w k n) : JL L xs (pc) ls (.int x :: st) w k n := by
  intro z D aC p l e s m below meth c H locs lsA ad b Z E hl hP hD hS
  exact lv_if_lt E.1 E.2.1 hd ht (fun hc => kt hc z D aC p l e s m below meth c H locs lsA ad b Z E hl hP hD hS) (fun hc => kf hc z D aC p l e s m below meth c H locs lsA ad b Z E hl hP hD hS)
theorem L_icmp_lt {x y : Int32} {off : Int} {tgt : Nat} (hd : decode code pc = .ok (.if_icmp .lt off, 3)) (ht : (pc : Int) + off = (tgt : Int)) (kt : x < y → JL L xs (tgt) ls (st) w k n) (kf : ¬ x < y → JL L xs (pc + 3) ls (st) w k n) : JL L xs (pc) ls (.int y :: .int x :: st) w k n := by
  intro z D aC p l e s m below meth c H locs lsA ad b Z E hl hP hD hS
  exact lv_icmp_lt E.1 E.2.1 hd ht (fun hc => kt hc z D aC p l e s m below meth c H locs lsA ad b Z E hl hP hD hS) (fun hc => kf hc z D aC p l e s m below meth c H locs lsA ad b Z E hl hP hD hS)
theorem L_if_ge {x : Int32} {off : Int} {tgt : Nat} (hd : decode code pc = .ok (.ifCond .ge off, 3)) (ht : (pc : Int) + off = (tgt : Int)) (kt : 0 ≤ x → JL L xs (tgt) ls (st) w k n) (kf : ¬ 0 ≤ x → JL L xs (pc + 3) ls (st) w k n) : JL L xs (pc) ls (.int x :: st) w k n := by
  intro z D aC p l e s m below meth c H locs lsA ad b Z E hl hP hD hS
  exact lv_if_ge E.1 E.2.1 hd ht (fun hc => kt hc z D aC p l e s m below meth c H locs lsA ad b Z E hl hP hD hS) (fun hc => kf hc z D aC p l e s m below meth c H locs lsA ad b Z E hl hP hD hS)
theorem L_icmp_ge {x y : Int32} {off : Int} {tgt : Nat} (hd : decode code pc = .ok (.if_icmp .ge off, 3)) (ht : (pc : Int) + off = (tgt : Int)) (kt : y ≤ x → JL L xs (tgt) ls (st) w k n) (kf : ¬ y ≤ x → JL L xs (pc + 3) ls (st) w k n) : JL L xs (pc) ls (.int y :: .int x :: st) w k n := by
  intro z D aC p l e s m below meth c H locs lsA ad b Z E hl hP hD hS
  exact lv_icmp_ge E.1 E.2.1 hd ht (fun hc => kt hc z D aC p l e s m below meth c H locs lsA ad b Z E hl hP hD hS) (fun hc => kf hc z D aC p l e s m below meth c H locs lsA ad b Z E hl hP hD hS)
theorem L_if_gt {x : Int32} {off : Int} {tgt : Nat} (hd : decode code pc = .ok (.ifCond .gt off, 3)) (ht : (pc : Int) + off = (tgt : Int)) (kt : 0 < x → JL L xs (tgt) ls (st) w k n) (kf : ¬ 0 < x → JL L xs (pc + 3) ls (st) w k n) : JL L xs (pc) ls (.int x :: st) w k n := by
  intro z D aC p l e s m below meth c H locs lsA ad b Z E hl hP hD hS
  exact lv_if_gt E.1 E.2.1 hd ht (fun hc => kt hc z D aC p l e s m below meth c H locs lsA ad b Z E hl hP hD hS) (fun hc => kf hc z D aC p l e s m below meth c H locs lsA ad b Z E hl hP hD hS)
theorem L_icmp_gt {x y : Int32} {off : Int} {tgt : Nat} (hd : decode code pc = .ok (.if_icmp .gt off, 3)) (ht : (pc : Int) + off = (tgt : Int)) (kt : y < x → JL L xs (tgt) ls (st) w k n) (kf : ¬ y < x → JL L xs (pc + 3) ls (st) w k n) : JL L xs (pc) ls (.int y :: .int x :: st) w k n := by
  intro z D aC p l e s m below meth c H locs lsA ad b Z E hl hP hD hS
  exact lv_icmp_gt E.1 E.2.1 hd ht (fun hc => kt hc z D aC p l e s m below meth c H locs lsA ad b Z E hl hP hD hS) (fun hc => kf hc z D aC p l e s m below meth c H locs lsA ad b Z E hl hP hD hS)
theorem L_if_le {x : Int32} {off : Int} {tgt : Nat} (hd : decode code pc = .ok (.ifCond .le off, 3)) (ht : (pc : Int) + off = (tgt : Int)) (kt : x ≤ 0 → JL L xs (tgt) ls (st) w k n) (kf : ¬ x ≤ 0 → JL L xs (pc + 3) ls (st) w k n) : JL L xs (pc) ls (.int x :: st) w k n := by
  intro z D aC p l e s m below meth c H locs lsA ad b Z E hl hP hD hS
  exact lv_if_le E.1 E.2.1 hd ht (fun hc => kt hc z D aC p l e s m below meth c H locs lsA ad b Z E hl hP hD hS) (fun hc => kf hc z D aC p l e s m below meth c H locs lsA ad b Z E hl hP hD hS)
theorem L_icmp_le {x y : Int32} {off : Int} {tgt : Nat} (hd : decode code pc = .ok (.if_icmp .le off, 3)) (ht : (pc : Int) + off = (tgt : Int)) (kt : x ≤ y → JL L xs (tgt) ls (st) w k n) (kf : ¬ x ≤ y → JL L xs (pc + 3) ls (st) w k n) : JL L xs (pc) ls (.int y :: .int x :: st) w k n := by
  intro z D aC p l e s m below meth c H locs lsA ad b Z E hl hP hD hS
  exact lv_icmp_le E.1 E.2.1 hd ht (fun hc => kt hc z D aC p l e s m below meth c H locs lsA ad b Z E hl hP hD hS) (fun hc => kf hc z D aC p l e s m below meth c H locs lsA ad b Z E hl hP hD hS)
theorem L_goto {off : Int} {tgt : Nat} (hd : decode code pc = .ok (.goto off, 3)) (ht : (pc : Int) + off = (tgt : Int)) (kk : JL L xs (tgt) ls (st) w k n) : JL L xs (pc) ls (st) w k n := by
  intro z D aC p l e s m below meth c H locs lsA ad b Z E hl hP hD hS
  exact lv_goto E.1 E.2.1 hd ht (kk z D aC p l e s m below meth c H locs lsA ad b Z E hl hP hD hS)
theorem L_tout {dflt lo hi : Int} {offs : Array Int} {len : Nat} {x : Int32} {tgt : Nat} (hd : decode code pc = .ok (.tableswitch dflt lo hi offs, len)) (h : x.toInt < lo ∨ hi < x.toInt) (ht : (pc : Int) + dflt = (tgt : Int)) (kk : JL L xs (tgt) ls (st) w k n) : JL L xs (pc) ls (.int x :: st) w k n := by
  intro z D aC p l e s m below meth c H locs lsA ad b Z E hl hP hD hS
  exact lv_tableOut E.1 E.2.1 hd h ht (kk z D aC p l e s m below meth c H locs lsA ad b Z E hl hP hD hS)
theorem L_tin {dflt lo hi : Int} {offs : Array Int} {len : Nat} {x : Int32} {off : Int} {tgt : Nat} (hd : decode code pc = .ok (.tableswitch dflt lo hi offs, len)) (h1 : ¬ x.toInt < lo) (h2 : ¬ hi < x.toInt) (ho : offs[(x.toInt - lo).toNat]? = some off) (ht : (pc : Int) + off = (tgt : Int)) (kk : JL L xs (tgt) ls (st) w k n) : JL L xs (pc) ls (.int x :: st) w k n := by
  intro z D aC p l e s m below meth c H locs lsA ad b Z E hl hP hD hS
  exact lv_tableIn E.1 E.2.1 hd h1 h2 ho ht (kk z D aC p l e s m below meth c H locs lsA ad b Z E hl hP hD hS)
theorem L_lsw {dflt : Int} {ps : Array (Int × Int)} {len : Nat} {x : Int32} {off : Int} {tgt : Nat} (hd : decode code pc = .ok (.lookupswitch dflt ps, len)) (hp : (ps.toList.zip (ps.toList.drop 1)).all (fun (a, next) => a.1 < next.1) = true) (ho : Op.lookupswitch.offset ps.toList dflt x.toInt = off) (ht : (pc : Int) + off = (tgt : Int)) (kk : JL L xs (tgt) ls (st) w k n) : JL L xs (pc) ls (.int x :: st) w k n := by
  intro z D aC p l e s m below meth c H locs lsA ad b Z E hl hP hD hS
  exact lv_lookup E.1 E.2.1 hd hp ho ht (kk z D aC p l e s m below meth c H locs lsA ad b Z E hl hP hD hS)
theorem L_w {w2 : List EC} (e : w = w2) (kk : JL L xs pc ls st w2 k n) : JL L xs pc ls st w k n := e ▸ kk
theorem L_st (st' : List Value) (e : st = st') (kk : JL L xs pc ls st' w k n) : JL L xs pc ls st w k n := e ▸ kk
theorem L_aloadS {j : Fin 4} {x : Nat} (hd : decode code pc = .ok (.aload_n j, 1)) (hx : lk ls (j : Nat) = some (.retAddr x)) (kk : JL L xs (pc + 1) ls (.retAddr x :: st) w k n) : JL L xs pc ls st w k n := by
  intro z D aC p l e s m below meth c H locs lsA ad b Z E hl hP hD hS
  exact lv_aload_n E.1 E.2.1 hd rfl (lk_has hl hx) (kk z D aC p l e s m below meth c H locs lsA ad b Z E hl hP hD hS)
theorem L_slen (hd : decode code pc = .ok (.arraylength, 1)) (kk : JL L xs (pc + 1) ls (.int (nI L) :: st) w k n) : JL L xs pc ls (.retAddr 1000 :: st) w k n := by
  intro z D aC p l e s m below meth c H locs lsA ad b Z E hl hP hD hS
  obtain ⟨e1, e2, e3, e4, e5, hts, e7, hE, hK, hX, hb, hz, -⟩ := id E
  show W _ _ _ _ _ _ _ _ _ _ _ _ _ _ _ (F0 m pc lsA (.ref (z 1000) :: st.map (cv z ad)))
  rw [hz]
  exact va_slen e1 e2 hX hb (Nat.not_le.mpr hb) hS hd (kk z D aC p l e s m below meth c H locs lsA ad b Z E hl hP hD hS)
theorem L_sld {i : Nat} {j : Int32} (hd : decode code pc = .ok (.iaload, 1)) (hj : j = nI i) (hi : i < L) (hL : L < 2147483648) (kk : JL L xs (pc + 1) ls (.int (xs i) :: st) w k n) : JL L xs pc ls (.int j :: .retAddr 1000 :: st) w k n := by
  intro z D aC p l e s m below meth c H locs lsA ad b Z E hl hP hD hS
  obtain ⟨e1, e2, e3, e4, e5, hts, e7, hE, hK, hX, hb, hz, -⟩ := id E
  show W _ _ _ _ _ _ _ _ _ _ _ _ _ _ _ (F0 m pc lsA (.int j :: .ref (z 1000) :: st.map (cv z ad)))
  rw [hz]
  subst hj
  refine va_sld e1 e2 hX hb (Nat.not_le.mpr hb) hS (vp_in_nI hi hL) hd ?_
  rw [nI_clamp (by omega)]
  exact kk z D aC p l e s m below meth c H locs lsA ad b Z E hl hP hD hS
theorem L_lald {i N b0 : Nat} {f : Nat → Int64} {j : Int32} (hd : decode code pc = .ok (.laload, 1)) (hw : w[i]? = some (.inl (.long, N, .inr (.inl f)))) (hj : j = nI b0) (hb : b0 < N) (hN : Nat.blt N 2147483648 = true) (kk : JL L xs (pc + 1) ls (.long (f b0) :: st) w k n) : JL L xs pc ls (.int j :: .ref i :: st) w k n := by
  intro z D aC p l e s m below meth c H locs lsA ad b Z E hl hP hD hS
  have hN' : N < 2 ^ 31 := Nat.le_of_ble_eq_true hN
  subst hj
  refine va_lald E.1 E.2.1 E.2.2.2.2.2.2.2.2.1 hP i 3 (cw_get hw) rfl (vp_in_nI hb hN') hd ?_
  rw [nI_clamp (Nat.lt_trans hb hN')]
  exact kk z D aC p l e s m below meth c H locs lsA ad b Z E hl hP hD hS
theorem L_wide {k2 n2 : Nat} (h1 : k ≤ k2) (h2 : n ≤ n2) (kk : JL L xs pc ls st w k2 n2) : JL L xs pc ls st w k n := by
  intro z D aC p l e s m below meth c H locs lsA ad b Z E hl hP hD hS
  exact W.widen h1 h2 (kk z D aC p l e s m below meth c H locs lsA ad b Z E hl hP hD hS)
theorem L_ret (hd : decode code pc = .ok (.ireturn, 1)) (hk : k ≤ 601024) (hn : n ≤ 7293034) : JL L xs pc ls [.int 1] w k n := by
  intro z D aC p l e s m below meth c H locs lsA ad b Z E hl hP hD hS
  obtain ⟨e1, e2, e3, e4, e5, hts, e7, hE, hK, hX, hb, hz, hf, hr⟩ := id E
  exact va_forget (fun q hq => hS.2.2 q hq) (W.widen hk hn (hr H pc lsA hd))
/-- places renamed, cells forgotten -/
theorem L_sub {ρ : Nat → Nat} {wc : List EC} {ls2 : List (Nat × Value)} {st2 : List Value} (hs : SubF w ρ wc) (hls : ls2.map (fun q => (q.1, rvF ρ q.2)) = ls) (hst : st2.map (rvF ρ) = st) (kk : JL L xs pc ls2 st2 wc k n) : JL L xs pc ls st w k n := by
  intro z D aC p l e s m below meth c H locs lsA ad b Z E hl hP hD hS
  subst hls
  subst hst
  rw [cv_rvs]
  refine kk z D aC p l e s m below meth c H locs lsA (fun i => ad (ρ i)) b Z E ?_ (hs.pp hP) (hs.dd hD) hS
  have : cl z ad (ls2.map (fun q => (q.1, rvF ρ q.2))) = cl z (fun i => ad (ρ i)) ls2 := by
    unfold cl
    rw [List.map_map]
    exact List.map_congr_left (fun q _ => by show (q.1, cv z ad (rvF ρ q.2)) = _; rw [cv_rv])
  rw [← this]
  exact hl
theorem L_new {idx ci N : Nat} {C : String} {T : u_T} {ty : Nat → FieldType} {fs : List Value} (hd : decode code pc = .ok (.new idx, 3)) (hk : kOk ci C T N ty) (hcl : Cond.classLink "TemperCellarLaw" idx C ∈ T0) (hin : Cond.instantiable C N ∈ T0) (hii : Cond.initialized C ∈ T0) (hfs : (List.range N).map (fun j => defaultValue (ty j)) = (List.range N).map (vp_V fs)) (hfc : ∀ z ad, fs.map (cv z ad) = fs) (hw : wfw w.length w = true) (hls : wfl w.length ls = true) (hst : st.all (wfv w.length) = true) (hkm : Nat.ble (k + 1) 601024 = true) (hnm : Nat.ble (n + N) 7293034 = true)
    (kk : JL L xs (pc + 3) ls (.ref w.length :: st) (w ++ [.inr (ci, fs)]) (k + 1) (n + N)) : JL L xs pc ls st w k n := by
  intro z D aC p l e s m below meth c H locs lsA ad b Z E hl hP hD hS
  obtain ⟨e1, e2, e3, e4, e5, hts, e7, hE, hK, hX, hb, hz, hf, hr⟩ := id E
  obtain ⟨h1, h2, h3, h4⟩ := hk
  refine va_new (ci := ci) (fs := fs) e1 e2 hts h2 ty h3 e5 (hts _ hcl) (hts _ hin) (hts _ hii) hK hP (DD_D hD) hS (fun _ h => h) h1 (fun j hj => List.map_inj_left.mp hfs j (List.mem_range.mpr hj)) (Nat.le_of_ble_eq_true hkm) (Nat.le_of_ble_eq_true hnm) hd (fun q H1 hP1 hD1 hS1 => ?_)
  have hup : ∀ i, i < w.length → upN ad w.length q i = ad i := upN_lt
  have e10 : cw z aC (upN ad w.length q) (w ++ [.inr (ci, fs)]) = cw z aC ad w ++ [(q, .inr (ci, fs))] := by
    rw [cw_push hw]
    show _ ++ [(q, Sum.inr (ci, fs.map (cv z (upN ad w.length q))))] = _
    rw [hfc]
  rw [← e10] at hP1 hD1
  have := kk z D aC p l e s m below meth c H1 locs lsA (upN ad w.length q) b Z E (by rw [cl_wf hup hls]; exact hl) hP1 (D_DD hD1) hS1
  rw [List.map_cons, st_wf hup hst, show cv z (upN ad w.length q) (.ref w.length) = .ref q from congrArg Value.ref (if_pos rfl)] at this
  exact this
theorem L_newl {N : Nat} {x : Int32} (hd : decode code pc = .ok (.newarray .long, 2)) (hx : x = nI N) (hN : Nat.ble (N * 8) 536870912 = true) (hN2 : Nat.blt N 2147483648 = true) (hw : wfw w.length w = true) (hls : wfl w.length ls = true) (hst : st.all (wfv w.length) = true) (hkm : Nat.ble (k + 1) 601024 = true) (hnm : Nat.ble (n + N) 7293034 = true)
    (kk : JL L xs (pc + 2) ls (.ref w.length :: st) (w ++ [lA N (fun _ => 0)]) (k + 1) (n + N)) : JL L xs pc ls (.int x :: st) w k n := by
  intro z D aC p l e s m below meth c H locs lsA ad b Z E hl hP hD hS
  obtain ⟨e1, e2, e3, e4, e5, hts, e7, hE, hK, hX, hb, hz, hf, hr⟩ := id E
  subst hx
  have hN2' : N < 2 ^ 31 := Nat.le_of_ble_eq_true hN2
  refine va_newa (atype := .long) (ty := .long) (a0 := (N, .inr (.inl (fun _ => 0)))) (N' := N) e1 e2 (hts _ t343) rfl hK hP (DD_D hD) hS (fun _ h => h) (fun _ => rfl) (nI_pos hN2') (nI_clamp hN2') (Nat.le_of_ble_eq_true hN) (Nat.le_of_ble_eq_true hkm) (Nat.le_of_ble_eq_true hnm) hd (fun q cA H1 hK1 hP1 hD1 hS1 => ?_)
  have hcA : cA = aC .long := Option.some.inj ((va_nm_long (hK1.2 (tys aC).length (cA, .long) (by simp)).2).symm.trans (va_nm_long (hK.2 3 (aC .long, .long) rfl).2))
  subst hcA
  have hup : ∀ i, i < w.length → upN ad w.length q i = ad i := upN_lt
  have e10 : cw z aC (upN ad w.length q) (w ++ [lA N (fun _ => 0)]) = cw z aC ad w ++ [(q, .inl (aC .long, N, .inr (.inl (fun _ => 0))))] := cw_push hw
  rw [← e10] at hP1 hD1
  have := kk z D aC p l e s m below meth c H1 locs lsA (upN ad w.length q) b Z E (by rw [cl_wf hup hls]; exact hl) hP1 (D_DD hD1) hS1
  rw [List.map_cons, st_wf hup hst, show cv z (upN ad w.length q) (.ref w.length) = .ref q from congrArg Value.ref (if_pos rfl)] at this
  exact this
theorem L_tsw {dflt lo hi : Int} {offs : Array Int} {len : Nat} {x : Int32} (lo' : Nat) (tg : List Nat) (tdf : Nat) (hd : decode code pc = .ok (.tableswitch dflt lo hi offs, len)) (hlo : lo = (lo' : Int)) (hhi : hi = ((lo' + tg.length : Nat) : Int) - 1) (hb : Nat.blt (lo' + tg.length) 2147483648 = true) (ht : offs.toList.map (fun o => (pc : Int) + o) = tg.map (fun t : Nat => (t : Int))) (htd : (pc : Int) + dflt = (tdf : Int))
    (kin : ∀ j, j < tg.length → x = nI (lo' + j) → JL L xs (tg.getD j 0) ls st w k n) (kout : (∀ j, j < tg.length → x ≠ nI (lo' + j)) → JL L xs tdf ls st w k n) : JL L xs pc ls (.int x :: st) w k n := by
  have hb' : lo' + tg.length < 2 ^ 31 := Nat.le_of_ble_eq_true hb
  rcases tsw x lo' tg.length hb' with ⟨h1, h2⟩ | ⟨j, hj, hx⟩
  · exact L_tout hd (by rw [hlo, hhi]; exact h1) htd (kout h2)
  · have hxi : x.toInt = ((lo' + j : Nat) : Int) := by rw [hx, nI_toInt (by omega)]
    have hl := congrArg List.length ht
    simp only [List.length_map, Array.length_toList] at hl
    have hjo : j < offs.size := by omega
    have h3 : (offs.toList.map (fun o => (pc : Int) + o))[j]? = (tg.map (fun t : Nat => (t : Int)))[j]? := by rw [ht]
    rw [List.getElem?_map, List.getElem?_map, List.getElem?_eq_getElem (by simpa using hjo), List.getElem?_eq_getElem hj] at h3
    have h4 := Option.some.inj h3
    refine L_tin (off := offs[j]) (tgt := tg.getD j 0) hd (by rw [hlo, hxi]; omega) (by rw [hhi, hxi]; omega) ?_ ?_ (kin j hj hx)
    · rw [hxi, hlo, show (((lo' + j : Nat) : Int) - (lo' : Int)).toNat = j by omega]
      exact Array.getElem?_eq_getElem hjo
    · rw [List.getD, List.getElem?_eq_getElem hj]
      simpa using h4
end LR
