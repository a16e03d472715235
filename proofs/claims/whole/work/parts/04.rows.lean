/-! THE ENGINE'S ROWS (own program gen04.py): an instruction a row -/
section JR
variable {M : JM} {d mc ms n0 pc k n : Nat} {ls : List (Nat × Value)} {st : List Value} {w : List EC} {Q : Option Value → List EC → Prop}
theorem J_iconst {i : Int} {v : Int32} (hd : decode M.2.1 pc = .ok (.iconst i, 1)) (hv : Int32.ofInt i = v) (kk : J M d mc ms n0 (pc + 1) ls (.int v :: st) w k n Q) : J M d mc ms n0 (pc) ls (st) w k n Q := by
  intro z D aC A p l e R s m args below meth c H locs lsA ad0 ad E hn h0 hl hP hD hS
  exact lv_iconst E.1 E.2.1 hd hv (kk z D aC A p l e R s m args below meth c H locs lsA ad0 ad E hn h0 hl hP hD hS)
theorem J_bipush {i : Int} {v : Int32} (hd : decode M.2.1 pc = .ok (.bipush i, 2)) (hv : (Int8.ofInt i).toInt32 = v) (kk : J M d mc ms n0 (pc + 2) ls (.int v :: st) w k n Q) : J M d mc ms n0 (pc) ls (st) w k n Q := by
  intro z D aC A p l e R s m args below meth c H locs lsA ad0 ad E hn h0 hl hP hD hS
  exact lv_bipush E.1 E.2.1 hd hv (kk z D aC A p l e R s m args below meth c H locs lsA ad0 ad E hn h0 hl hP hD hS)
theorem J_sipush {i : Int} {v : Int32} (hd : decode M.2.1 pc = .ok (.sipush i, 3)) (hv : (Int16.ofInt i).toInt32 = v) (kk : J M d mc ms n0 (pc + 3) ls (.int v :: st) w k n Q) : J M d mc ms n0 (pc) ls (st) w k n Q := by
  intro z D aC A p l e R s m args below meth c H locs lsA ad0 ad E hn h0 hl hP hD hS
  exact lv_sipush E.1 E.2.1 hd hv (kk z D aC A p l e R s m args below meth c H locs lsA ad0 ad E hn h0 hl hP hD hS)
theorem J_lconst {i : Fin 2} {v : Int64} (hd : decode M.2.1 pc = .ok (.lconst i, 1)) (hv : Int64.ofNat (i : Nat) = v) (kk : J M d mc ms n0 (pc + 1) ls (.long v :: st) w k n Q) : J M d mc ms n0 (pc) ls (st) w k n Q := by
  intro z D aC A p l e R s m args below meth c H locs lsA ad0 ad E hn h0 hl hP hD hS
  exact lv_lconst E.1 E.2.1 hd hv (kk z D aC A p l e R s m args below meth c H locs lsA ad0 ad E hn h0 hl hP hD hS)
theorem J_iload_n {j : Fin 4} {x : Int32} (hd : decode M.2.1 pc = .ok (.iload_n j, 1)) (hx : lk ls (j : Nat) = some (.int x)) (kk : J M d mc ms n0 (pc + 1) ls (.int x :: st) w k n Q) : J M d mc ms n0 (pc) ls (st) w k n Q := by
  intro z D aC A p l e R s m args below meth c H locs lsA ad0 ad E hn h0 hl hP hD hS
  exact lv_iload_n E.1 E.2.1 hd rfl (lk_has hl hx) (kk z D aC A p l e R s m args below meth c H locs lsA ad0 ad E hn h0 hl hP hD hS)
theorem J_iload {j : Nat} {x : Int32} (hd : decode M.2.1 pc = .ok (.iload j, 2)) (hx : lk ls j = some (.int x)) (kk : J M d mc ms n0 (pc + 2) ls (.int x :: st) w k n Q) : J M d mc ms n0 (pc) ls (st) w k n Q := by
  intro z D aC A p l e R s m args below meth c H locs lsA ad0 ad E hn h0 hl hP hD hS
  exact lv_iload E.1 E.2.1 hd (lk_has hl hx) (kk z D aC A p l e R s m args below meth c H locs lsA ad0 ad E hn h0 hl hP hD hS)
theorem J_lload_n {j : Fin 4} {x : Int64} (hd : decode M.2.1 pc = .ok (.lload_n j, 1)) (hx : lk ls (j : Nat) = some (.long x)) (kk : J M d mc ms n0 (pc + 1) ls (.long x :: st) w k n Q) : J M d mc ms n0 (pc) ls (st) w k n Q := by
  intro z D aC A p l e R s m args below meth c H locs lsA ad0 ad E hn h0 hl hP hD hS
  exact lv_lload_n E.1 E.2.1 hd rfl (lk_has hl hx) (kk z D aC A p l e R s m args below meth c H locs lsA ad0 ad E hn h0 hl hP hD hS)
theorem J_lload {j : Nat} {x : Int64} (hd : decode M.2.1 pc = .ok (.lload j, 2)) (hx : lk ls j = some (.long x)) (kk : J M d mc ms n0 (pc + 2) ls (.long x :: st) w k n Q) : J M d mc ms n0 (pc) ls (st) w k n Q := by
  intro z D aC A p l e R s m args below meth c H locs lsA ad0 ad E hn h0 hl hP hD hS
  exact lv_lload E.1 E.2.1 hd (lk_has hl hx) (kk z D aC A p l e R s m args below meth c H locs lsA ad0 ad E hn h0 hl hP hD hS)
theorem J_aload_n {j : Fin 4} {x : Nat} (hd : decode M.2.1 pc = .ok (.aload_n j, 1)) (hx : lk ls (j : Nat) = some (.ref x)) (kk : J M d mc ms n0 (pc + 1) ls (.ref x :: st) w k n Q) : J M d mc ms n0 (pc) ls (st) w k n Q := by
  intro z D aC A p l e R s m args below meth c H locs lsA ad0 ad E hn h0 hl hP hD hS
  exact lv_aload_n E.1 E.2.1 hd rfl (lk_has hl hx) (kk z D aC A p l e R s m args below meth c H locs lsA ad0 ad E hn h0 hl hP hD hS)
theorem J_aload {j : Nat} {x : Nat} (hd : decode M.2.1 pc = .ok (.aload j, 2)) (hx : lk ls j = some (.ref x)) (kk : J M d mc ms n0 (pc + 2) ls (.ref x :: st) w k n Q) : J M d mc ms n0 (pc) ls (st) w k n Q := by
  intro z D aC A p l e R s m args below meth c H locs lsA ad0 ad E hn h0 hl hP hD hS
  exact lv_aload E.1 E.2.1 hd (lk_has hl hx) (kk z D aC A p l e R s m args below meth c H locs lsA ad0 ad E hn h0 hl hP hD hS)
theorem J_iadd {x y : Int32} (hd : decode M.2.1 pc = .ok (.iadd, 1)) (kk : J M d mc ms n0 (pc + 1) ls (.int (x + y) :: st) w k n Q) : J M d mc ms n0 (pc) ls (.int y :: .int x :: st) w k n Q := by
  intro z D aC A p l e R s m args below meth c H locs lsA ad0 ad E hn h0 hl hP hD hS
  exact lv_iadd E.1 E.2.1 hd (kk z D aC A p l e R s m args below meth c H locs lsA ad0 ad E hn h0 hl hP hD hS)
theorem J_isub {x y : Int32} (hd : decode M.2.1 pc = .ok (.isub, 1)) (kk : J M d mc ms n0 (pc + 1) ls (.int (x - y) :: st) w k n Q) : J M d mc ms n0 (pc) ls (.int y :: .int x :: st) w k n Q := by
  intro z D aC A p l e R s m args below meth c H locs lsA ad0 ad E hn h0 hl hP hD hS
  exact lv_isub E.1 E.2.1 hd (kk z D aC A p l e R s m args below meth c H locs lsA ad0 ad E hn h0 hl hP hD hS)
theorem J_imul {x y : Int32} (hd : decode M.2.1 pc = .ok (.imul, 1)) (kk : J M d mc ms n0 (pc + 1) ls (.int (x * y) :: st) w k n Q) : J M d mc ms n0 (pc) ls (.int y :: .int x :: st) w k n Q := by
  intro z D aC A p l e R s m args below meth c H locs lsA ad0 ad E hn h0 hl hP hD hS
  exact lv_imul E.1 E.2.1 hd (kk z D aC A p l e R s m args below meth c H locs lsA ad0 ad E hn h0 hl hP hD hS)
theorem J_iand {x y : Int32} (hd : decode M.2.1 pc = .ok (.iand, 1)) (kk : J M d mc ms n0 (pc + 1) ls (.int (x &&& y) :: st) w k n Q) : J M d mc ms n0 (pc) ls (.int y :: .int x :: st) w k n Q := by
  intro z D aC A p l e R s m args below meth c H locs lsA ad0 ad E hn h0 hl hP hD hS
  exact lv_iand E.1 E.2.1 hd (kk z D aC A p l e R s m args below meth c H locs lsA ad0 ad E hn h0 hl hP hD hS)
theorem J_ior {x y : Int32} (hd : decode M.2.1 pc = .ok (.ior, 1)) (kk : J M d mc ms n0 (pc + 1) ls (.int (x ||| y) :: st) w k n Q) : J M d mc ms n0 (pc) ls (.int y :: .int x :: st) w k n Q := by
  intro z D aC A p l e R s m args below meth c H locs lsA ad0 ad E hn h0 hl hP hD hS
  exact lv_ior E.1 E.2.1 hd (kk z D aC A p l e R s m args below meth c H locs lsA ad0 ad E hn h0 hl hP hD hS)
theorem J_ixor {x y : Int32} (hd : decode M.2.1 pc = .ok (.ixor, 1)) (kk : J M d mc ms n0 (pc + 1) ls (.int (x ^^^ y) :: st) w k n Q) : J M d mc ms n0 (pc) ls (.int y :: .int x :: st) w k n Q := by
  intro z D aC A p l e R s m args below meth c H locs lsA ad0 ad E hn h0 hl hP hD hS
  exact lv_ixor E.1 E.2.1 hd (kk z D aC A p l e R s m args below meth c H locs lsA ad0 ad E hn h0 hl hP hD hS)
theorem J_ishl {x y : Int32} (hd : decode M.2.1 pc = .ok (.ishl, 1)) (kk : J M d mc ms n0 (pc + 1) ls (.int (x <<< (y &&& 31)) :: st) w k n Q) : J M d mc ms n0 (pc) ls (.int y :: .int x :: st) w k n Q := by
  intro z D aC A p l e R s m args below meth c H locs lsA ad0 ad E hn h0 hl hP hD hS
  exact lv_ishl E.1 E.2.1 hd (kk z D aC A p l e R s m args below meth c H locs lsA ad0 ad E hn h0 hl hP hD hS)
theorem J_ishr {x y : Int32} (hd : decode M.2.1 pc = .ok (.ishr, 1)) (kk : J M d mc ms n0 (pc + 1) ls (.int (x >>> (y &&& 31)) :: st) w k n Q) : J M d mc ms n0 (pc) ls (.int y :: .int x :: st) w k n Q := by
  intro z D aC A p l e R s m args below meth c H locs lsA ad0 ad E hn h0 hl hP hD hS
  exact lv_ishr E.1 E.2.1 hd (kk z D aC A p l e R s m args below meth c H locs lsA ad0 ad E hn h0 hl hP hD hS)
theorem J_idiv {x y : Int32} (hd : decode M.2.1 pc = .ok (.idiv, 1)) (hy : ¬ y = 0) (kk : J M d mc ms n0 (pc + 1) ls (.int (x / y) :: st) w k n Q) : J M d mc ms n0 (pc) ls (.int y :: .int x :: st) w k n Q := by
  intro z D aC A p l e R s m args below meth c H locs lsA ad0 ad E hn h0 hl hP hD hS
  exact lv_idiv E.1 E.2.1 hd hy (kk z D aC A p l e R s m args below meth c H locs lsA ad0 ad E hn h0 hl hP hD hS)
theorem J_irem {x y : Int32} (hd : decode M.2.1 pc = .ok (.irem, 1)) (hy : ¬ y = 0) (kk : J M d mc ms n0 (pc + 1) ls (.int (x - x / y * y) :: st) w k n Q) : J M d mc ms n0 (pc) ls (.int y :: .int x :: st) w k n Q := by
  intro z D aC A p l e R s m args below meth c H locs lsA ad0 ad E hn h0 hl hP hD hS
  exact lv_irem E.1 E.2.1 hd hy (kk z D aC A p l e R s m args below meth c H locs lsA ad0 ad E hn h0 hl hP hD hS)
theorem J_ineg {x : Int32} (hd : decode M.2.1 pc = .ok (.ineg, 1)) (kk : J M d mc ms n0 (pc + 1) ls (.int (-x) :: st) w k n Q) : J M d mc ms n0 (pc) ls (.int x :: st) w k n Q := by
  intro z D aC A p l e R s m args below meth c H locs lsA ad0 ad E hn h0 hl hP hD hS
  exact lv_ineg E.1 E.2.1 hd (kk z D aC A p l e R s m args below meth c H locs lsA ad0 ad E hn h0 hl hP hD hS)
theorem J_lneg {x : Int64} (hd : decode M.2.1 pc = .ok (.lneg, 1)) (kk : J M d mc ms n0 (pc + 1) ls (.long (-x) :: st) w k n Q) : J M d mc ms n0 (pc) ls (.long x :: st) w k n Q := by
  intro z D aC A p l e R s m args below meth c H locs lsA ad0 ad E hn h0 hl hP hD hS
  exact lv_lneg E.1 E.2.1 hd (kk z D aC A p l e R s m args below meth c H locs lsA ad0 ad E hn h0 hl hP hD hS)
theorem J_ladd {x y : Int64} (hd : decode M.2.1 pc = .ok (.ladd, 1)) (kk : J M d mc ms n0 (pc + 1) ls (.long (x + y) :: st) w k n Q) : J M d mc ms n0 (pc) ls (.long y :: .long x :: st) w k n Q := by
  intro z D aC A p l e R s m args below meth c H locs lsA ad0 ad E hn h0 hl hP hD hS
  exact lv_ladd E.1 E.2.1 hd (kk z D aC A p l e R s m args below meth c H locs lsA ad0 ad E hn h0 hl hP hD hS)
theorem J_lsub {x y : Int64} (hd : decode M.2.1 pc = .ok (.lsub, 1)) (kk : J M d mc ms n0 (pc + 1) ls (.long (x - y) :: st) w k n Q) : J M d mc ms n0 (pc) ls (.long y :: .long x :: st) w k n Q := by
  intro z D aC A p l e R s m args below meth c H locs lsA ad0 ad E hn h0 hl hP hD hS
  exact lv_lsub E.1 E.2.1 hd (kk z D aC A p l e R s m args below meth c H locs lsA ad0 ad E hn h0 hl hP hD hS)
theorem J_lmul {x y : Int64} (hd : decode M.2.1 pc = .ok (.lmul, 1)) (kk : J M d mc ms n0 (pc + 1) ls (.long (x * y) :: st) w k n Q) : J M d mc ms n0 (pc) ls (.long y :: .long x :: st) w k n Q := by
  intro z D aC A p l e R s m args below meth c H locs lsA ad0 ad E hn h0 hl hP hD hS
  exact lv_lmul E.1 E.2.1 hd (kk z D aC A p l e R s m args below meth c H locs lsA ad0 ad E hn h0 hl hP hD hS)
theorem J_land {x y : Int64} (hd : decode M.2.1 pc = .ok (.land, 1)) (kk : J M d mc ms n0 (pc + 1) ls (.long (x &&& y) :: st) w k n Q) : J M d mc ms n0 (pc) ls (.long y :: .long x :: st) w k n Q := by
  intro z D aC A p l e R s m args below meth c H locs lsA ad0 ad E hn h0 hl hP hD hS
  exact lv_land E.1 E.2.1 hd (kk z D aC A p l e R s m args below meth c H locs lsA ad0 ad E hn h0 hl hP hD hS)
theorem J_ldiv {x y : Int64} (hd : decode M.2.1 pc = .ok (.ldiv, 1)) (hy : ¬ y = 0) (kk : J M d mc ms n0 (pc + 1) ls (.long (x / y) :: st) w k n Q) : J M d mc ms n0 (pc) ls (.long y :: .long x :: st) w k n Q := by
  intro z D aC A p l e R s m args below meth c H locs lsA ad0 ad E hn h0 hl hP hD hS
  exact lv_ldiv E.1 E.2.1 hd hy (kk z D aC A p l e R s m args below meth c H locs lsA ad0 ad E hn h0 hl hP hD hS)
theorem J_lrem {x y : Int64} (hd : decode M.2.1 pc = .ok (.lrem, 1)) (hy : ¬ y = 0) (kk : J M d mc ms n0 (pc + 1) ls (.long (x - x / y * y) :: st) w k n Q) : J M d mc ms n0 (pc) ls (.long y :: .long x :: st) w k n Q := by
  intro z D aC A p l e R s m args below meth c H locs lsA ad0 ad E hn h0 hl hP hD hS
  exact lv_lrem E.1 E.2.1 hd hy (kk z D aC A p l e R s m args below meth c H locs lsA ad0 ad E hn h0 hl hP hD hS)
theorem J_i2l {x : Int32} (hd : decode M.2.1 pc = .ok (.i2l, 1)) (kk : J M d mc ms n0 (pc + 1) ls (.long x.toInt64 :: st) w k n Q) : J M d mc ms n0 (pc) ls (.int x :: st) w k n Q := by
  intro z D aC A p l e R s m args below meth c H locs lsA ad0 ad E hn h0 hl hP hD hS
  exact lv_i2l E.1 E.2.1 hd rfl (kk z D aC A p l e R s m args below meth c H locs lsA ad0 ad E hn h0 hl hP hD hS)
theorem J_l2i {x : Int64} (hd : decode M.2.1 pc = .ok (.l2i, 1)) (kk : J M d mc ms n0 (pc + 1) ls (.int x.toInt32 :: st) w k n Q) : J M d mc ms n0 (pc) ls (.long x :: st) w k n Q := by
  intro z D aC A p l e R s m args below meth c H locs lsA ad0 ad E hn h0 hl hP hD hS
  exact lv_l2i E.1 E.2.1 hd rfl (kk z D aC A p l e R s m args below meth c H locs lsA ad0 ad E hn h0 hl hP hD hS)
theorem J_i2b {x : Int32} (hd : decode M.2.1 pc = .ok (.i2b, 1)) (kk : J M d mc ms n0 (pc + 1) ls (.int x.toInt8.toInt32 :: st) w k n Q) : J M d mc ms n0 (pc) ls (.int x :: st) w k n Q := by
  intro z D aC A p l e R s m args below meth c H locs lsA ad0 ad E hn h0 hl hP hD hS
  exact lv_i2b E.1 E.2.1 hd rfl (kk z D aC A p l e R s m args below meth c H locs lsA ad0 ad E hn h0 hl hP hD hS)
theorem J_i2c {x : Int32} (hd : decode M.2.1 pc = .ok (.i2c, 1)) (kk : J M d mc ms n0 (pc + 1) ls (.int (x.toUInt32 % 65536).toInt32 :: st) w k n Q) : J M d mc ms n0 (pc) ls (.int x :: st) w k n Q := by
  intro z D aC A p l e R s m args below meth c H locs lsA ad0 ad E hn h0 hl hP hD hS
  exact lv_i2c E.1 E.2.1 hd rfl (kk z D aC A p l e R s m args below meth c H locs lsA ad0 ad E hn h0 hl hP hD hS)
theorem J_iushr {x y : Int32} (hd : decode M.2.1 pc = .ok (.iushr, 1)) (kk : J M d mc ms n0 (pc + 1) ls (.int (x.toUInt32 >>> (y.toUInt32 &&& Int32.toUInt32 31)).toInt32 :: st) w k n Q) : J M d mc ms n0 (pc) ls (.int y :: .int x :: st) w k n Q := by
  intro z D aC A p l e R s m args below meth c H locs lsA ad0 ad E hn h0 hl hP hD hS
  exact lv_iushr E.1 E.2.1 hd rfl (kk z D aC A p l e R s m args below meth c H locs lsA ad0 ad E hn h0 hl hP hD hS)
theorem J_lcmp {x y : Int64} (hd : decode M.2.1 pc = .ok (.lcmp, 1)) (kk : J M d mc ms n0 (pc + 1) ls (.int (lg_cmp x y) :: st) w k n Q) : J M d mc ms n0 (pc) ls (.long y :: .long x :: st) w k n Q := by
  intro z D aC A p l e R s m args below meth c H locs lsA ad0 ad E hn h0 hl hP hD hS
  exact W.lcmp E.1 E.2.1 hd (kk z D aC A p l e R s m args below meth c H locs lsA ad0 ad E hn h0 hl hP hD hS)
theorem J_dup {v : Value} (hd : decode M.2.1 pc = .ok (.dup, 1)) (hv : v.category = 1) (kk : J M d mc ms n0 (pc + 1) ls (v :: v :: st) w k n Q) : J M d mc ms n0 (pc) ls (v :: st) w k n Q := by
  intro z D aC A p l e R s m args below meth c H locs lsA ad0 ad E hn h0 hl hP hD hS
  exact lv_dup E.1 E.2.1 hd ((cv_cat _ _ _).trans hv) (kk z D aC A p l e R s m args below meth c H locs lsA ad0 ad E hn h0 hl hP hD hS)
theorem J_pop {v : Value} (hd : decode M.2.1 pc = .ok (.pop, 1)) (hv : v.category = 1) (kk : J M d mc ms n0 (pc + 1) ls (st) w k n Q) : J M d mc ms n0 (pc) ls (v :: st) w k n Q := by
  intro z D aC A p l e R s m args below meth c H locs lsA ad0 ad E hn h0 hl hP hD hS
  exact lv_pop E.1 E.2.1 hd ((cv_cat _ _ _).trans hv) (kk z D aC A p l e R s m args below meth c H locs lsA ad0 ad E hn h0 hl hP hD hS)
theorem J_dup2 {v u : Value} (hd : decode M.2.1 pc = .ok (.dup2, 1)) (hv : v.category = 1) (hu : u.category = 1) (kk : J M d mc ms n0 (pc + 1) ls (v :: u :: v :: u :: st) w k n Q) : J M d mc ms n0 (pc) ls (v :: u :: st) w k n Q := by
  intro z D aC A p l e R s m args below meth c H locs lsA ad0 ad E hn h0 hl hP hD hS
  exact lv_dup2_11 E.1 E.2.1 hd ((cv_cat _ _ _).trans hv) ((cv_cat _ _ _).trans hu) (kk z D aC A p l e R s m args below meth c H locs lsA ad0 ad E hn h0 hl hP hD hS)
theorem J_ldc {i : Nat} {v : Int32} (hd : decode M.2.1 pc = .ok (.ldc i, 2)) (hc : Cond.constant M.1.cls i v ∈ T0) (kk : J M d mc ms n0 (pc + 2) ls (.int v :: st) w k n Q) : J M d mc ms n0 (pc) ls (st) w k n Q := by
  intro z D aC A p l e R s m args below meth c H locs lsA ad0 ad E hn h0 hl hP hD hS
  exact lv_ldc E.1 E.2.1 E.2.2.2.2.1 (E.2.2.2.2.2.1 _ hc) hd (kk z D aC A p l e R s m args below meth c H locs lsA ad0 ad E hn h0 hl hP hD hS)
theorem J_ldc_w {i : Nat} {v : Int32} (hd : decode M.2.1 pc = .ok (.ldc_w i, 3)) (hc : Cond.constant M.1.cls i v ∈ T0) (kk : J M d mc ms n0 (pc + 3) ls (.int v :: st) w k n Q) : J M d mc ms n0 (pc) ls (st) w k n Q := by
  intro z D aC A p l e R s m args below meth c H locs lsA ad0 ad E hn h0 hl hP hD hS
  exact lv_ldcw E.1 E.2.1 E.2.2.2.2.1 (E.2.2.2.2.2.1 _ hc) hd (kk z D aC A p l e R s m args below meth c H locs lsA ad0 ad E hn h0 hl hP hD hS)
theorem J_ldc2_w {i : Nat} {v : Int64} (hd : decode M.2.1 pc = .ok (.ldc2_w i, 3)) (hc : Cond.constantLong M.1.cls i v ∈ T0) (kk : J M d mc ms n0 (pc + 3) ls (.long v :: st) w k n Q) : J M d mc ms n0 (pc) ls (st) w k n Q := by
  intro z D aC A p l e R s m args below meth c H locs lsA ad0 ad E hn h0 hl hP hD hS
  exact lv_ldc2 E.1 E.2.1 E.2.2.2.2.1 (E.2.2.2.2.2.1 _ hc) hd (kk z D aC A p l e R s m args below meth c H locs lsA ad0 ad E hn h0 hl hP hD hS)
theorem J_istore_n {j : Fin 4} {x : Int32} (hd : decode M.2.1 pc = .ok (.istore_n j, 1)) (hi : Nat.blt ((j : Nat)) M.2.2.1 = true) (kk : J M d mc ms n0 (pc + 1) (lput (j : Nat) (.int x) ls) (st) w k n Q) : J M d mc ms n0 (pc) ls (.int x :: st) w k n Q := by
  intro z D aC A p l e R s m args below meth c H locs lsA ad0 ad E hn h0 hl hP hD hS
  exact lv_istore_n E.1 E.2.1 hd rfl hl (Nat.le_of_ble_eq_true hi) rfl (fun ls' hl' => kk z D aC A p l e R s m args below meth c H locs ls' ad0 ad E hn h0 (hl'.less (lput_c1 (v := .int x))) hP hD hS)
theorem J_istore {j : Nat} {x : Int32} (hd : decode M.2.1 pc = .ok (.istore j, 2)) (hi : Nat.blt (j) M.2.2.1 = true) (kk : J M d mc ms n0 (pc + 2) (lput j (.int x) ls) (st) w k n Q) : J M d mc ms n0 (pc) ls (.int x :: st) w k n Q := by
  intro z D aC A p l e R s m args below meth c H locs lsA ad0 ad E hn h0 hl hP hD hS
  exact lv_istore E.1 E.2.1 hd hl (Nat.le_of_ble_eq_true hi) rfl (fun ls' hl' => kk z D aC A p l e R s m args below meth c H locs ls' ad0 ad E hn h0 (hl'.less (lput_c1 (v := .int x))) hP hD hS)
theorem J_astore_n {j : Fin 4} {x : Nat} (hd : decode M.2.1 pc = .ok (.astore_n j, 1)) (hi : Nat.blt ((j : Nat)) M.2.2.1 = true) (kk : J M d mc ms n0 (pc + 1) (lput (j : Nat) (.ref x) ls) (st) w k n Q) : J M d mc ms n0 (pc) ls (.ref x :: st) w k n Q := by
  intro z D aC A p l e R s m args below meth c H locs lsA ad0 ad E hn h0 hl hP hD hS
  exact lv_astore_n E.1 E.2.1 hd rfl hl (Nat.le_of_ble_eq_true hi) rfl (fun ls' hl' => kk z D aC A p l e R s m args below meth c H locs ls' ad0 ad E hn h0 (hl'.less (lput_c1 (v := .ref x))) hP hD hS)
theorem J_astore {j : Nat} {x : Nat} (hd : decode M.2.1 pc = .ok (.astore j, 2)) (hi : Nat.blt (j) M.2.2.1 = true) (kk : J M d mc ms n0 (pc + 2) (lput j (.ref x) ls) (st) w k n Q) : J M d mc ms n0 (pc) ls (.ref x :: st) w k n Q := by
  intro z D aC A p l e R s m args below meth c H locs lsA ad0 ad E hn h0 hl hP hD hS
  exact lv_astore E.1 E.2.1 hd hl (Nat.le_of_ble_eq_true hi) rfl (fun ls' hl' => kk z D aC A p l e R s m args below meth c H locs ls' ad0 ad E hn h0 (hl'.less (lput_c1 (v := .ref x))) hP hD hS)
theorem J_lstore_n {j : Fin 4} {x : Int64} (hd : decode M.2.1 pc = .ok (.lstore_n j, 1)) (hi : Nat.blt ((j : Nat) + 1) M.2.2.1 = true) (kk : J M d mc ms n0 (pc + 1) (lput (j : Nat) (.long x) ls) (st) w k n Q) : J M d mc ms n0 (pc) ls (.long x :: st) w k n Q := by
  intro z D aC A p l e R s m args below meth c H locs lsA ad0 ad E hn h0 hl hP hD hS
  exact lv_lstore_n E.1 E.2.1 hd rfl hl (Nat.le_of_ble_eq_true hi) rfl (fun ls' hl' => kk z D aC A p l e R s m args below meth c H locs ls' ad0 ad E hn h0 (hl'.less (lput_c2 (v := .long x) rfl)) hP hD hS)
theorem J_lstore {j : Nat} {x : Int64} (hd : decode M.2.1 pc = .ok (.lstore j, 2)) (hi : Nat.blt (j + 1) M.2.2.1 = true) (kk : J M d mc ms n0 (pc + 2) (lput j (.long x) ls) (st) w k n Q) : J M d mc ms n0 (pc) ls (.long x :: st) w k n Q := by
  intro z D aC A p l e R s m args below meth c H locs lsA ad0 ad E hn h0 hl hP hD hS
  exact lv_lstore E.1 E.2.1 hd hl (Nat.le_of_ble_eq_true hi) rfl (fun ls' hl' => kk z D aC A p l e R s m args below meth c H locs ls' ad0 ad E hn h0 (hl'.less (lput_c2 (v := .long x) rfl)) hP hD hS)
theorem J_iinc {j : Nat} {i : Int} {x v : Int32} (hd : decode M.2.1 pc = .ok (.iinc j i, 3)) (hx : lk ls j = some (.int x)) (hv : x + Int32.ofInt i = v) (hi : Nat.blt j M.2.2.1 = true) (kk : J M d mc ms n0 (pc + 3) (lput j (.int v) ls) (st) w k n Q) : J M d mc ms n0 (pc) ls (st) w k n Q := by
  intro z D aC A p l e R s m args below meth c H locs lsA ad0 ad E hn h0 hl hP hD hS
  obtain ⟨q, hq⟩ := List.getElem?_of_mem (List.mem_map.mpr ⟨(j, .int x), lk_mem hx, rfl⟩ : (j, Value.int x) ∈ cl z ad ls)
  exact lv_iinc E.1 E.2.1 hd hl (k := q) hq hv (Nat.le_of_ble_eq_true hi) rfl (fun ls' hl' => kk z D aC A p l e R s m args below meth c H locs ls' ad0 ad E hn h0 (hl'.less (lput_c1 (v := .int v))) hP hD hS)
theorem J_ls (ls' : List (Nat × Value)) (hs : ∀ q ∈ ls', q ∈ ls) (kk : J M d mc ms n0 (pc) ls' (st) w k n Q) : J M d mc ms n0 (pc) ls (st) w k n Q := by
  intro z D aC A p l e R s m args below meth c H locs lsA ad0 ad E hn h0 hl hP hD hS
  exact kk z D aC A p l e R s m args below meth c H locs lsA ad0 ad E hn h0 (hl.less (fun q hq => by obtain ⟨a, ha, rfl⟩ := List.mem_map.mp hq; exact List.mem_map.mpr ⟨a, hs a ha, rfl⟩)) hP hD hS
theorem J_lk (ls' : List (Nat × Value)) (hs : ls'.map (fun q => lk ls q.1) = ls'.map (fun q => some q.2)) (kk : J M d mc ms n0 (pc) ls' (st) w k n Q) : J M d mc ms n0 (pc) ls (st) w k n Q := by
  refine J_ls ls' (fun q hq => ?_) kk
  obtain ⟨i, hi⟩ := List.getElem?_of_mem hq
  have h1 : (ls'.map (fun q => lk ls q.1))[i]? = some (some q.2) := by rw [hs, List.getElem?_map, hi]; rfl
  rw [List.getElem?_map, hi] at h1
  exact lk_mem (Option.some.inj h1)
theorem J_if_eq {x : Int32} {off : Int} {tgt : Nat} (hd : decode M.2.1 pc = .ok (.ifCond .eq off, 3)) (ht : (pc : Int) + off = (tgt : Int)) (kt : x = 0 → J M d mc ms n0 (tgt) ls (st) w k n Q) (kf : ¬ x = 0 → J M d mc ms n0 (pc + 3) ls (st) w k n Q) : J M d mc ms n0 (pc) ls (.int x :: st) w k n Q := by
  intro z D aC A p l e R s m args below meth c H locs lsA ad0 ad E hn h0 hl hP hD hS
  exact lv_if_eq E.1 E.2.1 hd ht (fun hc => kt hc z D aC A p l e R s m args below meth c H locs lsA ad0 ad E hn h0 hl hP hD hS) (fun hc => kf hc z D aC A p l e R s m args below meth c H locs lsA ad0 ad E hn h0 hl hP hD hS)
theorem J_icmp_eq {x y : Int32} {off : Int} {tgt : Nat} (hd : decode M.2.1 pc = .ok (.if_icmp .eq off, 3)) (ht : (pc : Int) + off = (tgt : Int)) (kt : x = y → J M d mc ms n0 (tgt) ls (st) w k n Q) (kf : ¬ x = y → J M d mc ms n0 (pc + 3) ls (st) w k n Q) : J M d mc ms n0 (pc) ls (.int y :: .int x :: st) w k n Q := by
  intro z D aC A p l e R s m args below meth c H locs lsA ad0 ad E hn h0 hl hP hD hS
  exact lv_icmp_eq E.1 E.2.1 hd ht (fun hc => kt hc z D aC A p l e R s m args below meth c H locs lsA ad0 ad E hn h0 hl hP hD hS) (fun hc => kf hc z D aC A p l e R s m args below meth c H locs lsA ad0 ad E hn h0 hl hP hD hS)
theorem J_if_ne {x : Int32} {off : Int} {tgt : Nat} (hd : decode M.2.1 pc = .ok (.ifCond .ne off, 3)) (ht : (pc : Int) + off = (tgt : Int)) (kt : ¬ x = 0 → J M d mc ms n0 (tgt) ls (st) w k n Q) (kf : x = 0 → J M d mc ms n0 (pc + 3) ls (st) w k n Q) : J M d mc ms n0 (pc) ls (.int x :: st) w k n Q := by
  intro z D aC A p l e R s m args below meth c H locs lsA ad0 ad E hn h0 hl hP hD hS
  exact lv_if_ne E.1 E.2.1 hd ht (fun hc => kt hc z D aC A p l e R s m args below meth c H locs lsA ad0 ad E hn h0 hl hP hD hS) (fun hc => kf hc z D aC A p l e R s m args below meth c H locs lsA ad0 ad E hn h0 hl hP hD hS)
theorem J_icmp_ne {x y : Int32} {off : Int} {tgt : Nat} (hd : decode M.2.1 pc = .ok (.if_icmp .ne off, 3)) (ht : (pc : Int) + off = (tgt : Int)) (kt : ¬ x = y → J M d mc ms n0 (tgt) ls (st) w k n Q) (kf : x = y → J M d mc ms n0 (pc + 3) ls (st) w k n Q) : J M d mc ms n0 (pc) ls (.int y :: .int x :: st) w k n Q := by
  intro z D aC A p l e R s m args below meth c H locs lsA ad0 ad E hn h0 hl hP hD hS
  exact lv_icmp_ne E.1 E.2.1 hd ht (fun hc => kt hc z D aC A p l e R s m args below meth c H locs lsA ad0 ad E hn h0 hl hP hD hS) (fun hc => kf hc z D aC A p l e R s m args below meth c H locs lsA ad0 ad E hn h0 hl hP hD hS)
theorem J_if_lt {x : Int32} {off : Int} {tgt : Nat} (hd : decode M.2.1 pc = .ok (.ifCond .lt off, 3)) (ht : (pc : Int) + off = (tgt : Int)) (kt : x < 0 → J M d mc ms n0 (tgt) ls (st) w k n Q) (kf : ¬ x < 0 → J M d mc ms n0 (pc + 3) ls (st) w k n Q) : J M d mc ms n0 (pc) ls (.int x :: st) w k n Q := by
  intro z D aC A p l e R s m args below meth c H locs lsA ad0 ad E hn h0 hl hP hD hS
  exact lv_if_lt E.1 E.2.1 hd ht (fun hc => kt hc z D aC A p l e R s m args below meth c H locs lsA ad0 ad E hn h0 hl hP hD hS) (fun hc => kf hc z D aC A p l e R s m args below meth c H locs lsA ad0 ad E hn h0 hl hP hD hS)
theorem J_icmp_lt {x y : Int32} {off : Int} {tgt : Nat} (hd : decode M.2.1 pc = .ok (.if_icmp .lt off, 3)) (ht : (pc : Int) + off = (tgt : Int)) (kt : x < y → J M d mc ms n0 (tgt) ls (st) w k n Q) (kf : ¬ x < y → J M d mc ms n0 (pc + 3) ls (st) w k n Q) : J M d mc ms n0 (pc) ls (.int y :: .int x :: st) w k n Q := by
  intro z D aC A p l e R s m args below meth c H locs lsA ad0 ad E hn h0 hl hP hD hS
  exact lv_icmp_lt E.1 E.2.1 hd ht (fun hc => kt hc z D aC A p l e R s m args below meth c H locs lsA ad0 ad E hn h0 hl hP hD hS) (fun hc => kf hc z D aC A p l e R s m args below meth c H locs lsA ad0 ad E hn h0 hl hP hD hS)
theorem J_if_ge {x : Int32} {off : Int} {tgt : Nat} (hd : decode M.2.1 pc = .ok (.ifCond .ge off, 3)) (ht : (pc : Int) + off = (tgt : Int)) (kt : 0 ≤ x → J M d mc ms n0 (tgt) ls (st) w k n Q) (kf : ¬ 0 ≤ x → J M d mc ms n0 (pc + 3) ls (st) w k n Q) : J M d mc ms n0 (pc) ls (.int x :: st) w k n Q := by
  intro z D aC A p l e R s m args below meth c H locs lsA ad0 ad E hn h0 hl hP hD hS
  exact lv_if_ge E.1 E.2.1 hd ht (fun hc => kt hc z D aC A p l e R s m args below meth c H locs lsA ad0 ad E hn h0 hl hP hD hS) (fun hc => kf hc z D aC A p l e R s m args below meth c H locs lsA ad0 ad E hn h0 hl hP hD hS)
theorem J_icmp_ge {x y : Int32} {off : Int} {tgt : Nat} (hd : decode M.2.1 pc = .ok (.if_icmp .ge off, 3)) (ht : (pc : Int) + off = (tgt : Int)) (kt : y ≤ x → J M d mc ms n0 (tgt) ls (st) w k n Q) (kf : ¬ y ≤ x → J M d mc ms n0 (pc + 3) ls (st) w k n Q) : J M d mc ms n0 (pc) ls (.int y :: .int x :: st) w k n Q := by
  intro z D aC A p l e R s m args below meth c H locs lsA ad0 ad E hn h0 hl hP hD hS
  exact lv_icmp_ge E.1 E.2.1 hd ht (fun hc => kt hc z D aC A p l e R s m args below meth c H locs lsA ad0 ad E hn h0 hl hP hD hS) (fun hc => kf hc z D aC A p l e R s m args below meth c H locs lsA ad0 ad E hn h0 hl hP hD hS)
theorem J_if_gt {x : Int32} {off : Int} {tgt : Nat} (hd : decode M.2.1 pc = .ok (.ifCond .gt off, 3)) (ht : (pc : Int) + off = (tgt : Int)) (kt : 0 < x → J M d mc ms n0 (tgt) ls (st) w k n Q) (kf : ¬ 0 < x → J M d mc ms n0 (pc + 3) ls (st) w k n Q) : J M d mc ms n0 (pc) ls (.int x :: st) w k n Q := by
  intro z D aC A p l e R s m args below meth c H locs lsA ad0 ad E hn h0 hl hP hD hS
  exact lv_if_gt E.1 E.2.1 hd ht (fun hc => kt hc z D aC A p l e R s m args below meth c H locs lsA ad0 ad E hn h0 hl hP hD hS) (fun hc => kf hc z D aC A p l e R s m args below meth c H locs lsA ad0 ad E hn h0 hl hP hD hS)
theorem J_icmp_gt {x y : Int32} {off : Int} {tgt : Nat} (hd : decode M.2.1 pc = .ok (.if_icmp .gt off, 3)) (ht : (pc : Int) + off = (tgt : Int)) (kt : y < x → J M d mc ms n0 (tgt) ls (st) w k n Q) (kf : ¬ y < x → J M d mc ms n0 (pc + 3) ls (st) w k n Q) : J M d mc ms n0 (pc) ls (.int y :: .int x :: st) w k n Q := by
  intro z D aC A p l e R s m args below meth c H locs lsA ad0 ad E hn h0 hl hP hD hS
  exact lv_icmp_gt E.1 E.2.1 hd ht (fun hc => kt hc z D aC A p l e R s m args below meth c H locs lsA ad0 ad E hn h0 hl hP hD hS) (fun hc => kf hc z D aC A p l e R s m args below meth c H locs lsA ad0 ad E hn h0 hl hP hD hS)
theorem J_if_le {x : Int32} {off : Int} {tgt : Nat} (hd : decode M.2.1 pc = .ok (.ifCond .le off, 3)) (ht : (pc : Int) + off = (tgt : Int)) (kt : x ≤ 0 → J M d mc ms n0 (tgt) ls (st) w k n Q) (kf : ¬ x ≤ 0 → J M d mc ms n0 (pc + 3) ls (st) w k n Q) : J M d mc ms n0 (pc) ls (.int x :: st) w k n Q := by
  intro z D aC A p l e R s m args below meth c H locs lsA ad0 ad E hn h0 hl hP hD hS
  exact lv_if_le E.1 E.2.1 hd ht (fun hc => kt hc z D aC A p l e R s m args below meth c H locs lsA ad0 ad E hn h0 hl hP hD hS) (fun hc => kf hc z D aC A p l e R s m args below meth c H locs lsA ad0 ad E hn h0 hl hP hD hS)
theorem J_icmp_le {x y : Int32} {off : Int} {tgt : Nat} (hd : decode M.2.1 pc = .ok (.if_icmp .le off, 3)) (ht : (pc : Int) + off = (tgt : Int)) (kt : x ≤ y → J M d mc ms n0 (tgt) ls (st) w k n Q) (kf : ¬ x ≤ y → J M d mc ms n0 (pc + 3) ls (st) w k n Q) : J M d mc ms n0 (pc) ls (.int y :: .int x :: st) w k n Q := by
  intro z D aC A p l e R s m args below meth c H locs lsA ad0 ad E hn h0 hl hP hD hS
  exact lv_icmp_le E.1 E.2.1 hd ht (fun hc => kt hc z D aC A p l e R s m args below meth c H locs lsA ad0 ad E hn h0 hl hP hD hS) (fun hc => kf hc z D aC A p l e R s m args below meth c H locs lsA ad0 ad E hn h0 hl hP hD hS)
theorem J_goto {off : Int} {tgt : Nat} (hd : decode M.2.1 pc = .ok (.goto off, 3)) (ht : (pc : Int) + off = (tgt : Int)) (kk : J M d mc ms n0 (tgt) ls (st) w k n Q) : J M d mc ms n0 (pc) ls (st) w k n Q := by
  intro z D aC A p l e R s m args below meth c H locs lsA ad0 ad E hn h0 hl hP hD hS
  exact lv_goto E.1 E.2.1 hd ht (kk z D aC A p l e R s m args below meth c H locs lsA ad0 ad E hn h0 hl hP hD hS)
theorem J_tout {dflt lo hi : Int} {offs : Array Int} {len : Nat} {x : Int32} {tgt : Nat} (hd : decode M.2.1 pc = .ok (.tableswitch dflt lo hi offs, len)) (h : x.toInt < lo ∨ hi < x.toInt) (ht : (pc : Int) + dflt = (tgt : Int)) (kk : J M d mc ms n0 (tgt) ls (st) w k n Q) : J M d mc ms n0 (pc) ls (.int x :: st) w k n Q := by
  intro z D aC A p l e R s m args below meth c H locs lsA ad0 ad E hn h0 hl hP hD hS
  exact lv_tableOut E.1 E.2.1 hd h ht (kk z D aC A p l e R s m args below meth c H locs lsA ad0 ad E hn h0 hl hP hD hS)
theorem J_tin {dflt lo hi : Int} {offs : Array Int} {len : Nat} {x : Int32} {off : Int} {tgt : Nat} (hd : decode M.2.1 pc = .ok (.tableswitch dflt lo hi offs, len)) (h1 : ¬ x.toInt < lo) (h2 : ¬ hi < x.toInt) (ho : offs[(x.toInt - lo).toNat]? = some off) (ht : (pc : Int) + off = (tgt : Int)) (kk : J M d mc ms n0 (tgt) ls (st) w k n Q) : J M d mc ms n0 (pc) ls (.int x :: st) w k n Q := by
  intro z D aC A p l e R s m args below meth c H locs lsA ad0 ad E hn h0 hl hP hD hS
  exact lv_tableIn E.1 E.2.1 hd h1 h2 ho ht (kk z D aC A p l e R s m args below meth c H locs lsA ad0 ad E hn h0 hl hP hD hS)
theorem J_lsw {dflt : Int} {ps : Array (Int × Int)} {len : Nat} {x : Int32} {off : Int} {tgt : Nat} (hd : decode M.2.1 pc = .ok (.lookupswitch dflt ps, len)) (hp : (ps.toList.zip (ps.toList.drop 1)).all (fun (a, next) => a.1 < next.1) = true) (ho : Op.lookupswitch.offset ps.toList dflt x.toInt = off) (ht : (pc : Int) + off = (tgt : Int)) (kk : J M d mc ms n0 (tgt) ls (st) w k n Q) : J M d mc ms n0 (pc) ls (.int x :: st) w k n Q := by
  intro z D aC A p l e R s m args below meth c H locs lsA ad0 ad E hn h0 hl hP hD hS
  exact lv_lookup E.1 E.2.1 hd hp ho ht (kk z D aC A p l e R s m args below meth c H locs lsA ad0 ad E hn h0 hl hP hD hS)
theorem J_end {r : Option Value} {Hh : Heap} {z : Nat → Nat} {D : va_G} {aC : FieldType → ClassId} {A : Nat → Prop} {s : State} {locs : List Loc} {ad0 ad : Nat → Nat} {a : Array Value} (hq : Q r w) (hn : w.length = n0 + mc) (h0 : ∀ i, i < n0 ∨ n0 + mc ≤ i → ad i = ad0 i) (hP : va_P D cls0 (cw z aC ad w) Hh) (hD : DD A ad w.length) (hS : va_S A s.heap Hh locs) (t : State) (ht : t.heap = Hh) : JQ z D aC A ad0 n0 mc Q a s (.returned (r.map (cv z ad))) t := ⟨⟨r, w, ad, rfl, hq, h0, hn, by rw [ht]; exact hP, hD⟩, hS.F ht⟩
theorem J_iret {x : Int32} (hd : decode M.2.1 pc = .ok (.ireturn, 1)) (hr : M.2.2.2 = some .int) (hq : Q (some (.int x)) w) : J M d mc ms n0 pc ls [.int x] w mc ms Q := by
  intro z D aC A p l e R s m args below meth c H locs lsA ad0 ad E hn h0 hl hP hD hS
  exact W.iret E.1 E.2.1 (E.2.2.1.trans hr) (fun t ht _ => J_end (r := some (.int x)) hq hn h0 hP hD hS t ht) hS.2.2 hd E.2.2.2.2.2.2.1
theorem J_lret {x : Int64} (hd : decode M.2.1 pc = .ok (.lreturn, 1)) (hr : M.2.2.2 = some .long) (hq : Q (some (.long x)) w) : J M d mc ms n0 pc ls [.long x] w mc ms Q := by
  intro z D aC A p l e R s m args below meth c H locs lsA ad0 ad E hn h0 hl hP hD hS
  exact W.lret E.1 E.2.1 (E.2.2.1.trans hr) (fun t ht _ => J_end (r := some (.long x)) hq hn h0 hP hD hS t ht) hS.2.2 hd E.2.2.2.2.2.2.1
theorem J_vret (hd : decode M.2.1 pc = .ok (.return_, 1)) (hr : M.2.2.2 = none) (hq : Q (none) w) : J M d mc ms n0 pc ls [] w mc ms Q := by
  intro z D aC A p l e R s m args below meth c H locs lsA ad0 ad E hn h0 hl hP hD hS
  exact W.vret E.1 E.2.1 (E.2.2.1.trans hr) (fun t ht _ => J_end (r := none) hq hn h0 hP hD hS t ht) hS.2.2 hd E.2.2.2.2.2.2.1
theorem J_zret {x : Int32} {ty : FieldType} (hd : decode M.2.1 pc = .ok (.ireturn, 1)) (hr : M.2.2.2 = some ty) (hx : narrow ty (.int x) = .int x) (hq : Q (some (.int x)) w) : J M d mc ms n0 pc ls [.int x] w mc ms Q := by
  intro z D aC A p l e R s m args below meth c H locs lsA ad0 ad E hn h0 hl hP hD hS
  exact W.zret E.1 E.2.1 (E.2.2.1.trans hr) hx (fun t ht _ => J_end (r := some (.int x)) hq hn h0 hP hD hS t ht) hS.2.2 hd E.2.2.2.2.2.2.1
end JR
