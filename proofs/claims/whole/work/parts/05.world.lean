/-! THE ENGINE'S ROWS over the world: fields, arrays, calls (own) -/
/-- getfield idx of class own: the kf-th field of the ci-th class -/
def FL (own : String) (idx ci kf : Nat) : Prop := ∃ (C : String) (T : u_T) (N : Nat) (ty : Nat → FieldType), kOk ci C T N ty ∧ kf < N ∧ Cond.fieldLink own idx (T kf).1 (T kf).2.1 (T kf).2.2.1 ∈ T0
/-- putfield: the same, with the field's type, and whether it is final -/
def FP (own : String) (idx ci kf : Nat) (ty : FieldType) (fin : Bool) : Prop := ∃ (C : String) (T : u_T) (N : Nat) (ty0 : Nat → FieldType), kOk ci C T N ty0 ∧ kf < N ∧ Cond.fieldLink own idx (T kf).1 (T kf).2.1 (T kf).2.2.1 ∈ T0 ∧ (T kf).2.2.2 = fin ∧ parseFieldDescriptor (T kf).2.2.1 = some ty ∧ (fin = true → (T kf).1 = own)
/-- a value that a slot of this type holds as it is -/
def Fit (ty : FieldType) (v : Value) : Prop := ∀ z ad, narrow ty (cv z ad v) = cv z ad v ∧ fits ty (cv z ad v) = true
theorem Fit.int {x : Int32} : Fit .int (.int x) := fun _ _ => ⟨rfl, rfl⟩
theorem Fit.long {x : Int64} : Fit .long (.long x) := fun _ _ => ⟨rfl, rfl⟩
theorem Fit.arr {t : FieldType} {i : Nat} : Fit (.array t) (.ref i) := fun _ _ => ⟨rfl, rfl⟩
theorem Fit.obj {C : String} {i : Nat} : Fit (.object C) (.ref i) := fun _ _ => ⟨rfl, rfl⟩
theorem Fit.zb {x : Int32} (hx : x = 0 ∨ x = 1) : Fit .boolean (.int x) := fun _ _ => by
  rcases hx with rfl | rfl
  · exact ⟨by show narrow .boolean (.int 0) = .int 0; decide, by show fits .boolean (.int 0) = true; decide⟩
  · exact ⟨by show narrow .boolean (.int 1) = .int 1; decide, by show fits .boolean (.int 1) = true; decide⟩
section JW
variable {M : JM} {d mc ms n0 pc k n : Nat} {ls : List (Nat × Value)} {st : List Value} {w : List EC} {Q : Option Value → List EC → Prop}
theorem J_getf {idx ci kf i : Nat} {fs : List Value} {v : Value} (hd : decode M.2.1 pc = .ok (.getfield idx, 3)) (hk : FL M.1.cls idx ci kf) (hw : w[i]? = some (.inr (ci, fs))) (hv : fs[kf]? = some v) (kk : J M d mc ms n0 (pc + 3) ls (v :: st) w k n Q) : J M d mc ms n0 pc ls (.ref i :: st) w k n Q := by
  intro z D aC A p l e R s m args below meth c H locs lsA ad0 ad E hn h0 hl hP hD hS
  obtain ⟨C, T, N, ty, ⟨h1, h2, h3, h4⟩, h5, h6⟩ := hk
  exact va_get (v := cv z ad v) E.1 E.2.1 E.2.2.2.2.2.1 h2 E.2.2.2.2.1 E.2.2.2.2.2.2.2.2.2.2.2 hP i (cw_get hw) h1 kf h5 (E.2.2.2.2.2.1 _ h6) (fun _ h => h) (by rw [List.getElem?_map, hv]; rfl) hd (kk z D aC A p l e R s m args below meth c H locs lsA ad0 ad E hn h0 hl hP hD hS)
theorem J_putf {idx ci kf i : Nat} {fs : List Value} {v : Value} {ty : FieldType} (hd : decode M.2.1 pc = .ok (.putfield idx, 3)) (hk : FP M.1.cls idx ci kf ty false) (hw : w[i]? = some (.inr (ci, fs))) (hv : Fit ty v) (hf : Nat.blt kf fs.length = true) (kk : J M d mc ms n0 (pc + 3) ls st (w.set i (.inr (ci, fs.set kf v))) k n Q) : J M d mc ms n0 pc ls (v :: .ref i :: st) w k n Q := by
  intro z D aC A p l e R s m args below meth c H locs lsA ad0 ad E hn h0 hl hP hD hS
  obtain ⟨C, T, N, ty0, ⟨h1, h2, h3, h4⟩, h5, h6, h7, h8, -⟩ := hk
  refine va_put (v := cv z ad v) (ty := ty) E.1 E.2.1 E.2.2.2.2.2.1 h2 ty0 h3 h4 E.2.2.2.2.1 E.2.2.2.2.2.2.2.2.2.2.2 hP (DD_D hD) hS i (cw_get hw) h1 kf h5 (E.2.2.2.2.2.1 _ h6) (fun _ h => h) h7 h8 (hv z ad).1 (hv z ad).2 (by rw [List.length_map]; exact Nat.le_of_ble_eq_true hf) hd (fun H1 locs1 g1 g2 g3 => ?_)
  rw [show (cw z aC ad w).set i (ad i, .inr (ci, (fs.map (cv z ad)).set kf (cv z ad v))) = cw z aC ad (w.set i (.inr (ci, fs.set kf v))) by rw [← cw_set, ← List.map_set]; rfl] at g1
  exact kk z D aC A p l e R s m args below meth c H1 locs1 lsA ad0 ad E (by rw [List.length_set]; exact hn) h0 hl g1 (by rw [List.length_set]; exact hD) g3
theorem J_putF {idx ci kf i : Nat} {fs : List Value} {v : Value} {ty : FieldType} (hd : decode M.2.1 pc = .ok (.putfield idx, 3)) (hk : FP M.1.cls idx ci kf ty true) (hi : M.1.name = "<init>") (hw : w[i]? = some (.inr (ci, fs))) (hv : Fit ty v) (hf : Nat.blt kf fs.length = true) (kk : J M d mc ms n0 (pc + 3) ls st (w.set i (.inr (ci, fs.set kf v))) k n Q) : J M d mc ms n0 pc ls (v :: .ref i :: st) w k n Q := by
  intro z D aC A p l e R s m args below meth c H locs lsA ad0 ad E hn h0 hl hP hD hS
  obtain ⟨C, T, N, ty0, ⟨h1, h2, h3, h4⟩, h5, h6, h7, h8, h9⟩ := hk
  refine va_putF (v := cv z ad v) (ty := ty) E.1 E.2.1 E.2.2.2.2.2.1 h2 ty0 h3 h4 E.2.2.2.2.1 E.2.2.2.2.2.2.2.2.2.2.2 hP (DD_D hD) hS i (cw_get hw) h1 kf h5 (E.2.2.2.2.2.1 _ h6) (fun _ h => h) h7 (E.2.2.2.2.2.2.2.1.trans hi) (h9 rfl) h8 (hv z ad).1 (hv z ad).2 (by rw [List.length_map]; exact Nat.le_of_ble_eq_true hf) hd (fun H1 locs1 g1 g2 g3 => ?_)
  rw [show (cw z aC ad w).set i (ad i, .inr (ci, (fs.map (cv z ad)).set kf (cv z ad v))) = cw z aC ad (w.set i (.inr (ci, fs.set kf v))) by rw [← cw_set, ← List.map_set]; rfl] at g1
  exact kk z D aC A p l e R s m args below meth c H1 locs1 lsA ad0 ad E (by rw [List.length_set]; exact hn) h0 hl g1 (by rw [List.length_set]; exact hD) g3
theorem J_alen {i N : Nat} {ty : FieldType} {f : (Nat → Int32) ⊕ (Nat → Int64) ⊕ (Nat → UInt32) ⊕ (Nat → UInt64) ⊕ (Nat → Option Nat)} (t : Nat) (hd : decode M.2.1 pc = .ok (.arraylength, 1)) (hw : w[i]? = some (.inl (ty, N, f))) (ht : ∀ aC, (tys aC)[t]? = some (aC ty, ty)) (kk : J M d mc ms n0 (pc + 1) ls (.int (nI N) :: st) w k n Q) : J M d mc ms n0 pc ls (.ref i :: st) w k n Q := by
  intro z D aC A p l e R s m args below meth c H locs lsA ad0 ad E hn h0 hl hP hD hS
  exact va_alen (v := nI N) E.1 E.2.1 E.2.2.2.2.2.2.2.2.2.2.2 hP i t (cw_get hw) (ht aC) rfl hd (kk z D aC A p l e R s m args below meth c H locs lsA ad0 ad E hn h0 hl hP hD hS)
theorem J_iald {i N b : Nat} {f : Nat → Int32} {j : Int32} (hd : decode M.2.1 pc = .ok (.iaload, 1)) (hw : w[i]? = some (.inl (.int, N, .inl f))) (hj : j = nI b) (hb : b < N) (hN : Nat.blt N 2147483648 = true) (kk : J M d mc ms n0 (pc + 1) ls (.int (f b) :: st) w k n Q) : J M d mc ms n0 pc ls (.int j :: .ref i :: st) w k n Q := by
  intro z D aC A p l e R s m args below meth c H locs lsA ad0 ad E hn h0 hl hP hD hS
  have hN' : N < 2 ^ 31 := Nat.le_of_ble_eq_true hN
  subst hj
  refine va_iald E.1 E.2.1 E.2.2.2.2.2.2.2.2.2.2.2 hP i 0 (cw_get hw) rfl (vp_in_nI hb hN') hd ?_
  rw [nI_clamp (Nat.lt_trans hb hN')]
  exact kk z D aC A p l e R s m args below meth c H locs lsA ad0 ad E hn h0 hl hP hD hS
theorem J_bald {i N b : Nat} {f : Nat → Int32} {j : Int32} (hd : decode M.2.1 pc = .ok (.baload, 1)) (hw : w[i]? = some (.inl (.byte, N, .inl f))) (hj : j = nI b) (hb : b < N) (hN : Nat.blt N 2147483648 = true) (kk : J M d mc ms n0 (pc + 1) ls (.int (f b) :: st) w k n Q) : J M d mc ms n0 pc ls (.int j :: .ref i :: st) w k n Q := by
  intro z D aC A p l e R s m args below meth c H locs lsA ad0 ad E hn h0 hl hP hD hS
  have hN' : N < 2 ^ 31 := Nat.le_of_ble_eq_true hN
  subst hj
  refine va_bald E.1 E.2.1 E.2.2.2.2.2.2.2.2.2.2.2 hP i 1 (cw_get hw) rfl (vp_in_nI hb hN') hd ?_
  rw [nI_clamp (Nat.lt_trans hb hN')]
  exact kk z D aC A p l e R s m args below meth c H locs lsA ad0 ad E hn h0 hl hP hD hS
theorem J_zald {i N b : Nat} {f : Nat → Int32} {j : Int32} (hd : decode M.2.1 pc = .ok (.baload, 1)) (hw : w[i]? = some (.inl (.boolean, N, .inl f))) (hj : j = nI b) (hb : b < N) (hN : Nat.blt N 2147483648 = true) (kk : J M d mc ms n0 (pc + 1) ls (.int (f b) :: st) w k n Q) : J M d mc ms n0 pc ls (.int j :: .ref i :: st) w k n Q := by
  intro z D aC A p l e R s m args below meth c H locs lsA ad0 ad E hn h0 hl hP hD hS
  have hN' : N < 2 ^ 31 := Nat.le_of_ble_eq_true hN
  subst hj
  refine va_zald E.1 E.2.1 E.2.2.2.2.2.2.2.2.2.2.2 hP i 2 (cw_get hw) rfl (vp_in_nI hb hN') hd ?_
  rw [nI_clamp (Nat.lt_trans hb hN')]
  exact kk z D aC A p l e R s m args below meth c H locs lsA ad0 ad E hn h0 hl hP hD hS
theorem J_lald {i N b : Nat} {f : Nat → Int64} {j : Int32} (hd : decode M.2.1 pc = .ok (.laload, 1)) (hw : w[i]? = some (.inl (.long, N, .inr (.inl f)))) (hj : j = nI b) (hb : b < N) (hN : Nat.blt N 2147483648 = true) (kk : J M d mc ms n0 (pc + 1) ls (.long (f b) :: st) w k n Q) : J M d mc ms n0 pc ls (.int j :: .ref i :: st) w k n Q := by
  intro z D aC A p l e R s m args below meth c H locs lsA ad0 ad E hn h0 hl hP hD hS
  have hN' : N < 2 ^ 31 := Nat.le_of_ble_eq_true hN
  subst hj
  refine va_lald E.1 E.2.1 E.2.2.2.2.2.2.2.2.2.2.2 hP i 3 (cw_get hw) rfl (vp_in_nI hb hN') hd ?_
  rw [nI_clamp (Nat.lt_trans hb hN')]
  exact kk z D aC A p l e R s m args below meth c H locs lsA ad0 ad E hn h0 hl hP hD hS
theorem J_iast {i N b : Nat} {f : Nat → Int32} {j x : Int32} (hd : decode M.2.1 pc = .ok (.iastore, 1)) (hw : w[i]? = some (.inl (.int, N, .inl f))) (hj : j = nI b) (hb : b < N) (hN : Nat.blt N 2147483648 = true) (kk : J M d mc ms n0 (pc + 1) ls st (w.set i (.inl (.int, N, .inl (upd f b x)))) k n Q) : J M d mc ms n0 pc ls (.int x :: .int j :: .ref i :: st) w k n Q := by
  intro z D aC A p l e R s m args below meth c H locs lsA ad0 ad E hn h0 hl hP hD hS
  have hN' : N < 2 ^ 31 := Nat.le_of_ble_eq_true hN
  subst hj
  refine va_iast E.1 E.2.1 E.2.2.2.2.2.2.2.2.2.2.2 hP (DD_D hD) hS i 0 (cw_get hw) rfl (vp_in_nI hb hN') hd (fun H1 locs1 g1 g2 g3 => ?_)
  rw [nI_clamp (Nat.lt_trans hb hN')] at g1
  rw [show (cw z aC ad w).set i (ad i, .inl (aC .int, N, .inl (upd f b x))) = cw z aC ad (w.set i (.inl (.int, N, .inl (upd f b x)))) by rw [← cw_set]; rfl] at g1
  exact kk z D aC A p l e R s m args below meth c H1 locs1 lsA ad0 ad E (by rw [List.length_set]; exact hn) h0 hl g1 (by rw [List.length_set]; exact hD) g3
theorem J_bast {i N b : Nat} {f : Nat → Int32} {j x : Int32} (hd : decode M.2.1 pc = .ok (.bastore, 1)) (hw : w[i]? = some (.inl (.byte, N, .inl f))) (hj : j = nI b) (hb : b < N) (hN : Nat.blt N 2147483648 = true) (kk : J M d mc ms n0 (pc + 1) ls st (w.set i (.inl (.byte, N, .inl (upd f b (vp_nar .byte x))))) k n Q) : J M d mc ms n0 pc ls (.int x :: .int j :: .ref i :: st) w k n Q := by
  intro z D aC A p l e R s m args below meth c H locs lsA ad0 ad E hn h0 hl hP hD hS
  have hN' : N < 2 ^ 31 := Nat.le_of_ble_eq_true hN
  subst hj
  refine va_bast E.1 E.2.1 E.2.2.2.2.2.2.2.2.2.2.2 hP (DD_D hD) hS i 1 (cw_get hw) rfl (vp_in_nI hb hN') hd (fun H1 locs1 g1 g2 g3 => ?_)
  rw [nI_clamp (Nat.lt_trans hb hN')] at g1
  rw [show (cw z aC ad w).set i (ad i, .inl (aC .byte, N, .inl (upd f b (vp_nar .byte x)))) = cw z aC ad (w.set i (.inl (.byte, N, .inl (upd f b (vp_nar .byte x))))) by rw [← cw_set]; rfl] at g1
  exact kk z D aC A p l e R s m args below meth c H1 locs1 lsA ad0 ad E (by rw [List.length_set]; exact hn) h0 hl g1 (by rw [List.length_set]; exact hD) g3
theorem J_zast {i N b : Nat} {f : Nat → Int32} {j x : Int32} (hd : decode M.2.1 pc = .ok (.bastore, 1)) (hw : w[i]? = some (.inl (.boolean, N, .inl f))) (hj : j = nI b) (hb : b < N) (hN : Nat.blt N 2147483648 = true) (kk : J M d mc ms n0 (pc + 1) ls st (w.set i (.inl (.boolean, N, .inl (upd f b (vp_nar .boolean x))))) k n Q) : J M d mc ms n0 pc ls (.int x :: .int j :: .ref i :: st) w k n Q := by
  intro z D aC A p l e R s m args below meth c H locs lsA ad0 ad E hn h0 hl hP hD hS
  have hN' : N < 2 ^ 31 := Nat.le_of_ble_eq_true hN
  subst hj
  refine va_zast E.1 E.2.1 E.2.2.2.2.2.2.2.2.2.2.2 hP (DD_D hD) hS i 2 (cw_get hw) rfl (vp_in_nI hb hN') hd (fun H1 locs1 g1 g2 g3 => ?_)
  rw [nI_clamp (Nat.lt_trans hb hN')] at g1
  rw [show (cw z aC ad w).set i (ad i, .inl (aC .boolean, N, .inl (upd f b (vp_nar .boolean x)))) = cw z aC ad (w.set i (.inl (.boolean, N, .inl (upd f b (vp_nar .boolean x))))) by rw [← cw_set]; rfl] at g1
  exact kk z D aC A p l e R s m args below meth c H1 locs1 lsA ad0 ad E (by rw [List.length_set]; exact hn) h0 hl g1 (by rw [List.length_set]; exact hD) g3
theorem J_last {i N b : Nat} {f : Nat → Int64} {j : Int32} {x : Int64} (hd : decode M.2.1 pc = .ok (.lastore, 1)) (hw : w[i]? = some (.inl (.long, N, .inr (.inl f)))) (hj : j = nI b) (hb : b < N) (hN : Nat.blt N 2147483648 = true) (kk : J M d mc ms n0 (pc + 1) ls st (w.set i (.inl (.long, N, .inr (.inl (vp_updL f b x))))) k n Q) : J M d mc ms n0 pc ls (.long x :: .int j :: .ref i :: st) w k n Q := by
  intro z D aC A p l e R s m args below meth c H locs lsA ad0 ad E hn h0 hl hP hD hS
  have hN' : N < 2 ^ 31 := Nat.le_of_ble_eq_true hN
  subst hj
  refine va_last E.1 E.2.1 E.2.2.2.2.2.2.2.2.2.2.2 hP (DD_D hD) hS i 3 (cw_get hw) rfl (vp_in_nI hb hN') hd (fun H1 locs1 g1 g2 g3 => ?_)
  rw [nI_clamp (Nat.lt_trans hb hN')] at g1
  rw [show (cw z aC ad w).set i (ad i, .inl (aC .long, N, .inr (.inl (vp_updL f b x)))) = cw z aC ad (w.set i (.inl (.long, N, .inr (.inl (vp_updL f b x))))) by rw [← cw_set]; rfl] at g1
  exact kk z D aC A p l e R s m args below meth c H1 locs1 lsA ad0 ad E (by rw [List.length_set]; exact hn) h0 hl g1 (by rw [List.length_set]; exact hD) g3
end JW
