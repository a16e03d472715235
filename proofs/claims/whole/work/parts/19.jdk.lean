/-! JDK: Math, Integer.bitCount, Arrays.fill (own; walks by program wk.py) -/
abbrev iA (n : Nat) (f : Nat → Int32) : EC := .inl (.int, n, .inl f)
theorem nI_inc (b : Nat) : nI b + Int32.ofInt 1 = nI (b + 1) := nI_1 b
theorem inc1 (x : Int32) : x + Int32.ofInt 1 = x + nI 1 := rfl
def imax (x y : Int32) : Int32 := if x < y then y else x
def imin (x y : Int32) : Int32 := if y < x then y else x
def iabs (x : Int32) : Int32 := if 0 ≤ x then x else 0 - x
def lmax (x y : Int64) : Int64 := if y < x then x else y
def lmin (x y : Int64) : Int64 := if y < x then y else x
def labs (x : Int64) : Int64 := if 0 < x then x else -x
section JMa
variable {M : JM} {d mc ms n0 pc k n : Nat} {ls : List (Nat × Value)} {st : List Value} {w : List EC} {Q : Option Value → List EC → Prop}
theorem J_max {idx : Nat} {x y : Int32} (hd : decode M.2.1 pc = .ok (.invokestatic idx, 3)) (hk : Cond.methodLink M.1.cls idx Lib.Math.max.name ∈ T0) (hdd : 1 ≤ d) (hro : Nat.ble ((st.map (fun v => v.category)).sum + 13) 60 = true) (hkm : Nat.ble k mc = true) (hnm : Nat.ble n ms = true) (kk : J M d mc ms n0 (pc + 3) ls (.int (imax x y) :: st) w k n Q) : J M d mc ms n0 pc ls (.int y :: .int x :: st) w k n Q := by
  intro z D aC A p l e R s m args below meth c H locs lsA ad0 ad E hn h0 hl hP hD hS
  obtain ⟨e1, e2, e3, e4, e5, hts, e7, e8, e9, hE, hA, hK⟩ := id E
  have hro' := Nat.le_of_ble_eq_true hro
  refine va_mmax e1 e2 (e4.trans hl.1.symm) e5 (hts _ hk) (hts _ t850) (hts _ t13) (hts _ t851) (by rw [e9]; exact hdd) ?_ (by rw [e9]; exact Nat.le_of_ble_eq_true hkm) (by rw [e9]; exact Nat.le_of_ble_eq_true hnm) hd (kk z D aC A p l e R s m args below meth c H locs lsA ad0 ad E hn h0 hl hP hD hS)
  rw [e9, cv_cats]
  show _ ≤ 60 * d
  omega
theorem J_min {idx : Nat} {x y : Int32} (hd : decode M.2.1 pc = .ok (.invokestatic idx, 3)) (hk : Cond.methodLink M.1.cls idx Lib.Math.min.name ∈ T0) (hdd : 1 ≤ d) (hro : Nat.ble ((st.map (fun v => v.category)).sum + 13) 60 = true) (hkm : Nat.ble k mc = true) (hnm : Nat.ble n ms = true) (kk : J M d mc ms n0 (pc + 3) ls (.int (imin x y) :: st) w k n Q) : J M d mc ms n0 pc ls (.int y :: .int x :: st) w k n Q := by
  intro z D aC A p l e R s m args below meth c H locs lsA ad0 ad E hn h0 hl hP hD hS
  obtain ⟨e1, e2, e3, e4, e5, hts, e7, e8, e9, hE, hA, hK⟩ := id E
  have hro' := Nat.le_of_ble_eq_true hro
  refine va_mmin e1 e2 (e4.trans hl.1.symm) e5 (hts _ hk) (hts _ t491) (hts _ t13) (hts _ t492) (by rw [e9]; exact hdd) ?_ (by rw [e9]; exact Nat.le_of_ble_eq_true hkm) (by rw [e9]; exact Nat.le_of_ble_eq_true hnm) hd (kk z D aC A p l e R s m args below meth c H locs lsA ad0 ad E hn h0 hl hP hD hS)
  rw [e9, cv_cats]
  show _ ≤ 60 * d
  omega
theorem J_abs {idx : Nat} {x : Int32} (hd : decode M.2.1 pc = .ok (.invokestatic idx, 3)) (hk : Cond.methodLink M.1.cls idx Lib.Math.abs.name ∈ T0) (hdd : 1 ≤ d) (hro : Nat.ble ((st.map (fun v => v.category)).sum + 13) 60 = true) (hkm : Nat.ble k mc = true) (hnm : Nat.ble n ms = true) (kk : J M d mc ms n0 (pc + 3) ls (.int (iabs x) :: st) w k n Q) : J M d mc ms n0 pc ls (.int x :: st) w k n Q := by
  intro z D aC A p l e R s m args below meth c H locs lsA ad0 ad E hn h0 hl hP hD hS
  obtain ⟨e1, e2, e3, e4, e5, hts, e7, e8, e9, hE, hA, hK⟩ := id E
  have hro' := Nat.le_of_ble_eq_true hro
  refine va_mabs e1 e2 (e4.trans hl.1.symm) e5 (hts _ hk) (hts _ t997) (hts _ t13) (hts _ t998) (by rw [e9]; exact hdd) ?_ (by rw [e9]; exact Nat.le_of_ble_eq_true hkm) (by rw [e9]; exact Nat.le_of_ble_eq_true hnm) hd (kk z D aC A p l e R s m args below meth c H locs lsA ad0 ad E hn h0 hl hP hD hS)
  rw [e9, cv_cats]
  show _ ≤ 60 * d
  omega
theorem J_lmax {idx : Nat} {x y : Int64} (hd : decode M.2.1 pc = .ok (.invokestatic idx, 3)) (hk : Cond.methodLink M.1.cls idx Lib.MathLoose.max_long.x ∈ T0) (hdd : 1 ≤ d) (hro : Nat.ble ((st.map (fun v => v.category)).sum + 15) 60 = true) (hkm : Nat.ble k mc = true) (hnm : Nat.ble n ms = true) (kk : J M d mc ms n0 (pc + 3) ls (.long (lmax x y) :: st) w k n Q) : J M d mc ms n0 pc ls (.long y :: .long x :: st) w k n Q := by
  intro z D aC A p l e R s m args below meth c H locs lsA ad0 ad E hn h0 hl hP hD hS
  obtain ⟨e1, e2, e3, e4, e5, hts, e7, e8, e9, hE, hA, hK⟩ := id E
  have hro' := Nat.le_of_ble_eq_true hro
  refine va_mmax_long e1 e2 (e4.trans hl.1.symm) e5 (hts _ hk) (hts _ t847) (hts _ t13) (hts _ t848) (by rw [e9]; exact hdd) ?_ (by rw [e9]; exact Nat.le_of_ble_eq_true hkm) (by rw [e9]; exact Nat.le_of_ble_eq_true hnm) hd (kk z D aC A p l e R s m args below meth c H locs lsA ad0 ad E hn h0 hl hP hD hS)
  rw [e9, cv_cats]
  show _ ≤ 60 * d
  omega
theorem J_lmin {idx : Nat} {x y : Int64} (hd : decode M.2.1 pc = .ok (.invokestatic idx, 3)) (hk : Cond.methodLink M.1.cls idx Lib.MathLoose.min_long.x ∈ T0) (hdd : 1 ≤ d) (hro : Nat.ble ((st.map (fun v => v.category)).sum + 15) 60 = true) (hkm : Nat.ble k mc = true) (hnm : Nat.ble n ms = true) (kk : J M d mc ms n0 (pc + 3) ls (.long (lmin x y) :: st) w k n Q) : J M d mc ms n0 pc ls (.long y :: .long x :: st) w k n Q := by
  intro z D aC A p l e R s m args below meth c H locs lsA ad0 ad E hn h0 hl hP hD hS
  obtain ⟨e1, e2, e3, e4, e5, hts, e7, e8, e9, hE, hA, hK⟩ := id E
  have hro' := Nat.le_of_ble_eq_true hro
  refine va_mmin_long e1 e2 (e4.trans hl.1.symm) e5 (hts _ hk) (hts _ t844) (hts _ t13) (hts _ t845) (by rw [e9]; exact hdd) ?_ (by rw [e9]; exact Nat.le_of_ble_eq_true hkm) (by rw [e9]; exact Nat.le_of_ble_eq_true hnm) hd (kk z D aC A p l e R s m args below meth c H locs lsA ad0 ad E hn h0 hl hP hD hS)
  rw [e9, cv_cats]
  show _ ≤ 60 * d
  omega
theorem J_labs {idx : Nat} {x : Int64} (hd : decode M.2.1 pc = .ok (.invokestatic idx, 3)) (hk : Cond.methodLink M.1.cls idx Lib.MathLoose.abs_long.x ∈ T0) (hdd : 1 ≤ d) (hro : Nat.ble ((st.map (fun v => v.category)).sum + 13) 60 = true) (hkm : Nat.ble k mc = true) (hnm : Nat.ble n ms = true) (kk : J M d mc ms n0 (pc + 3) ls (.long (labs x) :: st) w k n Q) : J M d mc ms n0 pc ls (.long x :: st) w k n Q := by
  intro z D aC A p l e R s m args below meth c H locs lsA ad0 ad E hn h0 hl hP hD hS
  obtain ⟨e1, e2, e3, e4, e5, hts, e7, e8, e9, hE, hA, hK⟩ := id E
  have hro' := Nat.le_of_ble_eq_true hro
  refine va_mabs_long e1 e2 (e4.trans hl.1.symm) e5 (hts _ hk) (hts _ t1643) (hts _ t13) (hts _ t1644) (by rw [e9]; exact hdd) ?_ (by rw [e9]; exact Nat.le_of_ble_eq_true hkm) (by rw [e9]; exact Nat.le_of_ble_eq_true hnm) hd (kk z D aC A p l e R s m args below meth c H locs lsA ad0 ad E hn h0 hl hP hD hS)
  rw [e9, cv_cats]
  show _ ≤ 60 * d
  omega
end JMa
def ush (x y : Int32) : Int32 := (x.toUInt32 >>> (y.toUInt32 &&& Int32.toUInt32 31)).toInt32
def bcnt (x : Int32) : Int32 :=
  let a := x - (ush x (nI 1) &&& 1431655765)
  let b := (a &&& 858993459) + (ush a (nI 2) &&& 858993459)
  let c := (b + ush b (nI 4)) &&& 252645135
  let d := c + ush c (nI 8)
  let e := d + ush d (nI 16)
  e &&& nI 63
theorem cJ_bitCount {d : Nat} {x : Int32} : TR d mJ_bitCount [.int x] [] (.int (bcnt x)) := by
  refine Tr.intro (by decide) rfl ?_
  refine J_iload_n (pc := 0) DJ_bitCount_0 rfl ?_
  refine J_iload_n (pc := 1) DJ_bitCount_1 rfl ?_
  refine J_iconst (pc := 2) (v := (nI 1)) DJ_bitCount_2 (by decide) ?_
  refine J_iushr (pc := 3) DJ_bitCount_3 ?_
  refine J_ldc_w (pc := 4) DJ_bitCount_4 t724 ?_
  refine J_iand (pc := 7) DJ_bitCount_7 ?_
  refine J_isub (pc := 8) DJ_bitCount_8 ?_
  refine J_istore_n (pc := 9) DJ_bitCount_9 rfl ?_
  refine J_iload_n (pc := 10) DJ_bitCount_10 rfl ?_
  refine J_ldc_w (pc := 11) DJ_bitCount_11 t725 ?_
  refine J_iand (pc := 14) DJ_bitCount_14 ?_
  refine J_iload_n (pc := 15) DJ_bitCount_15 rfl ?_
  refine J_iconst (pc := 16) (v := (nI 2)) DJ_bitCount_16 (by decide) ?_
  refine J_iushr (pc := 17) DJ_bitCount_17 ?_
  refine J_ldc_w (pc := 18) DJ_bitCount_18 t725 ?_
  refine J_iand (pc := 21) DJ_bitCount_21 ?_
  refine J_iadd (pc := 22) DJ_bitCount_22 ?_
  refine J_istore_n (pc := 23) DJ_bitCount_23 rfl ?_
  refine J_iload_n (pc := 24) DJ_bitCount_24 rfl ?_
  refine J_iload_n (pc := 25) DJ_bitCount_25 rfl ?_
  refine J_iconst (pc := 26) (v := (nI 4)) DJ_bitCount_26 (by decide) ?_
  refine J_iushr (pc := 27) DJ_bitCount_27 ?_
  refine J_iadd (pc := 28) DJ_bitCount_28 ?_
  refine J_ldc_w (pc := 29) DJ_bitCount_29 t726 ?_
  refine J_iand (pc := 32) DJ_bitCount_32 ?_
  refine J_istore_n (pc := 33) DJ_bitCount_33 rfl ?_
  refine J_iload_n (pc := 34) DJ_bitCount_34 rfl ?_
  refine J_iload_n (pc := 35) DJ_bitCount_35 rfl ?_
  refine J_bipush (pc := 36) (v := (nI 8)) DJ_bitCount_36 (by decide) ?_
  refine J_iushr (pc := 38) DJ_bitCount_38 ?_
  refine J_iadd (pc := 39) DJ_bitCount_39 ?_
  refine J_istore_n (pc := 40) DJ_bitCount_40 rfl ?_
  refine J_iload_n (pc := 41) DJ_bitCount_41 rfl ?_
  refine J_iload_n (pc := 42) DJ_bitCount_42 rfl ?_
  refine J_bipush (pc := 43) (v := (nI 16)) DJ_bitCount_43 (by decide) ?_
  refine J_iushr (pc := 45) DJ_bitCount_45 ?_
  refine J_iadd (pc := 46) DJ_bitCount_46 ?_
  refine J_istore_n (pc := 47) DJ_bitCount_47 rfl ?_
  refine J_iload_n (pc := 48) DJ_bitCount_48 rfl ?_
  refine J_bipush (pc := 49) (v := (nI 63)) DJ_bitCount_49 (by decide) ?_
  refine J_iand (pc := 51) DJ_bitCount_51 ?_
  refine J_iret (pc := 52) DJ_bitCount_52 rfl ?_
  exact ⟨rfl, rfl⟩
def filF (f : Nat → Int32) (x : Int32) (b : Nat) : Nat → Int32 := fun j => if j < b then x else f j
theorem LJ_fill {d N : Nat} {x : Int32} (hN : Nat.blt N 2147483648 = true) : ∀ (g b : Nat) (f : Nat → Int32), b + g = N → (∀ j, j < b → f j = x) → J mJ_fill d 0 0 1 5 [(0, .ref 0), (1, .int x), (2, .int (nI b)), (3, .int (nI N))] [] [iA N f] 0 0 (fun r w' => r = none ∧ w' = [iA N (fun _ => x)]) := by
  have hN' : N < 2 ^ 31 := Nat.le_of_ble_eq_true hN
  intro g
  induction g with
  | zero =>
    intro b f hb hf
    refine J_iload_n (pc := 5) DJ_fill_5 rfl ?_
    refine J_iload_n (pc := 6) DJ_fill_6 rfl ?_
    refine J_icmp_ge (pc := 7) (tgt := 20) DJ_fill_7 (by decide) (fun h7 => ?_) (fun h7 => absurd (nI_le (by omega) (by omega)) h7)
    refine J_cell (i := 0) (g := fun _ => x) rfl (fun j hj => hf j (by omega)) ?_
    refine J_vret (pc := 20) DJ_fill_20 rfl ?_
    exact ⟨rfl, rfl⟩
  | succ g ih =>
    intro b f hb hf
    refine J_iload_n (pc := 5) DJ_fill_5 rfl ?_
    refine J_iload_n (pc := 6) DJ_fill_6 rfl ?_
    refine J_icmp_ge (pc := 7) (tgt := 20) DJ_fill_7 (by decide) (fun h7 => absurd h7 (nI_ge (by omega) (by omega))) (fun h7 => ?_)
    refine J_aload_n (pc := 10) DJ_fill_10 rfl ?_
    refine J_iload_n (pc := 11) DJ_fill_11 rfl ?_
    refine J_iload_n (pc := 12) DJ_fill_12 rfl ?_
    refine J_iast (pc := 13) DJ_fill_13 rfl rfl (by omega) hN ?_
    refine J_iinc (pc := 14) DJ_fill_14 rfl (nI_inc _) rfl ?_
    refine J_goto (pc := 17) (tgt := 5) DJ_fill_17 (by decide) ?_
    exact ih (b + 1) _ (by omega) (fun j hj => by
      by_cases h : j = b
      · subst h; exact pk_us
      · rw [pk_un h]; exact hf j (by omega))
theorem cJ_fill {d N : Nat} {x : Int32} {f : Nat → Int32} (hN : Nat.blt N 2147483648 = true) : Tr d 0 0 mJ_fill [.ref 0, .int x] [iA N f] (fun r w' => r = none ∧ w' = [iA N (fun _ => x)]) := by
  refine Tr.intro (by decide) rfl ?_
  refine J_iconst (pc := 0) (v := (nI 0)) DJ_fill_0 (by decide) ?_
  refine J_istore_n (pc := 1) DJ_fill_1 rfl ?_
  refine J_aload_n (pc := 2) DJ_fill_2 rfl ?_
  refine J_alen (pc := 3) 0 DJ_fill_3 rfl (fun _ => rfl) ?_
  refine J_istore_n (pc := 4) DJ_fill_4 rfl ?_
  exact LJ_fill hN N 0 f (by omega) (fun j hj => absurd hj (by omega))
