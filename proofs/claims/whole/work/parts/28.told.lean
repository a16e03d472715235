/-! LAWS, TOLD (own; walks by program wk.py) -/
def lawC (o : Nat) (s : Nat → Int32) (a : Nat → Nat → Int32) : List EC := [.inr (1, [.ref (o + 1), .ref (o + 2), .ref (o + 3), .ref (o + 4), .int (s 4), .int (s 5)]), iA 3 (a 0), iA 3 (a 1), iA 64 (a 2), iA 64 (a 3)]
def updI (s : Nat → Int32) (k : Nat) (x : Int32) : Nat → Int32 := fun j => bif Nat.beq j k then x else s j
theorem c1_clear {d : Nat} {s : Nat → Int32} {a : Nat → Nat → Int32} : Tr (d + 1) 0 0 m1_clear [.ref 0] (lawC 0 s a) (fun r w' => r = none ∧ w' = lawC 0 (updI (updI s 4 (nI 0)) 5 (nI 0)) (upA (upA a 0 (fun _ => -1)) 1 (fun _ => -1))) := by
  refine Tr.intro (by decide) rfl ?_
  refine J_aload_n (pc := 0) D1_clear_0 rfl ?_
  refine J_getf (pc := 1) D1_clear_1 fl1_9 rfl rfl ?_
  refine J_iconst (pc := 4) (v := (-1)) D1_clear_4 (by decide) ?_
  refine J_callS (pc := 5) (ι := [1]) (ac := [.ref 0, .int _]) D1_clear_5 mJ_fill_s t49 (cJ_fill (d := d) rfl) (by omega) ⟨rfl, rfl⟩ rfl rfl rfl rfl rfl (fun r w' hq hl => ?_)
  obtain ⟨rfl, rfl⟩ := hq
  refine J_aload_n (pc := 8) D1_clear_8 rfl ?_
  refine J_getf (pc := 9) D1_clear_9 fl1_15 rfl rfl ?_
  refine J_iconst (pc := 12) (v := (-1)) D1_clear_12 (by decide) ?_
  refine J_callS (pc := 13) (ι := [2]) (ac := [.ref 0, .int _]) D1_clear_13 mJ_fill_s t49 (cJ_fill (d := d) rfl) (by omega) ⟨rfl, rfl⟩ rfl rfl rfl rfl rfl (fun r w' hq hl => ?_)
  obtain ⟨rfl, rfl⟩ := hq
  refine J_aload_n (pc := 16) D1_clear_16 rfl ?_
  refine J_iconst (pc := 17) (v := (nI 0)) D1_clear_17 (by decide) ?_
  refine J_putf (pc := 18) D1_clear_18 fp1_33 rfl Fit.int rfl ?_
  refine J_aload_n (pc := 21) D1_clear_21 rfl ?_
  refine J_iconst (pc := 22) (v := (nI 0)) D1_clear_22 (by decide) ?_
  refine J_putf (pc := 23) D1_clear_23 fp1_37 rfl Fit.int rfl ?_
  refine J_vret (pc := 26) D1_clear_26 rfl ?_
  exact ⟨rfl, rfl⟩
theorem c1_isTold {d k : Nat} {s : Nat → Int32} {a : Nat → Nat → Int32} (hk : k < 3) : TR d m1_isTold [.ref 0, .int (nI k)] (lawC 0 s a) (.int (i01 (¬ a 0 k = -1))) := by
  refine Tr.intro (by decide) rfl ?_
  refine J_aload_n (pc := 0) D1_isTold_0 rfl ?_
  refine J_getf (pc := 1) D1_isTold_1 fl1_9 rfl rfl ?_
  refine J_iload_n (pc := 4) D1_isTold_4 rfl ?_
  refine J_iald (pc := 5) D1_isTold_5 rfl rfl (by omega) rfl ?_
  refine J_iconst (pc := 6) (v := (-1)) D1_isTold_6 (by decide) ?_
  refine J_icmp_eq (pc := 7) (tgt := 14) D1_isTold_7 (by decide) (fun h7 => ?_) (fun h7 => ?_)
  · have h7' := eq_true h7
    refine J_iconst (pc := 14) (v := (nI 0)) D1_isTold_14 (by decide) ?_
    refine J_zret (pc := 15) D1_isTold_15 rfl (by decide) ?_
    exact ⟨rfl, congrArg (fun q => some (Value.int q)) (by simp only [i01, h7', not_true_eq_false, not_false_eq_true, ↓reduceIte]; try rfl)⟩
  · refine J_iconst (pc := 10) (v := (nI 1)) D1_isTold_10 (by decide) ?_
    refine J_goto (pc := 11) (tgt := 15) D1_isTold_11 (by decide) ?_
    refine J_zret (pc := 15) D1_isTold_15 rfl (by decide) ?_
    exact ⟨rfl, congrArg (fun q => some (Value.int q)) (by simp only [i01, h7, not_true_eq_false, not_false_eq_true, ↓reduceIte]; try rfl)⟩
def putL (s : Nat → Int32) (a : Nat → Nat → Int32) (n : Nat) (x y : Int32) : (Nat → Int32) × (Nat → Nat → Int32) := if n < 64 then (updI s 4 (nI (n + 1)), upA (upA a 2 (upd (a 2) n x)) 3 (upd (a 3) n y)) else (s, a)
theorem c1_put {d n : Nat} {s : Nat → Int32} {a : Nat → Nat → Int32} {x y : Int32} (hn : n ≤ 64) (es : s 4 = nI n) : Tr d 0 0 m1_put [.ref 0, .int x, .int y] (lawC 0 s a) (fun r w' => r = none ∧ w' = lawC 0 (putL s a n x y).1 (putL s a n x y).2) := by
  refine Tr.intro (by decide) rfl ?_
  refine J_aload_n (pc := 0) D1_put_0 rfl ?_
  refine J_getf (pc := 1) D1_put_1 fl1_33 rfl rfl ?_
  refine J_st [.int (nI n)] (by rw [es]) ?_
  refine J_bipush (pc := 4) (v := (nI 64)) D1_put_4 (by decide) ?_
  refine J_icmp_ge (pc := 6) (tgt := 39) D1_put_6 (by decide) (fun h6 => ?_) (fun h6 => ?_)
  · have h6' := Int32.not_lt.mpr h6
    have hlt := (nI_leI (by omega) (by omega)).mp h6
    refine J_vret (pc := 39) D1_put_39 rfl ?_
    refine ⟨rfl, ?_⟩
    rw [putL, if_neg (by omega)]
    try rfl
  · have h6' := Int32.not_le.mp h6
    have hlt := (nI_ltI (by omega) (by omega)).mp h6'
    refine J_aload_n (pc := 9) D1_put_9 rfl ?_
    refine J_getf (pc := 10) D1_put_10 fl1_18 rfl rfl ?_
    refine J_aload_n (pc := 13) D1_put_13 rfl ?_
    refine J_getf (pc := 14) D1_put_14 fl1_33 rfl rfl ?_
    refine J_st [.int (nI n), .ref 3] (by rw [es]) ?_
    refine J_iload_n (pc := 17) D1_put_17 rfl ?_
    refine J_iast (pc := 18) D1_put_18 rfl rfl (by omega) rfl ?_
    refine J_aload_n (pc := 19) D1_put_19 rfl ?_
    refine J_getf (pc := 20) D1_put_20 fl1_21 rfl rfl ?_
    refine J_aload_n (pc := 23) D1_put_23 rfl ?_
    refine J_getf (pc := 24) D1_put_24 fl1_33 rfl rfl ?_
    refine J_st [.int (nI n), .ref 4] (by rw [es]) ?_
    refine J_iload_n (pc := 27) D1_put_27 rfl ?_
    refine J_iast (pc := 28) D1_put_28 rfl rfl (by omega) rfl ?_
    refine J_w (w2 := lawC 0 s (upA (upA a 2 (upd (a 2) n x)) 3 (upd (a 3) n y))) rfl ?_
    refine J_aload_n (pc := 29) D1_put_29 rfl ?_
    refine J_dup (pc := 30) D1_put_30 rfl ?_
    refine J_getf (pc := 31) D1_put_31 fl1_33 rfl rfl ?_
    refine J_iconst (pc := 34) (v := (nI 1)) D1_put_34 (by decide) ?_
    refine J_iadd (pc := 35) D1_put_35 ?_
    refine J_st [.int (nI (n + 1)), .ref 0] (by rw [es, show nI n + nI 1 = nI (n + 1) from nI_1 n]) ?_
    refine J_putf (pc := 36) D1_put_36 fp1_33 rfl Fit.int rfl ?_
    refine J_vret (pc := 39) D1_put_39 rfl ?_
    refine ⟨rfl, ?_⟩
    rw [putL, if_pos hlt]
    try rfl
def plL (f : Nat → Int32) (x : Int32) : Nat → Nat → Option Nat
  | 0, _ => none
  | g + 1, i => if f i = x then some i else plL f x g (i + 1)
theorem L6_placeOf {d N n : Nat} {f : Nat → Int32} {x : Int32} (hN : Nat.blt N 2147483648 = true) (hn : n ≤ N) : ∀ (g i : Nat), i + g = n → J m6_placeOf d 0 0 1 2 [(0, .int x), (1, .ref 0), (2, .int (nI n)), (3, .int (nI i))] [] [iA N f] 0 0 (fun r w' => w' = [iA N f] ∧ r = some (.int (wkI (plL f x g i)))) := by
  have hN' : N < 2 ^ 31 := Nat.le_of_ble_eq_true hN
  intro g
  induction g with
  | zero =>
    intro i hi
    refine J_iload_n (pc := 2) D6_placeOf_2 rfl ?_
    refine J_iload_n (pc := 3) D6_placeOf_3 rfl ?_
    refine J_icmp_ge (pc := 4) (tgt := 28) D6_placeOf_4 (by decide) (fun h4 => ?_) (fun h4 => absurd (nI_le (by omega) (by omega)) h4)
    refine J_iconst (pc := 28) (v := (-1)) D6_placeOf_28 (by decide) ?_
    refine J_iret (pc := 29) D6_placeOf_29 rfl ?_
    exact ⟨rfl, rfl⟩
  | succ g ih =>
    intro i hi
    refine J_iload_n (pc := 2) D6_placeOf_2 rfl ?_
    refine J_iload_n (pc := 3) D6_placeOf_3 rfl ?_
    refine J_icmp_ge (pc := 4) (tgt := 28) D6_placeOf_4 (by decide) (fun h4 => absurd h4 (nI_ge (by omega) (by omega))) (fun h4 => ?_)
    refine J_iload_n (pc := 7) D6_placeOf_7 rfl ?_
    refine J_aload_n (pc := 8) D6_placeOf_8 rfl ?_
    refine J_alen (pc := 9) 0 D6_placeOf_9 rfl (fun _ => rfl) ?_
    refine J_icmp_ge (pc := 10) (tgt := 28) D6_placeOf_10 (by decide) (fun h10 => absurd h10 (nI_ge (by omega) (by omega))) (fun h10 => ?_)
    refine J_aload_n (pc := 13) D6_placeOf_13 rfl ?_
    refine J_iload_n (pc := 14) D6_placeOf_14 rfl ?_
    refine J_iald (pc := 15) D6_placeOf_15 rfl rfl (by omega) hN ?_
    refine J_iload_n (pc := 16) D6_placeOf_16 rfl ?_
    refine J_icmp_ne (pc := 17) (tgt := 22) D6_placeOf_17 (by decide) (fun h17 => ?_) (fun h17 => ?_)
    · refine J_iinc (pc := 22) D6_placeOf_22 rfl (nI_inc _) rfl ?_
      refine J_goto (pc := 25) (tgt := 2) D6_placeOf_25 (by decide) ?_
      rw [plL, if_neg h17]
      exact ih (i + 1) (by omega)
    · have h17' := eq_true h17
      refine J_iload_n (pc := 20) D6_placeOf_20 rfl ?_
      refine J_iret (pc := 21) D6_placeOf_21 rfl ?_
      exact ⟨rfl, by rw [plL, if_pos h17]; rfl⟩
theorem c6_placeOf {d N n : Nat} {f : Nat → Int32} {x : Int32} (hN : Nat.blt N 2147483648 = true) (hn : n ≤ N) : TR d m6_placeOf [.int x, .ref 0, .int (nI n)] [iA N f] (.int (wkI (plL f x n 0))) := by
  refine Tr.intro (by decide) rfl ?_
  refine J_iconst (pc := 0) (v := (nI 0)) D6_placeOf_0 (by decide) ?_
  refine J_istore_n (pc := 1) D6_placeOf_1 rfl ?_
  exact L6_placeOf hN hn n 0 (by omega)
theorem c6_personNamed {d n : Nat} {T : TV} {x : Int32} (e : T.1 0 = nI n) (hn : n ≤ 5) : TR (d + 1) m6_personNamed [.ref 0, .int x] (toldC 0 T) (.int (wkI (plL (T.2.1 1) x n 0))) := by
  refine Tr.intro (by decide) rfl ?_
  refine J_iload_n (pc := 0) D6_personNamed_0 rfl ?_
  refine J_aload_n (pc := 1) D6_personNamed_1 rfl ?_
  refine J_getf (pc := 2) D6_personNamed_2 fl6_9 rfl rfl ?_
  refine J_aload_n (pc := 5) D6_personNamed_5 rfl ?_
  refine J_getf (pc := 6) D6_personNamed_6 fl6_55 rfl rfl ?_
  refine J_st [.int (nI n), .ref 1, .int x] (by rw [e]) ?_
  refine J_callSR (pc := 9) (ι := [1]) (ac := [.int _, .ref 0, .int _]) D6_personNamed_9 m6_placeOf_s t612 (c6_placeOf (d := d) (N := 5) (n := n) (f := T.2.1 1) (x := x) rfl hn) (by omega) ⟨rfl, rfl⟩ rfl rfl (fun _ => rfl) rfl rfl rfl ?_
  refine J_iret (pc := 12) D6_personNamed_12 rfl ?_
  exact ⟨rfl, rfl⟩
theorem c6_bottleNamed {d n : Nat} {T : TV} {x : Int32} (e : T.1 3 = nI n) (hn : n ≤ 10) : TR (d + 1) m6_bottleNamed [.ref 0, .int x] (toldC 0 T) (.int (wkI (plL (T.2.1 4) x n 0))) := by
  refine Tr.intro (by decide) rfl ?_
  refine J_iload_n (pc := 0) D6_bottleNamed_0 rfl ?_
  refine J_aload_n (pc := 1) D6_bottleNamed_1 rfl ?_
  refine J_getf (pc := 2) D6_bottleNamed_2 fl6_18 rfl rfl ?_
  refine J_aload_n (pc := 5) D6_bottleNamed_5 rfl ?_
  refine J_getf (pc := 6) D6_bottleNamed_6 fl6_59 rfl rfl ?_
  refine J_st [.int (nI n), .ref 3, .int x] (by rw [e]) ?_
  refine J_callSR (pc := 9) (ι := [3]) (ac := [.int _, .ref 0, .int _]) D6_bottleNamed_9 m6_placeOf_s t612 (c6_placeOf (d := d) (N := 10) (n := n) (f := T.2.1 4) (x := x) rfl hn) (by omega) ⟨rfl, rfl⟩ rfl rfl (fun _ => rfl) rfl rfl rfl ?_
  refine J_iret (pc := 12) D6_bottleNamed_12 rfl ?_
  exact ⟨rfl, rfl⟩
def clrT (T : TV) : TV := (updI (updI (updI (updI (updI T.1 0 (nI 0)) 3 (nI 0)) 10 (nI 0)) 15 (nI 0)) 16 (nI 0), T.2.1, updI (updI T.2.2.1 4 (nI 0)) 5 (nI 0), upA (upA T.2.2.2 0 (fun _ => -1)) 1 (fun _ => -1))
theorem c6_clear {d : Nat} {T : TV} : Tr (d + 2) 0 0 m6_clear [.ref 0] (toldC 0 T) (fun r w' => r = none ∧ w' = toldC 0 (clrT T)) := by
  refine Tr.intro (by decide) rfl ?_
  refine J_aload_n (pc := 0) D6_clear_0 rfl ?_
  refine J_iconst (pc := 1) (v := (nI 0)) D6_clear_1 (by decide) ?_
  refine J_putf (pc := 2) D6_clear_2 fp6_55 rfl Fit.int rfl ?_
  refine J_aload_n (pc := 5) D6_clear_5 rfl ?_
  refine J_iconst (pc := 6) (v := (nI 0)) D6_clear_6 (by decide) ?_
  refine J_putf (pc := 7) D6_clear_7 fp6_59 rfl Fit.int rfl ?_
  refine J_aload_n (pc := 10) D6_clear_10 rfl ?_
  refine J_iconst (pc := 11) (v := (nI 0)) D6_clear_11 (by decide) ?_
  refine J_putf (pc := 12) D6_clear_12 fp6_62 rfl Fit.int rfl ?_
  refine J_aload_n (pc := 15) D6_clear_15 rfl ?_
  refine J_iconst (pc := 16) (v := (nI 0)) D6_clear_16 (by decide) ?_
  refine J_putf (pc := 17) D6_clear_17 fp6_65 rfl Fit.int rfl ?_
  refine J_aload_n (pc := 20) D6_clear_20 rfl ?_
  refine J_iconst (pc := 21) (v := (nI 0)) D6_clear_21 (by decide) ?_
  refine J_putf (pc := 22) D6_clear_22 fp6_68 rfl Fit.int rfl ?_
  refine J_aload_n (pc := 25) D6_clear_25 rfl ?_
  refine J_getf (pc := 26) D6_clear_26 fl6_51 rfl rfl ?_
  refine J_callV (pc := 29) (ι := [13, 14, 15, 16, 17]) (ac := []) D6_clear_29 m1_clear_v t583 (c1_clear (d := d) (s := T.2.2.1) (a := T.2.2.2)) (by omega) rfl rfl ⟨rfl, rfl⟩ rfl rfl rfl rfl rfl (fun r w' hq hl => ?_)
  obtain ⟨rfl, rfl⟩ := hq
  refine J_vret (pc := 32) D6_clear_32 rfl ?_
  exact ⟨rfl, rfl⟩
