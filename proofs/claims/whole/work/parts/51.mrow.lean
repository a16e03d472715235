/-! THE MODEL: its world, its rows (own program mod_mrow.py) -/
/-- a cellar of the model: year, drawn, thunders; 0 bin, 1 force, 2 cork, 3 how, 4 opened by, 5 outcome, 6 hates -/
abbrev MR : Type := Int32 × Int32 × Int32 × (Nat → Nat → Int32)
abbrev LL : Type := (Nat → Int64) × (Nat → Int64)
def frM (st kk : Nat) (M : Nat → MR) : Nat → Int32 := fun i => (M (i / st)).2.2.2 kk (i % st)
def modF (s : Nat → Int32) : List Value := [.int (s 0), .ref 1, .int (s 2), .ref 2, .ref 3, .ref 4, .ref 5, .ref 6, .ref 7, .ref 8, .ref 9, .ref 10, .ref 11, .ref 12, .ref 13, .ref 14, .ref 15, .ref 16, .ref 17, .ref 18, .int (s 20), .int (s 21), .int (s 22), .int (s 23), .int (s 24), .int (s 25), .int (s 26), .int (s 27), .int (s 28), .int (s 29), .int (s 30), .int (s 31), .int (s 32), .ref 19, .ref 20, .int (s 35), .ref 21, .ref 22, .ref 23, .ref 24, .ref 25, .ref 26, .ref 27, .ref 28, .ref 29, .ref 30, .int (s 46), .int (s 47), .int (s 48), .ref 31, .ref 32, .int (s 51), .int (s 52), .int (s 53), .ref 33, .int (s 55), .ref 34, .int (s 57), .int (s 58), .ref 35, .ref 36, .ref 37, .ref 38, .ref 39]
def modW (s : Nat → Int32) (A : Nat → Nat → Int32) (L : LL) (M : Nat → MR) : List EC := .inr (10, modF s) :: [iA 700 (A 1), iA 12 (A 3), iA 10 (A 4), iA 10 (A 5), iA 20 (A 6), iA 20 (A 7), iA 20 (A 8), iA 20 (A 9), iA 20 (A 10), iA 20 (A 11), iA 16 (A 12), iA 16 (A 13), iA 16 (A 14), iA 16 (A 15), iA 6 (A 16), iA 6 (A 17), iA 128 (A 18), iA 128 (A 19), lA 7 L.1, lA 64 L.2, iA 23 (fun i => (M i).1), iA 23 (fun i => (M i).2.1), iA 23 (fun i => (M i).2.2.1), iA 115 (frM 5 6 M), iA 230 (frM 10 1 M), iA 230 (frM 10 2 M), iA 230 (frM 10 0 M), iA 230 (frM 10 3 M), iA 230 (frM 10 4 M), iA 184 (frM 8 5 M), iA 10 (A 49), iA 4 (A 50), iA 8 (A 54), iA 9216 (A 56), iA 24 (A 59), iA 24 (A 60), zA 24 (A 61), iA 24 (A 62), zA 24 (A 63)]
def upM (M : Nat → MR) (c : Nat) (m : MR) : Nat → MR := fun i => if i = c then m else M i
def setm (m : MR) (kk b : Nat) (x : Int32) : MR := (m.1, m.2.1, m.2.2.1, upA m.2.2.2 kk (upd (m.2.2.2 kk) b x))
theorem upM_s {M : Nat → MR} {c : Nat} {m : MR} : upM M c m c = m := if_pos rfl
theorem upM_n {M : Nat → MR} {c i : Nat} {m : MR} (h : i ≠ c) : upM M c m i = M i := if_neg h
theorem upM_u {M : Nat → MR} {c : Nat} {m m' : MR} : upM (upM M c m) c m' = upM M c m' := funext fun i => by
  unfold upM; split <;> rfl
theorem upM_i {M : Nat → MR} {c : Nat} : upM M c (M c) = M := funext fun i => by
  unfold upM; split
  · next h => rw [h]
  · rfl
theorem frM_at {st kk c b : Nat} {M : Nat → MR} (hb : b < st) : frM st kk M (st * c + b) = (M c).2.2.2 kk b := by
  unfold frM
  rw [Nat.mul_add_div (by omega), Nat.div_eq_of_lt hb, Nat.add_zero, Nat.mul_add_mod, Nat.mod_eq_of_lt hb]
theorem upA_s {a : Nat → Nat → Int32} {k : Nat} {f : Nat → Int32} : upA a k f k = f := by unfold upA; rw [show Nat.beq k k = true from Nat.beq_refl k]; rfl
theorem upA_n {a : Nat → Nat → Int32} {k j : Nat} {f : Nat → Int32} (h : j ≠ k) : upA a k f j = a j := by unfold upA; rw [show Nat.beq j k = false from nbf.mpr h]; rfl
theorem frM_same {st kk c b : Nat} {M : Nat → MR} {x : Int32} (hb : b < st) : upd (frM st kk M) (st * c + b) x = frM st kk (upM M c (setm (M c) kk b x)) := by
  funext i
  have hi : st * (i / st) + i % st = i := Nat.div_add_mod i st
  have hm : i % st < st := Nat.mod_lt i (by omega)
  by_cases h : i = st * c + b
  · rw [h, pk_us, frM_at hb, upM_s]
    show x = upA (M c).2.2.2 kk (upd ((M c).2.2.2 kk) b x) kk b
    rw [upA_s, pk_us]
  · rw [pk_un h]
    unfold frM
    by_cases hc : i / st = c
    · rw [hc, upM_s]
      show (M c).2.2.2 kk (i % st) = upA (M c).2.2.2 kk (upd ((M c).2.2.2 kk) b x) kk (i % st)
      rw [upA_s, pk_un (fun e => h (by rw [← hi, hc, e]))]
    · rw [upM_n hc]
theorem frM_oth {st kk k2 c b : Nat} {M : Nat → MR} {x : Int32} (h : kk ≠ k2) : frM st kk (upM M c (setm (M c) k2 b x)) = frM st kk M := by
  funext i
  unfold frM
  by_cases hc : i / st = c
  · rw [hc, upM_s]
    show upA (M c).2.2.2 k2 (upd ((M c).2.2.2 k2) b x) kk (i % st) = _
    rw [upA_n h]
  · rw [upM_n hc]
theorem frM_sc {st kk c : Nat} {M : Nat → MR} {m : MR} (h : m.2.2.2 = (M c).2.2.2) : frM st kk (upM M c m) = frM st kk M := by
  funext i
  unfold frM
  by_cases hc : i / st = c
  · rw [hc, upM_s, h]
  · rw [upM_n hc]
theorem upM_p {M : Nat → MR} {c : Nat} {m : MR} (f : MR → Int32) (h : f m = f (M c)) : (fun i => f (upM M c m i)) = fun i => f (M i) := by
  funext i
  by_cases hc : i = c
  · rw [hc, upM_s, h]
  · rw [upM_n hc]
theorem upM_q {M : Nat → MR} {c : Nat} {m : MR} (f : MR → Int32) : upd (fun i => f (M i)) c (f m) = fun i => f (upM M c m i) := by
  funext i
  by_cases hc : i = c
  · rw [hc, upM_s, pk_us]
  · rw [upM_n hc, pk_un hc]
def mSet (k : Nat) : Prop := ∀ (s : Nat → Int32) (A : Nat → Nat → Int32) (L : LL) (M : Nat → MR) (x : Int32), (modW s A L M).set 0 (.inr (10, (modF s).set k (.int x))) = modW (updI s k x) A L M ∧ Nat.blt k (modF s).length = true
def mArr (ty : FieldType) (k pl N : Nat) : Prop := ∀ (s : Nat → Int32) (A : Nat → Nat → Int32) (L : LL) (M : Nat → MR), (modW s A L M)[pl]? = some (.inl (ty, N, .inl (A k))) ∧ ∀ f, (modW s A L M).set pl (.inl (ty, N, .inl f)) = modW s (upA A k f) L M
def mCel (st kk pl N : Nat) : Prop := ∀ (s : Nat → Int32) (A : Nat → Nat → Int32) (L : LL) (M : Nat → MR), (modW s A L M)[pl]? = some (.inl (.int, N, .inl (frM st kk M))) ∧ ∀ c b x, b < st → (modW s A L M).set pl (.inl (.int, N, .inl (upd (frM st kk M) (st * c + b) x))) = modW s A L (upM M c (setm (M c) kk b x))

theorem ms_0 : mSet 0 := fun _ _ _ _ _ => ⟨rfl, rfl⟩
theorem ma_1 : mArr .int 1 1 700 := fun _ _ _ _ => ⟨rfl, fun _ => rfl⟩
theorem ms_2 : mSet 2 := fun _ _ _ _ _ => ⟨rfl, rfl⟩
theorem ma_3 : mArr .int 3 2 12 := fun _ _ _ _ => ⟨rfl, fun _ => rfl⟩
theorem ma_4 : mArr .int 4 3 10 := fun _ _ _ _ => ⟨rfl, fun _ => rfl⟩
theorem ma_5 : mArr .int 5 4 10 := fun _ _ _ _ => ⟨rfl, fun _ => rfl⟩
theorem ma_6 : mArr .int 6 5 20 := fun _ _ _ _ => ⟨rfl, fun _ => rfl⟩
theorem ma_7 : mArr .int 7 6 20 := fun _ _ _ _ => ⟨rfl, fun _ => rfl⟩
theorem ma_8 : mArr .int 8 7 20 := fun _ _ _ _ => ⟨rfl, fun _ => rfl⟩
theorem ma_9 : mArr .int 9 8 20 := fun _ _ _ _ => ⟨rfl, fun _ => rfl⟩
theorem ma_10 : mArr .int 10 9 20 := fun _ _ _ _ => ⟨rfl, fun _ => rfl⟩
theorem ma_11 : mArr .int 11 10 20 := fun _ _ _ _ => ⟨rfl, fun _ => rfl⟩
theorem ma_12 : mArr .int 12 11 16 := fun _ _ _ _ => ⟨rfl, fun _ => rfl⟩
theorem ma_13 : mArr .int 13 12 16 := fun _ _ _ _ => ⟨rfl, fun _ => rfl⟩
theorem ma_14 : mArr .int 14 13 16 := fun _ _ _ _ => ⟨rfl, fun _ => rfl⟩
theorem ma_15 : mArr .int 15 14 16 := fun _ _ _ _ => ⟨rfl, fun _ => rfl⟩
theorem ma_16 : mArr .int 16 15 6 := fun _ _ _ _ => ⟨rfl, fun _ => rfl⟩
theorem ma_17 : mArr .int 17 16 6 := fun _ _ _ _ => ⟨rfl, fun _ => rfl⟩
theorem ma_18 : mArr .int 18 17 128 := fun _ _ _ _ => ⟨rfl, fun _ => rfl⟩
theorem ma_19 : mArr .int 19 18 128 := fun _ _ _ _ => ⟨rfl, fun _ => rfl⟩
theorem ms_20 : mSet 20 := fun _ _ _ _ _ => ⟨rfl, rfl⟩
theorem ms_21 : mSet 21 := fun _ _ _ _ _ => ⟨rfl, rfl⟩
theorem ms_22 : mSet 22 := fun _ _ _ _ _ => ⟨rfl, rfl⟩
theorem ms_23 : mSet 23 := fun _ _ _ _ _ => ⟨rfl, rfl⟩
theorem ms_24 : mSet 24 := fun _ _ _ _ _ => ⟨rfl, rfl⟩
theorem ms_25 : mSet 25 := fun _ _ _ _ _ => ⟨rfl, rfl⟩
theorem ms_26 : mSet 26 := fun _ _ _ _ _ => ⟨rfl, rfl⟩
theorem ms_27 : mSet 27 := fun _ _ _ _ _ => ⟨rfl, rfl⟩
theorem ms_28 : mSet 28 := fun _ _ _ _ _ => ⟨rfl, rfl⟩
theorem ms_29 : mSet 29 := fun _ _ _ _ _ => ⟨rfl, rfl⟩
theorem ms_30 : mSet 30 := fun _ _ _ _ _ => ⟨rfl, rfl⟩
theorem ms_31 : mSet 31 := fun _ _ _ _ _ => ⟨rfl, rfl⟩
theorem ms_32 : mSet 32 := fun _ _ _ _ _ => ⟨rfl, rfl⟩
theorem ms_35 : mSet 35 := fun _ _ _ _ _ => ⟨rfl, rfl⟩
theorem mc_6 : mCel 5 6 24 115 := fun s A L M => ⟨rfl, fun c b x hb => by
  rw [frM_same hb]
  unfold modW
  rw [frM_oth (st := 8) (kk := 5) (k2 := 6) (by decide), frM_oth (st := 10) (kk := 0) (k2 := 6) (by decide), frM_oth (st := 10) (kk := 1) (k2 := 6) (by decide), frM_oth (st := 10) (kk := 2) (k2 := 6) (by decide), frM_oth (st := 10) (kk := 3) (k2 := 6) (by decide), frM_oth (st := 10) (kk := 4) (k2 := 6) (by decide), upM_p (fun m => m.1) (m := setm (M c) 6 b x) rfl, upM_p (fun m => m.2.1) (m := setm (M c) 6 b x) rfl, upM_p (fun m => m.2.2.1) (m := setm (M c) 6 b x) rfl]
  rfl⟩
theorem mc_1 : mCel 10 1 25 230 := fun s A L M => ⟨rfl, fun c b x hb => by
  rw [frM_same hb]
  unfold modW
  rw [frM_oth (st := 5) (kk := 6) (k2 := 1) (by decide), frM_oth (st := 8) (kk := 5) (k2 := 1) (by decide), frM_oth (st := 10) (kk := 0) (k2 := 1) (by decide), frM_oth (st := 10) (kk := 2) (k2 := 1) (by decide), frM_oth (st := 10) (kk := 3) (k2 := 1) (by decide), frM_oth (st := 10) (kk := 4) (k2 := 1) (by decide), upM_p (fun m => m.1) (m := setm (M c) 1 b x) rfl, upM_p (fun m => m.2.1) (m := setm (M c) 1 b x) rfl, upM_p (fun m => m.2.2.1) (m := setm (M c) 1 b x) rfl]
  rfl⟩
theorem mc_2 : mCel 10 2 26 230 := fun s A L M => ⟨rfl, fun c b x hb => by
  rw [frM_same hb]
  unfold modW
  rw [frM_oth (st := 5) (kk := 6) (k2 := 2) (by decide), frM_oth (st := 8) (kk := 5) (k2 := 2) (by decide), frM_oth (st := 10) (kk := 0) (k2 := 2) (by decide), frM_oth (st := 10) (kk := 1) (k2 := 2) (by decide), frM_oth (st := 10) (kk := 3) (k2 := 2) (by decide), frM_oth (st := 10) (kk := 4) (k2 := 2) (by decide), upM_p (fun m => m.1) (m := setm (M c) 2 b x) rfl, upM_p (fun m => m.2.1) (m := setm (M c) 2 b x) rfl, upM_p (fun m => m.2.2.1) (m := setm (M c) 2 b x) rfl]
  rfl⟩
theorem mc_0 : mCel 10 0 27 230 := fun s A L M => ⟨rfl, fun c b x hb => by
  rw [frM_same hb]
  unfold modW
  rw [frM_oth (st := 5) (kk := 6) (k2 := 0) (by decide), frM_oth (st := 8) (kk := 5) (k2 := 0) (by decide), frM_oth (st := 10) (kk := 1) (k2 := 0) (by decide), frM_oth (st := 10) (kk := 2) (k2 := 0) (by decide), frM_oth (st := 10) (kk := 3) (k2 := 0) (by decide), frM_oth (st := 10) (kk := 4) (k2 := 0) (by decide), upM_p (fun m => m.1) (m := setm (M c) 0 b x) rfl, upM_p (fun m => m.2.1) (m := setm (M c) 0 b x) rfl, upM_p (fun m => m.2.2.1) (m := setm (M c) 0 b x) rfl]
  rfl⟩
theorem mc_3 : mCel 10 3 28 230 := fun s A L M => ⟨rfl, fun c b x hb => by
  rw [frM_same hb]
  unfold modW
  rw [frM_oth (st := 5) (kk := 6) (k2 := 3) (by decide), frM_oth (st := 8) (kk := 5) (k2 := 3) (by decide), frM_oth (st := 10) (kk := 0) (k2 := 3) (by decide), frM_oth (st := 10) (kk := 1) (k2 := 3) (by decide), frM_oth (st := 10) (kk := 2) (k2 := 3) (by decide), frM_oth (st := 10) (kk := 4) (k2 := 3) (by decide), upM_p (fun m => m.1) (m := setm (M c) 3 b x) rfl, upM_p (fun m => m.2.1) (m := setm (M c) 3 b x) rfl, upM_p (fun m => m.2.2.1) (m := setm (M c) 3 b x) rfl]
  rfl⟩
theorem mc_4 : mCel 10 4 29 230 := fun s A L M => ⟨rfl, fun c b x hb => by
  rw [frM_same hb]
  unfold modW
  rw [frM_oth (st := 5) (kk := 6) (k2 := 4) (by decide), frM_oth (st := 8) (kk := 5) (k2 := 4) (by decide), frM_oth (st := 10) (kk := 0) (k2 := 4) (by decide), frM_oth (st := 10) (kk := 1) (k2 := 4) (by decide), frM_oth (st := 10) (kk := 2) (k2 := 4) (by decide), frM_oth (st := 10) (kk := 3) (k2 := 4) (by decide), upM_p (fun m => m.1) (m := setm (M c) 4 b x) rfl, upM_p (fun m => m.2.1) (m := setm (M c) 4 b x) rfl, upM_p (fun m => m.2.2.1) (m := setm (M c) 4 b x) rfl]
  rfl⟩
theorem mc_5 : mCel 8 5 30 184 := fun s A L M => ⟨rfl, fun c b x hb => by
  rw [frM_same hb]
  unfold modW
  rw [frM_oth (st := 5) (kk := 6) (k2 := 5) (by decide), frM_oth (st := 10) (kk := 0) (k2 := 5) (by decide), frM_oth (st := 10) (kk := 1) (k2 := 5) (by decide), frM_oth (st := 10) (kk := 2) (k2 := 5) (by decide), frM_oth (st := 10) (kk := 3) (k2 := 5) (by decide), frM_oth (st := 10) (kk := 4) (k2 := 5) (by decide), upM_p (fun m => m.1) (m := setm (M c) 5 b x) rfl, upM_p (fun m => m.2.1) (m := setm (M c) 5 b x) rfl, upM_p (fun m => m.2.2.1) (m := setm (M c) 5 b x) rfl]
  rfl⟩
theorem ms_46 : mSet 46 := fun _ _ _ _ _ => ⟨rfl, rfl⟩
theorem ms_47 : mSet 47 := fun _ _ _ _ _ => ⟨rfl, rfl⟩
theorem ms_48 : mSet 48 := fun _ _ _ _ _ => ⟨rfl, rfl⟩
theorem ma_49 : mArr .int 49 31 10 := fun _ _ _ _ => ⟨rfl, fun _ => rfl⟩
theorem ma_50 : mArr .int 50 32 4 := fun _ _ _ _ => ⟨rfl, fun _ => rfl⟩
theorem ms_51 : mSet 51 := fun _ _ _ _ _ => ⟨rfl, rfl⟩
theorem ms_52 : mSet 52 := fun _ _ _ _ _ => ⟨rfl, rfl⟩
theorem ms_53 : mSet 53 := fun _ _ _ _ _ => ⟨rfl, rfl⟩
theorem ma_54 : mArr .int 54 33 8 := fun _ _ _ _ => ⟨rfl, fun _ => rfl⟩
theorem ms_55 : mSet 55 := fun _ _ _ _ _ => ⟨rfl, rfl⟩
theorem ma_56 : mArr .int 56 34 9216 := fun _ _ _ _ => ⟨rfl, fun _ => rfl⟩
theorem ms_57 : mSet 57 := fun _ _ _ _ _ => ⟨rfl, rfl⟩
theorem ms_58 : mSet 58 := fun _ _ _ _ _ => ⟨rfl, rfl⟩
theorem ma_59 : mArr .int 59 35 24 := fun _ _ _ _ => ⟨rfl, fun _ => rfl⟩
theorem ma_60 : mArr .int 60 36 24 := fun _ _ _ _ => ⟨rfl, fun _ => rfl⟩
theorem ma_61 : mArr .boolean 61 37 24 := fun _ _ _ _ => ⟨rfl, fun _ => rfl⟩
theorem ma_62 : mArr .int 62 38 24 := fun _ _ _ _ => ⟨rfl, fun _ => rfl⟩
theorem ma_63 : mArr .boolean 63 39 24 := fun _ _ _ _ => ⟨rfl, fun _ => rfl⟩
def stY (m : MR) (x : Int32) : MR := (x, m.2)
def stD (m : MR) (x : Int32) : MR := (m.1, x, m.2.2)
def stT (m : MR) (x : Int32) : MR := (m.1, m.2.1, x, m.2.2.2)
def mSca (f : MR → Int32) (g : MR → Int32 → MR) (pl : Nat) : Prop := ∀ (s : Nat → Int32) (A : Nat → Nat → Int32) (L : LL) (M : Nat → MR), (modW s A L M)[pl]? = some (.inl (.int, 23, .inl (fun i => f (M i)))) ∧ ∀ c x, (modW s A L M).set pl (.inl (.int, 23, .inl (upd (fun i => f (M i)) c x))) = modW s A L (upM M c (g (M c) x))
theorem mq_year : mSca (fun m => m.1) stY 21 := fun s A L M => ⟨rfl, fun c x => by
  rw [show upd (fun i => (M i).1) c x = fun i => (upM M c (stY (M c) x) i).1 from upM_q (fun m => m.1) (m := stY (M c) x)]
  unfold modW
  rw [frM_sc (st := 5) (kk := 6) (m := stY (M c) x) rfl, frM_sc (st := 8) (kk := 5) (m := stY (M c) x) rfl, frM_sc (st := 10) (kk := 0) (m := stY (M c) x) rfl, frM_sc (st := 10) (kk := 1) (m := stY (M c) x) rfl, frM_sc (st := 10) (kk := 2) (m := stY (M c) x) rfl, frM_sc (st := 10) (kk := 3) (m := stY (M c) x) rfl, frM_sc (st := 10) (kk := 4) (m := stY (M c) x) rfl, upM_p (fun m => m.2.1) (m := stY (M c) x) rfl, upM_p (fun m => m.2.2.1) (m := stY (M c) x) rfl]
  rfl⟩
theorem mq_drawn : mSca (fun m => m.2.1) stD 22 := fun s A L M => ⟨rfl, fun c x => by
  rw [show upd (fun i => (M i).2.1) c x = fun i => (upM M c (stD (M c) x) i).2.1 from upM_q (fun m => m.2.1) (m := stD (M c) x)]
  unfold modW
  rw [frM_sc (st := 5) (kk := 6) (m := stD (M c) x) rfl, frM_sc (st := 8) (kk := 5) (m := stD (M c) x) rfl, frM_sc (st := 10) (kk := 0) (m := stD (M c) x) rfl, frM_sc (st := 10) (kk := 1) (m := stD (M c) x) rfl, frM_sc (st := 10) (kk := 2) (m := stD (M c) x) rfl, frM_sc (st := 10) (kk := 3) (m := stD (M c) x) rfl, frM_sc (st := 10) (kk := 4) (m := stD (M c) x) rfl, upM_p (fun m => m.1) (m := stD (M c) x) rfl, upM_p (fun m => m.2.2.1) (m := stD (M c) x) rfl]
  rfl⟩
theorem mq_thunders : mSca (fun m => m.2.2.1) stT 23 := fun s A L M => ⟨rfl, fun c x => by
  rw [show upd (fun i => (M i).2.2.1) c x = fun i => (upM M c (stT (M c) x) i).2.2.1 from upM_q (fun m => m.2.2.1) (m := stT (M c) x)]
  unfold modW
  rw [frM_sc (st := 5) (kk := 6) (m := stT (M c) x) rfl, frM_sc (st := 8) (kk := 5) (m := stT (M c) x) rfl, frM_sc (st := 10) (kk := 0) (m := stT (M c) x) rfl, frM_sc (st := 10) (kk := 1) (m := stT (M c) x) rfl, frM_sc (st := 10) (kk := 2) (m := stT (M c) x) rfl, frM_sc (st := 10) (kk := 3) (m := stT (M c) x) rfl, frM_sc (st := 10) (kk := 4) (m := stT (M c) x) rfl, upM_p (fun m => m.1) (m := stT (M c) x) rfl, upM_p (fun m => m.2.1) (m := stT (M c) x) rfl]
  rfl⟩
section MRW
variable {Mt : JM} {d mc ms n0 pc k n : Nat} {ls : List (Nat × Value)} {st : List Value} {Q : Option Value → List EC → Prop} {s : Nat → Int32} {A : Nat → Nat → Int32} {L : LL} {M : Nat → MR}
theorem J_mput {idx kf : Nat} {x : Int32} (hd : decode Mt.2.1 pc = .ok (.putfield idx, 3)) (hk : FP Mt.1.cls idx 10 kf .int false) (hs : mSet kf) (kk : J Mt d mc ms n0 (pc + 3) ls st (modW (updI s kf x) A L M) k n Q) : J Mt d mc ms n0 pc ls (.int x :: .ref 0 :: st) (modW s A L M) k n Q := by
  refine J_putf hd hk rfl Fit.int (hs s A L M x).2 ?_
  rw [(hs s A L M x).1]
  exact kk
theorem J_mputZ {idx kf : Nat} {x : Int32} (hd : decode Mt.2.1 pc = .ok (.putfield idx, 3)) (hk : FP Mt.1.cls idx 10 kf .boolean false) (hs : mSet kf) (hx : x = 0 ∨ x = 1) (kk : J Mt d mc ms n0 (pc + 3) ls st (modW (updI s kf x) A L M) k n Q) : J Mt d mc ms n0 pc ls (.int x :: .ref 0 :: st) (modW s A L M) k n Q := by
  refine J_putf hd hk rfl (Fit.zb hx) (hs s A L M x).2 ?_
  rw [(hs s A L M x).1]
  exact kk
theorem J_mald {kf pl N b : Nat} {j : Int32} (hd : decode Mt.2.1 pc = .ok (.iaload, 1)) (ha : mArr .int kf pl N) (hj : j = nI b) (hb : b < N) (hN : Nat.blt N 2147483648 = true) (kk : J Mt d mc ms n0 (pc + 1) ls (.int (A kf b) :: st) (modW s A L M) k n Q) : J Mt d mc ms n0 pc ls (.int j :: .ref pl :: st) (modW s A L M) k n Q :=
  J_iald hd (ha s A L M).1 hj hb hN kk
theorem J_mast {kf pl N b : Nat} {j x : Int32} (hd : decode Mt.2.1 pc = .ok (.iastore, 1)) (ha : mArr .int kf pl N) (hj : j = nI b) (hb : b < N) (hN : Nat.blt N 2147483648 = true) (kk : J Mt d mc ms n0 (pc + 1) ls st (modW s (upA A kf (upd (A kf) b x)) L M) k n Q) : J Mt d mc ms n0 pc ls (.int x :: .int j :: .ref pl :: st) (modW s A L M) k n Q := by
  refine J_iast hd (ha s A L M).1 hj hb hN ?_
  rw [(ha s A L M).2]
  exact kk
theorem J_mzld {kf pl N b : Nat} {j : Int32} (hd : decode Mt.2.1 pc = .ok (.baload, 1)) (ha : mArr .boolean kf pl N) (hj : j = nI b) (hb : b < N) (hN : Nat.blt N 2147483648 = true) (kk : J Mt d mc ms n0 (pc + 1) ls (.int (A kf b) :: st) (modW s A L M) k n Q) : J Mt d mc ms n0 pc ls (.int j :: .ref pl :: st) (modW s A L M) k n Q :=
  J_zald hd (ha s A L M).1 hj hb hN kk
theorem J_mzst {kf pl N b : Nat} {j x : Int32} (hd : decode Mt.2.1 pc = .ok (.bastore, 1)) (ha : mArr .boolean kf pl N) (hj : j = nI b) (hb : b < N) (hN : Nat.blt N 2147483648 = true) (hx : vp_nar .boolean x = x) (kk : J Mt d mc ms n0 (pc + 1) ls st (modW s (upA A kf (upd (A kf) b x)) L M) k n Q) : J Mt d mc ms n0 pc ls (.int x :: .int j :: .ref pl :: st) (modW s A L M) k n Q := by
  refine J_zast hd (ha s A L M).1 hj hb hN ?_
  rw [(ha s A L M).2, hx]
  exact kk
theorem J_mcld {stp kk pl N c b : Nat} {j : Int32} (hd : decode Mt.2.1 pc = .ok (.iaload, 1)) (ha : mCel stp kk pl N) (hj : j = nI (stp * c + b)) (hb : b < stp) (hc : stp * c + stp ≤ N) (hN : Nat.blt N 2147483648 = true) (kx : J Mt d mc ms n0 (pc + 1) ls (.int ((M c).2.2.2 kk b) :: st) (modW s A L M) k n Q) : J Mt d mc ms n0 pc ls (.int j :: .ref pl :: st) (modW s A L M) k n Q := by
  refine J_iald hd (ha s A L M).1 hj (by omega) hN ?_
  rw [frM_at hb]
  exact kx
theorem J_mcst {stp kk pl N c b : Nat} {j x : Int32} (hd : decode Mt.2.1 pc = .ok (.iastore, 1)) (ha : mCel stp kk pl N) (hj : j = nI (stp * c + b)) (hb : b < stp) (hc : stp * c + stp ≤ N) (hN : Nat.blt N 2147483648 = true) (kx : J Mt d mc ms n0 (pc + 1) ls st (modW s A L (upM M c (setm (M c) kk b x))) k n Q) : J Mt d mc ms n0 pc ls (.int x :: .int j :: .ref pl :: st) (modW s A L M) k n Q := by
  refine J_iast hd (ha s A L M).1 hj (by omega) hN ?_
  rw [(ha s A L M).2 c b x hb]
  exact kx
theorem J_msld {f : MR → Int32} {g : MR → Int32 → MR} {pl c : Nat} {j : Int32} (hd : decode Mt.2.1 pc = .ok (.iaload, 1)) (ha : mSca f g pl) (hj : j = nI c) (hc : c < 23) (kx : J Mt d mc ms n0 (pc + 1) ls (.int (f (M c)) :: st) (modW s A L M) k n Q) : J Mt d mc ms n0 pc ls (.int j :: .ref pl :: st) (modW s A L M) k n Q :=
  J_iald hd (ha s A L M).1 hj hc rfl kx
theorem J_msst {f : MR → Int32} {g : MR → Int32 → MR} {pl c : Nat} {j x : Int32} (hd : decode Mt.2.1 pc = .ok (.iastore, 1)) (ha : mSca f g pl) (hj : j = nI c) (hc : c < 23) (kx : J Mt d mc ms n0 (pc + 1) ls st (modW s A L (upM M c (g (M c) x))) k n Q) : J Mt d mc ms n0 pc ls (.int x :: .int j :: .ref pl :: st) (modW s A L M) k n Q := by
  refine J_iast hd (ha s A L M).1 hj hc rfl ?_
  rw [(ha s A L M).2]
  exact kx
theorem J_mnld {b : Nat} {j : Int32} (hd : decode Mt.2.1 pc = .ok (.laload, 1)) (hj : j = nI b) (hb : b < 7) (kx : J Mt d mc ms n0 (pc + 1) ls (.long (L.1 b) :: st) (modW s A L M) k n Q) : J Mt d mc ms n0 pc ls (.int j :: .ref 19 :: st) (modW s A L M) k n Q := J_lald hd rfl hj hb rfl kx
theorem J_mwld {b : Nat} {j : Int32} (hd : decode Mt.2.1 pc = .ok (.laload, 1)) (hj : j = nI b) (hb : b < 64) (kx : J Mt d mc ms n0 (pc + 1) ls (.long (L.2 b) :: st) (modW s A L M) k n Q) : J Mt d mc ms n0 pc ls (.int j :: .ref 20 :: st) (modW s A L M) k n Q := J_lald hd rfl hj hb rfl kx
theorem J_mnst {b : Nat} {j : Int32} {x : Int64} (hd : decode Mt.2.1 pc = .ok (.lastore, 1)) (hj : j = nI b) (hb : b < 7) (kx : J Mt d mc ms n0 (pc + 1) ls st (modW s A (vp_updL L.1 b x, L.2) M) k n Q) : J Mt d mc ms n0 pc ls (.long x :: .int j :: .ref 19 :: st) (modW s A L M) k n Q := J_last hd rfl hj hb rfl kx
theorem J_mwst {b : Nat} {j : Int32} {x : Int64} (hd : decode Mt.2.1 pc = .ok (.lastore, 1)) (hj : j = nI b) (hb : b < 64) (kx : J Mt d mc ms n0 (pc + 1) ls st (modW s A (L.1, vp_updL L.2 b x) M) k n Q) : J Mt d mc ms n0 pc ls (.long x :: .int j :: .ref 20 :: st) (modW s A L M) k n Q := J_last hd rfl hj hb rfl kx
end MRW
theorem nI_mulE (a b : Nat) : nI a * nI b = nI (a * b) := (Int32.ofNat_mul a b).symm
theorem ixm (st c b : Nat) : nI st * nI c + nI b = nI (st * c + b) := by rw [nI_mulE, nI_add]
theorem ix0 (st b : Nat) : nI b = nI (st * 0 + b) := by rw [Nat.mul_zero, Nat.zero_add]
theorem ix1 (st b : Nat) : nI st + nI b = nI (st * 1 + b) := by rw [Nat.mul_one, nI_add]
