/-! THE MODEL: lines read (own program mod_q9.py) -/
/-- the half of a row -/
def hfK : Nat → Nat
  | 3 => 6
  | 4 => 5
  | 5 => 5
  | 6 => 10
  | 7 => 10
  | 8 => 10
  | 9 => 10
  | 10 => 10
  | 11 => 10
  | 12 => 8
  | 13 => 8
  | 14 => 8
  | 15 => 8
  | 16 => 3
  | 17 => 3
  | 18 => 64
  | 19 => 64
  | _ => 0
/-- what is being read: the rows' second halves -/
def shA (A : Nat → Nat → Int32) : Nat → Nat → Int32 := fun k i => A k (hfK k + i)
abbrev npR (R : RS) : Nat := R.2.2.1.1
abbrev nbR (R : RS) : Nat := R.2.2.1.2.1
abbrev nnR (R : RS) : Nat := R.2.2.1.2.2
abbrev arR (R : RS) : Nat → Nat → Int32 := R.2.2.2.2.2.1
/-- all that a text has told so far, on both sides -/
def GIv (s : Nat → Int32) (A : Nat → Nat → Int32) (R : RS) : Prop := RT (shA A) (tvR R) (npR R) (nbR R) (nnR R) ∧ WT (tvR R) (npR R) (nbR R) (nnR R) ∧ (∀ n, n < nnR R → ∃ v, v ≤ 99 ∧ arR R 12 n = nI v) ∧ (lenR R = knR R ∧ knR R ≤ 64 ∧ s 32 = nI (knR R) ∧ s 31 = nI 0) ∧
  ((hb (s 20) 3 = true ↔ ¬ R.2.1.1 = 0) ∧ (hb (s 20) 4 = true ↔ ¬ R.2.1.2 = 0) ∧ ∀ k, k < 3 → (hb (s 20) (16 + k) = true ↔ ¬ lawA R 0 k = -1)) ∧ ∀ k, k < 3 → lawA R 0 k = -1 ∨ ∃ q, lawA R 1 k = nI q ∧ q ≤ lenR R
theorem GIv.c {s s' : Nat → Int32} {A : Nat → Nat → Int32} {R : RS} (h : GIv s A R) (e20 : s' 20 = s 20) (e31 : s' 31 = s 31) (e32 : s' 32 = s 32) : GIv s' A R := by
  unfold GIv
  rw [e20, e31, e32]
  exact h
theorem GIv.r {s : Nat → Int32} {A : Nat → Nat → Int32} {R R' : RS} (h : GIv s A R) (e : R'.2 = R.2) : GIv s A R' := by
  obtain ⟨C, X⟩ := R
  obtain ⟨C', X'⟩ := R'
  cases e
  exact h
theorem GIv.st {s : Nat → Int32} {A : Nat → Nat → Int32} {R : RS} (h : GIv s A R) : ST 0 s A R := ⟨h.2.2.2.1.2.2.2, h.2.2.2.1.2.2.1, by
  have h6 : A 3 11 = nI (knR R) := h.1.2.2.2.2.2.1
  rw [h6, h.2.2.2.1.1], Nat.le_of_eq h.2.2.2.1.1, h.2.2.2.1.2.1⟩
/-- but for what is being read nothing has changed -/
def FLn (s : Nat → Int32) (A : Nat → Nat → Int32) (s' : Nat → Int32) (A' : Nat → Nat → Int32) : Prop := (∀ k, k < 20 ∨ k = 22 ∨ k = 29 ∨ k = 30 ∨ 32 < k → s' k = s k) ∧ (∀ k, k < 3 ∨ 19 < k → A' k = A k) ∧ ∀ k i, i < hfK k → A' k i = A k i
theorem FLn.rf {s : Nat → Int32} {A : Nat → Nat → Int32} : FLn s A s A := ⟨fun _ _ => rfl, fun _ _ => rfl, fun _ _ _ => rfl⟩
theorem FLn.tr {s s' s'' : Nat → Int32} {A A' A'' : Nat → Nat → Int32} (h : FLn s A s' A') (h' : FLn s' A' s'' A'') : FLn s A s'' A'' := ⟨fun k hk => (h'.1 k hk).trans (h.1 k hk), fun k hk => (h'.2.1 k hk).trans (h.2.1 k hk), fun k i hi => (h'.2.2 k i hi).trans (h.2.2 k i hi)⟩
theorem FLn.fs {s s' : Nat → Int32} {A : Nat → Nat → Int32} (h : FS s s') : FLn s A s' A := ⟨fun k hk => h k (by omega), fun _ _ => rfl, fun _ _ _ => rfl⟩
theorem FLn.tp {s s' : Nat → Int32} {A A' : Nat → Nat → Int32} {tp : Nat → Int32} {L : Nat} (h : FLn s A s' A') (hT : TP tp (A 1) L) : TP tp (A' 1) L := by rw [h.2.1 1 (by decide)]; exact hT
theorem FLn.up {s : Nat → Int32} {A : Nat → Nat → Int32} {k j : Nat} {x : Int32} (hk : 3 ≤ k ∧ k ≤ 19) (hj : hfK k ≤ j) : FLn s A s (upA A k (upd (A k) j x)) := ⟨fun _ _ => rfl, fun i hi => upA_n (by omega), fun i m hm => by
  by_cases e : i = k
  · subst e; rw [upA_s, pk_un (by omega)]
  · rw [upA_n e]⟩
theorem FLn.s21 {s : Nat → Int32} {A : Nat → Nat → Int32} {k : Nat} {x : Int32} (hk : k = 20 ∨ k = 21) : FLn s A (updI s k x) A := ⟨fun i hi => updI_n (by omega), fun _ _ => rfl, fun _ _ _ => rfl⟩
def lnQ (K : TK) (L cnt : Nat) (L0 : LL) (M : Nat → MR) (s : Nat → Int32) (A : Nat → Nat → Int32) (R' : RS) : Option Value → List EC → Prop := fun r w' => r = none ∧ ∃ s' A', w' = modW s' A' L0 M ∧ FLn s A s' A' ∧ CRl K L cnt s' R'.1 ∧ (R'.1.2.1 = 0 → GIv s' A' R' ∧ s' 21 = s 21 + nI 1)
theorem L10_ln324 {K : TK} {L cnt : Nat} (hK : KT K L cnt) {L0 : LL} {M : Nat → MR} {D : Nat} {s0 s : Nat → Int32} {A0 A : Nat → Nat → Int32} {R : RS} (hD : 9 ≤ D) (hF : FLn s0 A0 s A) (hTP : TP K.2.2.1 (A 1) L) (e21 : s 21 = s0 21) (h : CRl K L cnt s R.1) (hG : R.1.2.1 = 0 → GIv s A R) : J m10_line D 0 0 40 324 [(0, .ref 0)] [] (modW s A L0 M) 0 0 (lnQ K L cnt L0 M s0 A0 (paC K (nI 31) R)) := by
  refine J_aload_n (pc := 324) D10_line_324 rfl ?_
  refine J_getf (pc := 325) D10_line_325 fl10_193 rfl rfl ?_
  rw [h.1]
  refine J_if_eq (pc := 328) (tgt := 332) D10_line_328 (by decide) (fun h328 => ?_) (fun h328 => ?_)
  · have h328' := eq_true h328
    have kvr := (h.2.2 h328).2.2.2.1
    have h27 : s 27 = 0 := by rw [h.1]; exact h328
    refine J_aload_n (pc := 332) D10_line_332 rfl ?_
    refine J_bipush (pc := 333) (v := (nI 59)) D10_line_333 (by decide) ?_
    refine J_callVTR (pc := 335) (ac := [.int _]) D10_line_335 m10_isSign_v t1548 (c10_isSign (d := D - 2)) (by omega) rfl rfl rfl rfl (fun _ => rfl) rfl rfl rfl ?_
    refine J_if_ne (pc := 338) (tgt := 349) D10_line_338 (by decide) (fun h338 => ?_) (fun h338 => ?_)
    · replace h338 := (kv_s59 kvr).mp (i01_nz h338).2
      refine J_aload_n (pc := 349) D10_line_349 rfl ?_
      refine J_callVT (pc := 350) (ac := []) D10_line_350 m10_token_v t1435 (tokC_l (d := D - 7) (C := R.1) hK hTP h h328) (by omega) rfl rfl rfl rfl rfl rfl rfl (fun r w' hq hl => ?_)
      obtain ⟨rfl, s1, rfl, a1, b1⟩ := hq
      refine J_aload_n (pc := 353) D10_line_353 rfl ?_
      refine J_dup (pc := 354) D10_line_354 rfl ?_
      refine J_getf (pc := 355) D10_line_355 fl10_249 rfl rfl ?_
      refine J_iconst (pc := 358) (v := (nI 1)) D10_line_358 (by decide) ?_
      refine J_iadd (pc := 359) D10_line_359 ?_
      refine J_mput (pc := 360) D10_line_360 fp10_249 ms_21 ?_
      refine J_vret (pc := 363) D10_line_363 rfl ?_
      rw [show paC K (nI 31) R = (stepC K R.1, R.2) from by unfold paC; rw [takC_y h328 h338]]
      refine ⟨rfl, _, A, rfl, hF.tr ((FLn.fs a1).tr (FLn.s21 (Or.inr rfl))), b1.c (fun k _ _ => updI_n (by omega)), fun q => ⟨?_, ?_⟩⟩
      · exact (((hG h328).c (a1 20 (by decide)) (a1 31 (by decide)) (a1 32 (by decide))).c (updI_n (by decide)) (updI_n (by decide)) (updI_n (by decide))).r rfl
      · rw [updI_s, a1 21 (by decide), e21]
    · have h338' := eq_true h338
      replace h338 : ¬ kdR K R = nI 31 := fun q => i01_z h338 ⟨h27, (kv_s59 kvr).mpr q⟩
      refine J_aload_n (pc := 341) D10_line_341 rfl ?_
      refine J_iconst (pc := 342) (v := (nI 1)) D10_line_342 (by decide) ?_
      refine J_callVT (pc := 343) (ac := [.int _]) D10_line_343 m10_wrong_v t1469 (c10_wrong (d := D - 2) (C := R.1) h (by decide)) (by omega) rfl rfl rfl rfl rfl rfl rfl (fun r w' hq hl => ?_)
      obtain ⟨rfl, s1, rfl, a1, b1⟩ := hq
      refine J_goto (pc := 346) (tgt := 353) D10_line_346 (by decide) ?_
      refine J_aload_n (pc := 353) D10_line_353 rfl ?_
      refine J_dup (pc := 354) D10_line_354 rfl ?_
      refine J_getf (pc := 355) D10_line_355 fl10_249 rfl rfl ?_
      refine J_iconst (pc := 358) (v := (nI 1)) D10_line_358 (by decide) ?_
      refine J_iadd (pc := 359) D10_line_359 ?_
      refine J_mput (pc := 360) D10_line_360 fp10_249 ms_21 ?_
      refine J_vret (pc := 363) D10_line_363 rfl ?_
      rw [show paC K (nI 31) R = (refC K (nI 1) R.1, R.2) from by unfold paC; rw [takC_n h328 h338]]
      exact ⟨rfl, _, A, rfl, hF.tr ((FLn.fs a1).tr (FLn.s21 (Or.inr rfl))), b1.c (fun k _ _ => updI_n (by omega)), fun q => absurd q (ref_nz h328 (by decide))⟩
  · refine J_vret (pc := 331) D10_line_331 rfl ?_
    rw [show paC K (nI 31) R = R from by unfold paC; rw [takC_f h328]]
    exact ⟨rfl, s, A, rfl, hF, h, fun q => absurd q h328⟩
theorem c10_isFull0 {d : Nat} {s : Nat → Int32} {A : Nat → Nat → Int32} {L0 : LL} {M : Nat → MR} : TR (d + 1) m10_isFull [.ref 0, .int (nI 0)] (modW s A L0 M) (.int (i01 (A 3 6 = nI 5))) := by
  refine Tr.intro (by decide) rfl ?_
  refine J_iload_n (pc := 0) D10_isFull_0 rfl ?_
  refine J_if_ne (pc := 1) (tgt := 13) D10_isFull_1 (by decide) (fun h1 => absurd rfl h1) (fun h1 => ?_)
  refine J_aload_n (pc := 4) D10_isFull_4 rfl ?_
  refine J_iconst (pc := 5) (v := (nI 0)) D10_isFull_5 (by decide) ?_
  refine J_callVTR (pc := 6) (ac := [.int _]) D10_isFull_6 m10_fresher_v t1477 (c10_fresher (d := d) (k := 0) (by decide)) (by omega) rfl rfl rfl rfl (fun _ => rfl) rfl rfl rfl ?_
  refine J_iconst (pc := 9) (v := (nI 5)) D10_isFull_9 (by decide) ?_
  refine J_icmp_eq (pc := 10) (tgt := 43) D10_isFull_10 (by decide) (fun h10 => ?_) (fun h10 => ?_)
  · have h10' := eq_true h10
    refine J_iconst (pc := 43) (v := (nI 1)) D10_isFull_43 (by decide) ?_
    refine J_goto (pc := 44) (tgt := 48) D10_isFull_44 (by decide) ?_
    refine J_zret (pc := 48) D10_isFull_48 rfl (by decide) ?_
    exact ⟨rfl, congrArg (fun q => some (Value.int q)) (i01_t h10).symm⟩
  · refine J_iload_n (pc := 13) D10_isFull_13 rfl ?_
    refine J_iconst (pc := 14) (v := (nI 1)) D10_isFull_14 (by decide) ?_
    refine J_icmp_ne (pc := 15) (tgt := 28) D10_isFull_15 (by decide) (fun h15 => ?_) (fun h15 => absurd h15 (by decide))
    refine J_iload_n (pc := 28) D10_isFull_28 rfl ?_
    refine J_iconst (pc := 29) (v := (nI 2)) D10_isFull_29 (by decide) ?_
    refine J_icmp_ne (pc := 30) (tgt := 47) D10_isFull_30 (by decide) (fun h30 => ?_) (fun h30 => absurd h30 (by decide))
    refine J_iconst (pc := 47) (v := (nI 0)) D10_isFull_47 (by decide) ?_
    refine J_zret (pc := 48) D10_isFull_48 rfl (by decide) ?_
    exact ⟨rfl, congrArg (fun q => some (Value.int q)) (i01_f h10).symm⟩
theorem c10_isFull1 {d : Nat} {s : Nat → Int32} {A : Nat → Nat → Int32} {L0 : LL} {M : Nat → MR} : TR (d + 1) m10_isFull [.ref 0, .int (nI 1)] (modW s A L0 M) (.int (i01 (A 3 7 = nI 10))) := by
  refine Tr.intro (by decide) rfl ?_
  refine J_iload_n (pc := 0) D10_isFull_0 rfl ?_
  refine J_if_ne (pc := 1) (tgt := 13) D10_isFull_1 (by decide) (fun h1 => ?_) (fun h1 => absurd h1 (by decide))
  refine J_iload_n (pc := 13) D10_isFull_13 rfl ?_
  refine J_iconst (pc := 14) (v := (nI 1)) D10_isFull_14 (by decide) ?_
  refine J_icmp_ne (pc := 15) (tgt := 28) D10_isFull_15 (by decide) (fun h15 => absurd rfl h15) (fun h15 => ?_)
  refine J_aload_n (pc := 18) D10_isFull_18 rfl ?_
  refine J_iconst (pc := 19) (v := (nI 1)) D10_isFull_19 (by decide) ?_
  refine J_callVTR (pc := 20) (ac := [.int _]) D10_isFull_20 m10_fresher_v t1477 (c10_fresher (d := d) (k := 1) (by decide)) (by omega) rfl rfl rfl rfl (fun _ => rfl) rfl rfl rfl ?_
  refine J_bipush (pc := 23) (v := (nI 10)) D10_isFull_23 (by decide) ?_
  refine J_icmp_eq (pc := 25) (tgt := 43) D10_isFull_25 (by decide) (fun h25 => ?_) (fun h25 => ?_)
  · have h25' := eq_true h25
    refine J_iconst (pc := 43) (v := (nI 1)) D10_isFull_43 (by decide) ?_
    refine J_goto (pc := 44) (tgt := 48) D10_isFull_44 (by decide) ?_
    refine J_zret (pc := 48) D10_isFull_48 rfl (by decide) ?_
    exact ⟨rfl, congrArg (fun q => some (Value.int q)) (i01_t h25).symm⟩
  · refine J_iload_n (pc := 28) D10_isFull_28 rfl ?_
    refine J_iconst (pc := 29) (v := (nI 2)) D10_isFull_29 (by decide) ?_
    refine J_icmp_ne (pc := 30) (tgt := 47) D10_isFull_30 (by decide) (fun h30 => ?_) (fun h30 => absurd h30 (by decide))
    refine J_iconst (pc := 47) (v := (nI 0)) D10_isFull_47 (by decide) ?_
    refine J_zret (pc := 48) D10_isFull_48 rfl (by decide) ?_
    exact ⟨rfl, congrArg (fun q => some (Value.int q)) (i01_f h25).symm⟩
theorem c10_isFull2 {d : Nat} {s : Nat → Int32} {A : Nat → Nat → Int32} {L0 : LL} {M : Nat → MR} : TR (d + 1) m10_isFull [.ref 0, .int (nI 2)] (modW s A L0 M) (.int (i01 (A 3 8 = nI 8))) := by
  refine Tr.intro (by decide) rfl ?_
  refine J_iload_n (pc := 0) D10_isFull_0 rfl ?_
  refine J_if_ne (pc := 1) (tgt := 13) D10_isFull_1 (by decide) (fun h1 => ?_) (fun h1 => absurd h1 (by decide))
  refine J_iload_n (pc := 13) D10_isFull_13 rfl ?_
  refine J_iconst (pc := 14) (v := (nI 1)) D10_isFull_14 (by decide) ?_
  refine J_icmp_ne (pc := 15) (tgt := 28) D10_isFull_15 (by decide) (fun h15 => ?_) (fun h15 => absurd h15 (by decide))
  refine J_iload_n (pc := 28) D10_isFull_28 rfl ?_
  refine J_iconst (pc := 29) (v := (nI 2)) D10_isFull_29 (by decide) ?_
  refine J_icmp_ne (pc := 30) (tgt := 47) D10_isFull_30 (by decide) (fun h30 => absurd rfl h30) (fun h30 => ?_)
  refine J_aload_n (pc := 33) D10_isFull_33 rfl ?_
  refine J_iconst (pc := 34) (v := (nI 2)) D10_isFull_34 (by decide) ?_
  refine J_callVTR (pc := 35) (ac := [.int _]) D10_isFull_35 m10_fresher_v t1477 (c10_fresher (d := d) (k := 2) (by decide)) (by omega) rfl rfl rfl rfl (fun _ => rfl) rfl rfl rfl ?_
  refine J_bipush (pc := 38) (v := (nI 8)) D10_isFull_38 (by decide) ?_
  refine J_icmp_ne (pc := 40) (tgt := 47) D10_isFull_40 (by decide) (fun h40 => ?_) (fun h40 => ?_)
  · refine J_iconst (pc := 47) (v := (nI 0)) D10_isFull_47 (by decide) ?_
    refine J_zret (pc := 48) D10_isFull_48 rfl (by decide) ?_
    exact ⟨rfl, congrArg (fun q => some (Value.int q)) (i01_f h40).symm⟩
  · have h40' := eq_true h40
    refine J_iconst (pc := 43) (v := (nI 1)) D10_isFull_43 (by decide) ?_
    refine J_goto (pc := 44) (tgt := 48) D10_isFull_44 (by decide) ?_
    refine J_zret (pc := 48) D10_isFull_48 rfl (by decide) ?_
    exact ⟨rfl, congrArg (fun q => some (Value.int q)) (i01_t h40).symm⟩
theorem c10_isFull3 {d : Nat} {s : Nat → Int32} {A : Nat → Nat → Int32} {L0 : LL} {M : Nat → MR} : TR (d + 1) m10_isFull [.ref 0, .int (nI 3)] (modW s A L0 M) (.int (i01 (False))) := by
  refine Tr.intro (by decide) rfl ?_
  refine J_iload_n (pc := 0) D10_isFull_0 rfl ?_
  refine J_if_ne (pc := 1) (tgt := 13) D10_isFull_1 (by decide) (fun h1 => ?_) (fun h1 => absurd h1 (by decide))
  refine J_iload_n (pc := 13) D10_isFull_13 rfl ?_
  refine J_iconst (pc := 14) (v := (nI 1)) D10_isFull_14 (by decide) ?_
  refine J_icmp_ne (pc := 15) (tgt := 28) D10_isFull_15 (by decide) (fun h15 => ?_) (fun h15 => absurd h15 (by decide))
  refine J_iload_n (pc := 28) D10_isFull_28 rfl ?_
  refine J_iconst (pc := 29) (v := (nI 2)) D10_isFull_29 (by decide) ?_
  refine J_icmp_ne (pc := 30) (tgt := 47) D10_isFull_30 (by decide) (fun h30 => ?_) (fun h30 => absurd h30 (by decide))
  refine J_iconst (pc := 47) (v := (nI 0)) D10_isFull_47 (by decide) ?_
  refine J_zret (pc := 48) D10_isFull_48 rfl (by decide) ?_
  exact ⟨rfl, congrArg (fun q => some (Value.int q)) (i01_f (fun q => q)).symm⟩
theorem c10_isFull4 {d : Nat} {s : Nat → Int32} {A : Nat → Nat → Int32} {L0 : LL} {M : Nat → MR} : TR (d + 1) m10_isFull [.ref 0, .int (nI 4)] (modW s A L0 M) (.int (i01 (False))) := by
  refine Tr.intro (by decide) rfl ?_
  refine J_iload_n (pc := 0) D10_isFull_0 rfl ?_
  refine J_if_ne (pc := 1) (tgt := 13) D10_isFull_1 (by decide) (fun h1 => ?_) (fun h1 => absurd h1 (by decide))
  refine J_iload_n (pc := 13) D10_isFull_13 rfl ?_
  refine J_iconst (pc := 14) (v := (nI 1)) D10_isFull_14 (by decide) ?_
  refine J_icmp_ne (pc := 15) (tgt := 28) D10_isFull_15 (by decide) (fun h15 => ?_) (fun h15 => absurd h15 (by decide))
  refine J_iload_n (pc := 28) D10_isFull_28 rfl ?_
  refine J_iconst (pc := 29) (v := (nI 2)) D10_isFull_29 (by decide) ?_
  refine J_icmp_ne (pc := 30) (tgt := 47) D10_isFull_30 (by decide) (fun h30 => ?_) (fun h30 => absurd h30 (by decide))
  refine J_iconst (pc := 47) (v := (nI 0)) D10_isFull_47 (by decide) ?_
  refine J_zret (pc := 48) D10_isFull_48 rfl (by decide) ?_
  exact ⟨rfl, congrArg (fun q => some (Value.int q)) (i01_f (fun q => q)).symm⟩
theorem c10_isFull5 {d : Nat} {s : Nat → Int32} {A : Nat → Nat → Int32} {L0 : LL} {M : Nat → MR} : TR (d + 1) m10_isFull [.ref 0, .int (nI 5)] (modW s A L0 M) (.int (i01 (False))) := by
  refine Tr.intro (by decide) rfl ?_
  refine J_iload_n (pc := 0) D10_isFull_0 rfl ?_
  refine J_if_ne (pc := 1) (tgt := 13) D10_isFull_1 (by decide) (fun h1 => ?_) (fun h1 => absurd h1 (by decide))
  refine J_iload_n (pc := 13) D10_isFull_13 rfl ?_
  refine J_iconst (pc := 14) (v := (nI 1)) D10_isFull_14 (by decide) ?_
  refine J_icmp_ne (pc := 15) (tgt := 28) D10_isFull_15 (by decide) (fun h15 => ?_) (fun h15 => absurd h15 (by decide))
  refine J_iload_n (pc := 28) D10_isFull_28 rfl ?_
  refine J_iconst (pc := 29) (v := (nI 2)) D10_isFull_29 (by decide) ?_
  refine J_icmp_ne (pc := 30) (tgt := 47) D10_isFull_30 (by decide) (fun h30 => ?_) (fun h30 => absurd h30 (by decide))
  refine J_iconst (pc := 47) (v := (nI 0)) D10_isFull_47 (by decide) ?_
  refine J_zret (pc := 48) D10_isFull_48 rfl (by decide) ?_
  exact ⟨rfl, congrArg (fun q => some (Value.int q)) (i01_f (fun q => q)).symm⟩
theorem hb_1 {x : Int32} {b : Nat} : ((x >>> (nI b &&& 31)) &&& nI 1 = nI 1) ↔ hb x b = true := by
  unfold hb
  rw [decide_eq_true_iff]
  rcases and1 (x >>> (nI b &&& 31)) with h | h
  · rw [h]; decide
  · rw [h]; decide
theorem lin_f {K : TK} {R : RS} {x : Int32} (h0 : R.1.2.1 = 0) (hx : ¬ x = 0) (e : linR1 K R = (refC K x R.1, R.2)) : linR K R = (refC K x R.1, R.2) := by
  unfold linR paC
  rw [e, takC_f (ref_nz h0 hx)]
theorem L10_lnN {K : TK} {L cnt : Nat} (hK : KT K L cnt) {L0 : LL} {M : Nat → MR} {D : Nat} {s : Nat → Int32} {A : Nat → Nat → Int32} {R : RS} (hD : 9 ≤ D) (h : CRl K L cnt s R.1) (h0 : R.1.2.1 = 0) (hk : ¬ (kdR K R = nI 0 ∨ kdR K R = nI 1 ∨ kdR K R = nI 2 ∨ kdR K R = nI 3 ∨ kdR K R = nI 4 ∨ kdR K R = nI 5)) : J m10_line D 0 0 40 0 [(0, .ref 0)] [] (modW s A L0 M) 0 0 (lnQ K L cnt L0 M s A (linR K R)) := by
  have kvr := (h.2.2 h0).2.2.2.1
  have hl : ¬ (s 25 = nI 0 ∧ s 26 ≤ nI 5) := fun q => hk ((kv_lin kvr).mp q)
  have e9 : linR K R = (refC K (nI 1) R.1, R.2) := lin_f h0 (by decide) (by
    unfold linR1
    rw [if_neg (fun q => hk (Or.inl q)), if_neg (fun q => hk (Or.inr (Or.inl q))), if_neg (fun q => hk (Or.inr (Or.inr (Or.inl q)))), if_neg (fun q => hk (Or.inr (Or.inr (Or.inr (Or.inl q))))), if_neg (fun q => hk (Or.inr (Or.inr (Or.inr (Or.inr (Or.inl q)))))), if_neg (fun q => hk (Or.inr (Or.inr (Or.inr (Or.inr (Or.inr q))))))])
  rw [e9]
  refine J_aload_n (pc := 0) D10_line_0 rfl ?_
  refine J_getf (pc := 1) D10_line_1 fl10_158 rfl rfl ?_
  refine J_if_ne (pc := 4) (tgt := 15) D10_line_4 (by decide) (fun h4 => ?_) (fun h4 => ?_)
  · refine J_aload_n (pc := 15) D10_line_15 rfl ?_
    refine J_iconst (pc := 16) (v := (nI 1)) D10_line_16 (by decide) ?_
    refine J_callVT (pc := 17) (ac := [.int _]) D10_line_17 m10_wrong_v t1469 (c10_wrong (d := D - 2) (C := R.1) h (by decide)) (by omega) rfl rfl rfl rfl rfl rfl rfl (fun r w' hq hl => ?_)
    obtain ⟨rfl, s1, rfl, a1, b1⟩ := hq
    refine J_vret (pc := 20) D10_line_20 rfl ?_
    exact ⟨rfl, s1, A, rfl, FLn.fs a1, b1, fun q => absurd q (ref_nz h0 (by decide))⟩
  · have h4' := eq_true h4
    refine J_aload_n (pc := 7) D10_line_7 rfl ?_
    refine J_getf (pc := 8) D10_line_8 fl10_168 rfl rfl ?_
    refine J_iconst (pc := 11) (v := (nI 5)) D10_line_11 (by decide) ?_
    refine J_icmp_le (pc := 12) (tgt := 21) D10_line_12 (by decide) (fun h12 => absurd h12 (fun q => hl ⟨h4, q⟩)) (fun h12 => ?_)
    refine J_aload_n (pc := 15) D10_line_15 rfl ?_
    refine J_iconst (pc := 16) (v := (nI 1)) D10_line_16 (by decide) ?_
    refine J_callVT (pc := 17) (ac := [.int _]) D10_line_17 m10_wrong_v t1469 (c10_wrong (d := D - 2) (C := R.1) h (by decide)) (by omega) rfl rfl rfl rfl rfl rfl rfl (fun r w' hq hl => ?_)
    obtain ⟨rfl, s1, rfl, a1, b1⟩ := hq
    refine J_vret (pc := 20) D10_line_20 rfl ?_
    exact ⟨rfl, s1, A, rfl, FLn.fs a1, b1, fun q => absurd q (ref_nz h0 (by decide))⟩
