/-! THE MODEL: sums read, knots and heights (own program mod_q5.py) -/
abbrev lenR (R : RS) : Nat := R.2.2.2.2.1.1
abbrev knR (R : RS) : Nat := R.2.2.2.2.1.2
abbrev lawA (R : RS) : Nat → Nat → Int32 := R.2.2.2.2.2.2
abbrev kdR (K : TK) (R : RS) : Int32 := K.2.2.2.1 R.1.1
/-- heights, from the law's first knot on -/
def XI (p : Nat) (A : Nat → Nat → Int32) (R : RS) (x : Nat) : Prop := ∃ h : Nat → Nat, p ≤ lenR R ∧ h p = 0 ∧ h (lenR R) = x ∧ (∀ i, p ≤ i → i < lenR R → KR (lawA R 2 i) (lawA R 3 i) (A 18 (64 + i)) (A 19 (64 + i)) (h i) (h (i + 1))) ∧ ∀ i, p ≤ i → i ≤ lenR R → h i ≤ i - p
/-- numbers of the reader while a sum is read -/
def ST (op : Nat) (s : Nat → Int32) (A : Nat → Nat → Int32) (R : RS) : Prop := s 31 = nI op ∧ s 32 = nI (knR R) ∧ A 3 11 = nI (lenR R) ∧ lenR R ≤ knR R ∧ knR R ≤ 64
/-- the class' reader: but for place, knots and length nothing has changed -/
def RF (R R' : RS) : Prop := R'.2.1 = R.2.1 ∧ R'.2.2.1 = R.2.2.1 ∧ R'.2.2.2.1 = R.2.2.2.1 ∧ R'.2.2.2.2.2.1 = R.2.2.2.2.2.1 ∧ (∀ k, k ≠ 2 → k ≠ 3 → lawA R' k = lawA R k) ∧ ∀ i, i < lenR R → lawA R' 2 i = lawA R 2 i ∧ lawA R' 3 i = lawA R 3 i
/-- the model: the same -/
def FE (s : Nat → Int32) (A : Nat → Nat → Int32) (s' : Nat → Int32) (A' : Nat → Nat → Int32) : Prop := (∀ k, k < 23 ∨ k = 29 ∨ k = 30 ∨ 32 < k → s' k = s k) ∧ (∀ k, k ≠ 3 → k ≠ 18 → k ≠ 19 → A' k = A k) ∧ (∀ i, i ≠ 11 → A' 3 i = A 3 i) ∧ ∀ i, i < 64 → A' 18 i = A 18 i ∧ A' 19 i = A 19 i
theorem FE.rf {s : Nat → Int32} {A : Nat → Nat → Int32} : FE s A s A := ⟨fun _ _ => rfl, fun _ _ _ _ => rfl, fun _ _ => rfl, fun _ _ => ⟨rfl, rfl⟩⟩
theorem FE.tr {s s' s'' : Nat → Int32} {A A' A'' : Nat → Nat → Int32} (h : FE s A s' A') (h' : FE s' A' s'' A'') : FE s A s'' A'' := ⟨fun k hk => (h'.1 k hk).trans (h.1 k hk), fun k a b c => (h'.2.1 k a b c).trans (h.2.1 k a b c), fun i hi => (h'.2.2.1 i hi).trans (h.2.2.1 i hi), fun i hi => ⟨(h'.2.2.2 i hi).1.trans (h.2.2.2 i hi).1, (h'.2.2.2 i hi).2.trans (h.2.2.2 i hi).2⟩⟩
theorem FE.fs {s s' : Nat → Int32} {A : Nat → Nat → Int32} (h : FS s s') : FE s A s' A := ⟨fun k hk => h k (by omega), fun _ _ _ _ => rfl, fun _ _ => rfl, fun _ _ => ⟨rfl, rfl⟩⟩
theorem FE.tp {s s' : Nat → Int32} {A A' : Nat → Nat → Int32} {tp : Nat → Int32} {L : Nat} (h : FE s A s' A') (hT : TP tp (A 1) L) : TP tp (A' 1) L := by rw [h.2.1 1 (by decide) (by decide) (by decide)]; exact hT
theorem RF.rf {R : RS} : RF R R := ⟨rfl, rfl, rfl, rfl, fun _ _ _ => rfl, fun _ _ => ⟨rfl, rfl⟩⟩
/-- a sum has been read: one higher -/
def EXP (s : Nat → Int32) (A : Nat → Nat → Int32) (R : RS) (s' : Nat → Int32) (A' : Nat → Nat → Int32) (R' : RS) : Prop := RF R R' ∧ s' 31 = s 31 ∧ s' 32 = nI (knR R') ∧ A' 3 11 = nI (lenR R') ∧ lenR R < lenR R' ∧ knR R' + lenR R = knR R + lenR R' ∧ knR R' ≤ 64 ∧ (∀ i, i < lenR R → A' 18 (64 + i) = A 18 (64 + i) ∧ A' 19 (64 + i) = A 19 (64 + i)) ∧ ∀ p x, XI p A R x → XI p A' R' (x + 1)
def exQ (K : TK) (L cnt : Nat) (L0 : LL) (M : Nat → MR) (s : Nat → Int32) (A : Nat → Nat → Int32) (R R' : RS) : Option Value → List EC → Prop := fun r w' => r = none ∧ ∃ s' A', w' = modW s' A' L0 M ∧ FE s A s' A' ∧ CRl K L cnt s' R'.1 ∧ (R'.1.2.1 = 0 → EXP s A R s' A' R')
theorem EXP.st {s s' : Nat → Int32} {A A' : Nat → Nat → Int32} {R R' : RS} {op : Nat} (h : EXP s A R s' A' R') (hs : ST op s A R) : ST op s' A' R' := ⟨h.2.1.trans hs.1, h.2.2.1, h.2.2.2.1, by have := h.2.2.2.2.2.1; have := hs.2.2.2.1; omega, h.2.2.2.2.2.2.1⟩
/-- the knot's count -/
def knC (K : TK) (kn : Nat) (C : RC) : RC := if C.2.1 = 0 then tkC K kn C else C
theorem tkR_1 {K : TK} {R : RS} : (tkR K R).1 = goC K (knC K (knR R) R.1) := by
  unfold tkR knC goC
  by_cases h0 : R.1.2.1 = 0
  · rw [if_pos h0]; split <;> rfl
  · have e : tkC K (knR R) R.1 = R.1 := by
      unfold tkC
      split
      · rfl
      · exact refC_n h0
    rw [if_neg h0, if_neg h0]
    show (if (tkC K (knR R) R.1).2.1 = 0 then _ else (tkC K (knR R) R.1, R.2)).1 = _
    rw [e, if_neg h0]
theorem tkR_f {K : TK} {R : RS} (h0 : ¬ R.1.2.1 = 0) : tkR K R = R := by
  have e : tkC K (knR R) R.1 = R.1 := by
    unfold tkC
    split
    · rfl
    · exact refC_n h0
  unfold tkR
  show (if (tkC K (knR R) R.1).2.1 = 0 then _ else (tkC K (knR R) R.1, R.2)) = _
  rw [e, if_neg h0]
theorem tkR_k {K : TK} {R : RS} (h0 : R.1.2.1 = 0) (hk : knR R < 64) : tkR K R = (stepC K R.1, R.2.1, R.2.2.1, R.2.2.2.1, (lenR R, knR R + 1), R.2.2.2.2.2) := by
  have e : tkC K (knR R) R.1 = R.1 := if_pos hk
  unfold tkR
  show (if (tkC K (knR R) R.1).2.1 = 0 then (stepC K (tkC K (knR R) R.1), _) else (tkC K (knR R) R.1, R.2)) = _
  rw [e, if_pos h0]
theorem tkR_x {K : TK} {R : RS} (h0 : R.1.2.1 = 0) (hk : ¬ knR R < 64) : ¬ (tkR K R).1.2.1 = 0 := by
  have e : tkC K (knR R) R.1 = refC K (nI 2) R.1 := if_neg hk
  have hz := ref_nz (K := K) (x := nI 2) h0 (by decide)
  unfold tkR
  show ¬ (if (tkC K (knR R) R.1).2.1 = 0 then (stepC K (tkC K (knR R) R.1), _) else (tkC K (knR R) R.1, R.2)).1.2.1 = 0
  rw [e, if_neg hz]
  exact hz
theorem putR_1 {x y : Int32} {R : RS} : (putR x y R).1 = R.1 := by unfold putR; split <;> rfl
theorem putR_l {x y : Int32} {R : RS} (h : lenR R < 64) : putR x y R = (R.1, R.2.1, R.2.2.1, R.2.2.2.1, (lenR R + 1, knR R), R.2.2.2.2.2.1, upA (upA (lawA R) 2 (upd (lawA R 2) (lenR R) x)) 3 (upd (lawA R 3) (lenR R) y)) := if_pos h
theorem c10_knot {d : Nat} {s : Nat → Int32} {A : Nat → Nat → Int32} {L0 : LL} {M : Nat → MR} {K : TK} {L cnt : Nat} {C : RC} (h : CRl K L cnt s C) {kn : Nat} (hs : C.2.1 = 0 → s 32 = nI kn ∧ kn ≤ 64) : Tr (d + 1) 0 0 m10_knot [.ref 0] (modW s A L0 M) (fun r w' => r = none ∧ ∃ s', w' = modW s' A L0 M ∧ (∀ k, (k < 23 ∨ 28 < k) → k ≠ 32 → s' k = s k) ∧ CRl K L cnt s' (knC K kn C) ∧ (C.2.1 = 0 → kn < 64 → s' 32 = nI (kn + 1) ∧ ∀ k, k ≠ 32 → s' k = s k)) := by
  have h1 := h.1
  by_cases h0 : C.2.1 = 0
  · obtain ⟨e32, hkn⟩ := hs h0
    by_cases hk : kn < 64
    · have en : knC K kn C = C := by unfold knC tkC; rw [if_pos h0, if_pos hk]
      refine Tr.intro (by decide) rfl ?_
      refine J_aload_n (pc := 0) D10_knot_0 rfl ?_
      refine J_getf (pc := 1) D10_knot_1 fl10_193 rfl rfl ?_
      rw [h1]
      refine J_if_eq (pc := 4) (tgt := 8) D10_knot_4 (by decide) (fun h4 => ?_) (fun h4 => absurd h0 h4)
      refine J_aload_n (pc := 8) D10_knot_8 rfl ?_
      refine J_getf (pc := 9) D10_knot_9 fl10_255 rfl rfl ?_
      refine J_bipush (pc := 12) (v := (nI 64)) D10_knot_12 (by decide) ?_
      rw [e32]
      refine J_icmp_ne (pc := 14) (tgt := 25) D10_knot_14 (by decide) (fun h14 => ?_) (fun h14 => absurd h14 (fun q => absurd (nI_eqI (by omega) (by decide) q) (by omega)))
      refine J_aload_n (pc := 25) D10_knot_25 rfl ?_
      refine J_dup (pc := 26) D10_knot_26 rfl ?_
      refine J_getf (pc := 27) D10_knot_27 fl10_255 rfl rfl ?_
      refine J_iconst (pc := 30) (v := (nI 1)) D10_knot_30 (by decide) ?_
      refine J_iadd (pc := 31) D10_knot_31 ?_
      rw [e32]
      refine J_mput (pc := 32) D10_knot_32 fp10_255 ms_32 ?_
      refine J_vret (pc := 35) D10_knot_35 rfl ?_
      exact ⟨rfl, _, rfl, fun k _ hk => updI_n hk, by rw [en]; exact h.c (fun k _ _ => updI_n (by omega)), fun _ _ => ⟨updI_s.trans (nI_add kn 1), fun k hk => updI_n hk⟩⟩
    · have ek : kn = 64 := by omega
      have en : knC K kn C = refC K (nI 2) C := by unfold knC tkC; rw [if_pos h0, if_neg hk]
      refine Tr.intro (by decide) rfl ?_
      refine J_aload_n (pc := 0) D10_knot_0 rfl ?_
      refine J_getf (pc := 1) D10_knot_1 fl10_193 rfl rfl ?_
      rw [h1]
      refine J_if_eq (pc := 4) (tgt := 8) D10_knot_4 (by decide) (fun h4 => ?_) (fun h4 => absurd h0 h4)
      refine J_aload_n (pc := 8) D10_knot_8 rfl ?_
      refine J_getf (pc := 9) D10_knot_9 fl10_255 rfl rfl ?_
      refine J_bipush (pc := 12) (v := (nI 64)) D10_knot_12 (by decide) ?_
      rw [e32]
      refine J_icmp_ne (pc := 14) (tgt := 25) D10_knot_14 (by decide) (fun h14 => absurd (by rw [ek]) h14) (fun h14 => ?_)
      refine J_aload_n (pc := 17) D10_knot_17 rfl ?_
      refine J_iconst (pc := 18) (v := (nI 2)) D10_knot_18 (by decide) ?_
      refine J_callVT (pc := 19) (ac := [.int _]) D10_knot_19 m10_wrong_v t1469 (c10_wrong (d := d) (C := C) h (by decide)) (by omega) rfl rfl rfl rfl rfl rfl rfl (fun r w' hq hl => ?_)
      obtain ⟨rfl, s2, rfl, a2, b2⟩ := hq
      refine J_goto (pc := 22) (tgt := 35) D10_knot_22 (by decide) ?_
      refine J_vret (pc := 35) D10_knot_35 rfl ?_
      exact ⟨rfl, s2, rfl, fun k a _ => a2 k a, by rw [en]; exact b2, fun _ q => absurd q hk⟩
  · have en : knC K kn C = C := if_neg h0
    refine Tr.intro (by decide) rfl ?_
    refine J_aload_n (pc := 0) D10_knot_0 rfl ?_
    refine J_getf (pc := 1) D10_knot_1 fl10_193 rfl rfl ?_
    rw [h1]
    refine J_if_eq (pc := 4) (tgt := 8) D10_knot_4 (by decide) (fun h4 => absurd h4 h0) (fun h4 => ?_)
    refine J_vret (pc := 7) D10_knot_7 rfl ?_
    exact ⟨rfl, s, rfl, fun _ _ _ => rfl, by rw [en]; exact h, fun q => absurd q h0⟩
theorem c10_puts {d : Nat} {s : Nat → Int32} {A : Nat → Nat → Int32} {L0 : LL} {M : Nat → MR} {K : TK} {L cnt : Nat} {C : RC} (h : CRl K L cnt s C) {n : Nat} (hs : C.2.1 = 0 → A 3 11 = nI n ∧ n < 64) {x y : Int32} : Tr (d + 1) 0 0 m10_puts [.ref 0, .int x, .int y] (modW s A L0 M) (fun r w' => r = none ∧ ∃ A', w' = modW s A' L0 M ∧ FE s A s A' ∧ (¬ C.2.1 = 0 → A' = A) ∧ (C.2.1 = 0 → A' 3 11 = nI (n + 1) ∧ A' 18 = upd (A 18) (64 + n) x ∧ A' 19 = upd (A 19) (64 + n) y)) := by
  have h1 := h.1
  by_cases h0 : C.2.1 = 0
  · obtain ⟨e11, hn⟩ := hs h0
    refine Tr.intro (by decide) rfl ?_
    refine J_aload_n (pc := 0) D10_puts_0 rfl ?_
    refine J_getf (pc := 1) D10_puts_1 fl10_193 rfl rfl ?_
    rw [h1]
    refine J_if_eq (pc := 4) (tgt := 8) D10_puts_4 (by decide) (fun h4 => ?_) (fun h4 => absurd h0 h4)
    refine J_aload_n (pc := 8) D10_puts_8 rfl ?_
    refine J_getf (pc := 9) D10_puts_9 fl10_58 rfl rfl ?_
    refine J_bipush (pc := 12) (v := (nI 64)) D10_puts_12 (by decide) ?_
    refine J_aload_n (pc := 14) D10_puts_14 rfl ?_
    refine J_iconst (pc := 15) (v := (nI 5)) D10_puts_15 (by decide) ?_
    refine J_callVTR (pc := 16) (ac := [.int _]) D10_puts_16 m10_fresher_v t1477 (c10_fresher (d := d) (k := 5) (by decide)) (by omega) rfl rfl rfl rfl (fun _ => rfl) rfl rfl rfl ?_
    rw [show A 3 (6 + 5) = nI n from e11]
    refine J_iadd (pc := 19) D10_puts_19 ?_
    refine J_iload_n (pc := 20) D10_puts_20 rfl ?_
    refine J_mast (pc := 21) D10_puts_21 ma_18 (nI_add 64 n) (by omega) rfl ?_
    refine J_aload_n (pc := 22) D10_puts_22 rfl ?_
    refine J_getf (pc := 23) D10_puts_23 fl10_61 rfl rfl ?_
    refine J_bipush (pc := 26) (v := (nI 64)) D10_puts_26 (by decide) ?_
    refine J_aload_n (pc := 28) D10_puts_28 rfl ?_
    refine J_iconst (pc := 29) (v := (nI 5)) D10_puts_29 (by decide) ?_
    refine J_callVTR (pc := 30) (ac := [.int _]) D10_puts_30 m10_fresher_v t1477 (c10_fresher (d := d) (k := 5) (by decide)) (by omega) rfl rfl rfl rfl (fun _ => rfl) rfl rfl rfl ?_
    rw [show (upA A 18 (upd (A 18) (64 + n) x)) 3 (6 + 5) = nI n from e11]
    refine J_iadd (pc := 33) D10_puts_33 ?_
    refine J_iload_n (pc := 34) D10_puts_34 rfl ?_
    refine J_mast (pc := 35) D10_puts_35 ma_19 (nI_add 64 n) (by omega) rfl ?_
    refine J_aload_n (pc := 36) D10_puts_36 rfl ?_
    refine J_iconst (pc := 37) (v := (nI 5)) D10_puts_37 (by decide) ?_
    refine J_aload_n (pc := 38) D10_puts_38 rfl ?_
    refine J_iconst (pc := 39) (v := (nI 5)) D10_puts_39 (by decide) ?_
    refine J_callVTR (pc := 40) (ac := [.int _]) D10_puts_40 m10_fresher_v t1477 (c10_fresher (d := d) (k := 5) (by decide)) (by omega) rfl rfl rfl rfl (fun _ => rfl) rfl rfl rfl ?_
    rw [show (upA (upA A 18 (upd (A 18) (64 + n) x)) 19 (upd (upA A 18 (upd (A 18) (64 + n) x) 19) (64 + n) y)) 3 (6 + 5) = nI n from e11]
    refine J_iconst (pc := 43) (v := (nI 1)) D10_puts_43 (by decide) ?_
    refine J_iadd (pc := 44) D10_puts_44 ?_
    refine J_callVT (pc := 45) (ac := [.int _, .int _]) D10_puts_45 m10_reads_v t1431 (c10_reads (d := d) (k := 5) (by decide)) (by omega) rfl rfl rfl rfl rfl rfl rfl (fun r w' hq hl => ?_)
    obtain ⟨rfl, rfl⟩ := hq
    refine J_vret (pc := 48) D10_puts_48 rfl ?_
    refine ⟨rfl, _, rfl, ⟨fun _ _ => rfl, fun k a b c => by rw [upA_n a, upA_n c, upA_n b], fun i hi => ?_, fun i hi => ⟨?_, ?_⟩⟩, fun q => absurd h0 q, fun _ => ⟨?_, rfl, rfl⟩⟩
    · rw [upA_s, pk_un (by omega)]; rfl
    · rw [upA_n (by decide), upA_n (by decide), upA_s, pk_un (by omega)]
    · rw [upA_n (by decide), upA_s]; exact pk_un (by omega)
    · rw [upA_s, show (11 : Nat) = 6 + 5 from rfl, pk_us]; exact nI_add n 1
  · refine Tr.intro (by decide) rfl ?_
    refine J_aload_n (pc := 0) D10_puts_0 rfl ?_
    refine J_getf (pc := 1) D10_puts_1 fl10_193 rfl rfl ?_
    rw [h1]
    refine J_if_eq (pc := 4) (tgt := 8) D10_puts_4 (by decide) (fun h4 => absurd h4 h0) (fun h4 => ?_)
    refine J_vret (pc := 7) D10_puts_7 rfl ?_
    exact ⟨rfl, A, rfl, FE.rf, fun _ => rfl, fun q => absurd q h0⟩
/-- a knot is put: heights -/
theorem XI.put {p x x' : Nat} {A A' : Nat → Nat → Int32} {R : RS} {sg nu ks kv : Int32} (h : XI p A R x) (hl : lenR R < 64) (e18 : A' 18 = upd (A 18) (64 + lenR R) ks) (e19 : A' 19 = upd (A 19) (64 + lenR R) kv) (hk : KR sg nu ks kv x x') (hx : x' ≤ x + 1) : XI p A' (putR sg nu R) x' := by
  obtain ⟨h, h1, h2, h3, h4, h5⟩ := h
  rw [putR_l hl]
  have h6 := h5 (lenR R) h1 (Nat.le_refl _)
  refine ⟨fun i => if i = lenR R + 1 then x' else h i, by show p ≤ lenR R + 1; omega, ?_, ?_, fun i hi hi2 => ?_, fun i hi hi2 => ?_⟩
  · show (if p = lenR R + 1 then x' else h p) = 0
    rw [if_neg (by omega)]; exact h2
  · show (if lenR R + 1 = lenR R + 1 then x' else _) = x'
    exact if_pos rfl
  · have hi3 : i < lenR R + 1 := hi2
    show KR (upd (lawA R 2) (lenR R) sg i) (upd (lawA R 3) (lenR R) nu i) (A' 18 (64 + i)) (A' 19 (64 + i)) (if i = lenR R + 1 then x' else h i) (if i + 1 = lenR R + 1 then x' else h (i + 1))
    rw [e18, e19]
    by_cases e : i = lenR R
    · rw [e, pk_us, pk_us, pk_us, pk_us, if_neg (by omega), if_pos rfl, h3]; exact hk
    · rw [pk_un e, pk_un e, pk_un (by omega), pk_un (by omega), if_neg (by omega), if_neg (by omega)]
      exact h4 i hi (by omega)
  · have hi3 : i ≤ lenR R + 1 := hi2
    show (if i = lenR R + 1 then x' else h i) ≤ i - p
    by_cases e : i = lenR R + 1
    · rw [if_pos e]; omega
    · rw [if_neg e]; exact h5 i hi (by omega)
theorem XI.le {p x : Nat} {A : Nat → Nat → Int32} {R : RS} (h : XI p A R x) : x + p ≤ lenR R := by
  obtain ⟨h, h1, h2, h3, h4, h5⟩ := h
  have := h5 (lenR R) h1 (Nat.le_refl _)
  omega
theorem XI.c {p x : Nat} {A : Nat → Nat → Int32} {R R' : RS} (h : XI p A R x) (el : lenR R' = lenR R) (ea : lawA R' = lawA R) : XI p A R' x := by
  unfold XI
  rw [el, ea]
  exact h
/-- a sum, a sign, a sum -/
theorem EXP.bin {s0 s s2 s3 : Nat → Int32} {A0 A A3 A4 : Nat → Nat → Int32} {R0 R R3 : RS} {op : Nat} {sg kv : Int32} {K : TK} (h1 : EXP s0 A0 R0 s A R) (hst : ST op s A R) (h0 : R.1.2.1 = 0) (hk : knR R < 64) (e31 : s2 31 = s 31) (h3 : EXP s2 A (tkR K R) s3 A3 R3) (ha : A4 3 11 = nI (lenR R3 + 1) ∧ A4 18 = upd (A3 18) (64 + lenR R3) (nI 2) ∧ A4 19 = upd (A3 19) (64 + lenR R3) kv) (hkr : ∃ j, j < 13 ∧ j ≠ 2 ∧ sg = nI (16 + j) ∧ kv = sgM sg) : EXP s0 A0 R0 s3 A4 (putR sg (nI 0) R3) ∧ lenR R3 < 64 := by
  have ek := tkR_k (K := K) h0 hk
  have el : lenR (tkR K R) = lenR R := by rw [ek]
  have en : knR (tkR K R) = knR R + 1 := by rw [ek]
  have ea : lawA (tkR K R) = lawA R := by rw [ek]
  obtain ⟨p1, p2, p3, p4, p5, p6, p7, p8, p9⟩ := h1
  obtain ⟨q1, q2, q3, q4, q5, q6, q7, q8, q9⟩ := h3
  obtain ⟨t1, t2, t3, t4, t5⟩ := hst
  rw [el, en] at q6
  rw [el] at q5 q8
  have hl : lenR R3 < 64 := by omega
  refine ⟨?_, hl⟩
  rw [putR_l hl]
  have hlaw : ∀ k, k ≠ 2 → k ≠ 3 → lawA R3 k = lawA R k := fun k a b => by rw [q1.2.2.2.2.1 k a b, ea]
  refine ⟨⟨?_, ?_, ?_, ?_, fun k a b => ?_, fun i hi => ⟨?_, ?_⟩⟩, ?_, q3, ha.1, ?_, ?_, q7, fun i hi => ⟨?_, ?_⟩, fun p x hx => ?_⟩
  · exact (q1.1.trans (by rw [ek])).trans p1.1
  · exact (q1.2.1.trans (by rw [ek])).trans p1.2.1
  · exact (q1.2.2.1.trans (by rw [ek])).trans p1.2.2.1
  · exact (q1.2.2.2.1.trans (by rw [ek])).trans p1.2.2.2.1
  · show upA (upA (lawA R3) 2 _) 3 _ k = _
    rw [upA_n b, upA_n a, hlaw k a b]
    exact p1.2.2.2.2.1 k a b
  · show upd (lawA R3 2) (lenR R3) sg i = _
    rw [pk_un (by omega), (q1.2.2.2.2.2 i (by rw [el]; omega)).1, ea]
    exact (p1.2.2.2.2.2 i hi).1
  · show upd (lawA R3 3) (lenR R3) _ i = _
    rw [pk_un (by omega), (q1.2.2.2.2.2 i (by rw [el]; omega)).2, ea]
    exact (p1.2.2.2.2.2 i hi).2
  · rw [q2, e31, p2]
  · show lenR R0 < lenR R3 + 1
    omega
  · show knR R3 + lenR R0 = knR R0 + (lenR R3 + 1)
    omega
  · rw [ha.2.1, pk_un (by omega), (q8 i (by omega)).1]
    exact (p8 i hi).1
  · rw [ha.2.2, pk_un (by omega), (q8 i (by omega)).2]
    exact (p8 i hi).2
  · have hx1 := p9 p x hx
    have hx2 := q9 p (x + 1) (hx1.c el ea)
    have hle := hx2.le
    have := hx2.put (x' := x + 1) (A' := A4) (sg := sg) (nu := nI 0) (ks := nI 2) (kv := kv) hl ha.2.1 ha.2.2 (Or.inr (Or.inr (Or.inr (by
      obtain ⟨j, j1, j2, j3, j4⟩ := hkr
      exact ⟨j, j1, j2, j3, rfl, j4, by omega, by omega, by omega⟩)))) (by omega)
    rw [putR_l hl] at this
    exact this
/-- 'not' and a sum -/
theorem EXP.neg {s s2 s3 : Nat → Int32} {A A3 A4 : Nat → Nat → Int32} {R R3 : RS} {op : Nat} {K : TK} (hst : ST op s A R) (h0 : R.1.2.1 = 0) (hk : knR R < 64) (e31 : s2 31 = s 31) (h3 : EXP s2 A (tkR K R) s3 A3 R3) (ha : A4 3 11 = nI (lenR R3 + 1) ∧ A4 18 = upd (A3 18) (64 + lenR R3) (nI 2) ∧ A4 19 = upd (A3 19) (64 + lenR R3) (nI 260)) : EXP s A R s3 A4 (putR (nI 18) (nI 0) R3) ∧ lenR R3 < 64 := by
  have ek := tkR_k (K := K) h0 hk
  have el : lenR (tkR K R) = lenR R := by rw [ek]
  have en : knR (tkR K R) = knR R + 1 := by rw [ek]
  have ea : lawA (tkR K R) = lawA R := by rw [ek]
  obtain ⟨q1, q2, q3, q4, q5, q6, q7, q8, q9⟩ := h3
  obtain ⟨t1, t2, t3, t4, t5⟩ := hst
  rw [el, en] at q6
  rw [el] at q5 q8
  have hl : lenR R3 < 64 := by omega
  refine ⟨?_, hl⟩
  rw [putR_l hl]
  have hlaw : ∀ k, k ≠ 2 → k ≠ 3 → lawA R3 k = lawA R k := fun k a b => by rw [q1.2.2.2.2.1 k a b, ea]
  refine ⟨⟨?_, ?_, ?_, ?_, fun k a b => ?_, fun i hi => ⟨?_, ?_⟩⟩, ?_, q3, ha.1, ?_, ?_, q7, fun i hi => ⟨?_, ?_⟩, fun p x hx => ?_⟩
  · exact q1.1.trans (by rw [ek])
  · exact q1.2.1.trans (by rw [ek])
  · exact q1.2.2.1.trans (by rw [ek])
  · exact q1.2.2.2.1.trans (by rw [ek])
  · show upA (upA (lawA R3) 2 _) 3 _ k = _
    rw [upA_n b, upA_n a, hlaw k a b]
  · show upd (lawA R3 2) (lenR R3) _ i = _
    rw [pk_un (by omega), (q1.2.2.2.2.2 i (by rw [el]; omega)).1, ea]
  · show upd (lawA R3 3) (lenR R3) _ i = _
    rw [pk_un (by omega), (q1.2.2.2.2.2 i (by rw [el]; omega)).2, ea]
  · rw [q2, e31]
  · show lenR R < lenR R3 + 1
    omega
  · show knR R3 + lenR R = knR R + (lenR R3 + 1)
    omega
  · rw [ha.2.1, pk_un (by omega), (q8 i (by omega)).1]
  · rw [ha.2.2, pk_un (by omega), (q8 i (by omega)).2]
  · have hx2 := q9 p x (hx.c el ea)
    have hle := hx2.le
    have := hx2.put (x' := x + 1) (A' := A4) (sg := nI 18) (nu := nI 0) (ks := nI 2) (kv := nI 260) hl ha.2.1 ha.2.2 (Or.inr (Or.inr (Or.inl ⟨rfl, rfl, rfl, by omega, by omega, rfl⟩))) (by omega)
    rw [putR_l hl] at this
    exact this
/-- a number or a name -/
theorem EXP.one {s s3 : Nat → Int32} {A A4 : Nat → Nat → Int32} {R : RS} {op : Nat} {K : TK} {sg nu ks kv : Int32} (hst : ST op s A R) (h0 : R.1.2.1 = 0) (hk : knR R < 64) (e31 : s3 31 = s 31) (e32 : s3 32 = nI (knR R + 1)) (ha : A4 3 11 = nI (lenR R + 1) ∧ A4 18 = upd (A 18) (64 + lenR R) ks ∧ A4 19 = upd (A 19) (64 + lenR R) kv) (hkr : ∀ x, x < 64 → KR sg nu ks kv x (x + 1)) : EXP s A R s3 A4 (putR sg nu (tkR K R)) := by
  have ek := tkR_k (K := K) h0 hk
  obtain ⟨t1, t2, t3, t4, t5⟩ := hst
  have hl : lenR R < 64 := by omega
  have hl2 : lenR (tkR K R) < 64 := by rw [ek]; exact hl
  have el : lenR (tkR K R) = lenR R := by rw [ek]
  have ea : lawA (tkR K R) = lawA R := by rw [ek]
  have hX : ∀ p x, XI p A R x → XI p A4 (putR sg nu (tkR K R)) (x + 1) := fun p x hx => by
    have hle := hx.le
    exact (hx.c el ea).put hl2 (by rw [el]; exact ha.2.1) (by rw [el]; exact ha.2.2) (hkr x (by omega)) (Nat.le_refl _)
  have ep : putR sg nu (tkR K R) = (stepC K R.1, R.2.1, R.2.2.1, R.2.2.2.1, (lenR R + 1, knR R + 1), R.2.2.2.2.2.1, upA (upA (lawA R) 2 (upd (lawA R 2) (lenR R) sg)) 3 (upd (lawA R 3) (lenR R) nu)) := by rw [putR_l hl2, ek]
  rw [ep] at hX ⊢
  refine ⟨⟨rfl, rfl, rfl, rfl, fun k a b => ?_, fun i hi => ⟨?_, ?_⟩⟩, e31, e32, ha.1, ?_, ?_, ?_, fun i hi => ⟨?_, ?_⟩, hX⟩
  · show upA (upA (lawA R) 2 _) 3 _ k = _
    rw [upA_n b, upA_n a]
  · exact pk_un (by omega)
  · exact pk_un (by omega)
  · show lenR R < lenR R + 1; omega
  · show knR R + 1 + lenR R = knR R + (lenR R + 1); omega
  · show knR R + 1 ≤ 64; omega
  · rw [ha.2.1, pk_un (by omega)]
  · rw [ha.2.2, pk_un (by omega)]
