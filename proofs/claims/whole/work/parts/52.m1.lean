/-! THE MODEL: relation to the class, small methods (own program mod_m1.py) -/
/-- how many of the first n lie in bin x -/
def ldN (m : MR) (x : Int32) : Nat → Nat
  | 0 => 0
  | n + 1 => ldN m x n + (if m.2.2.2 3 n = 0 ∧ m.2.2.2 0 n = x then 1 else 0)
/-- how many of the first n hate q -/
def hdS (m : MR) (q : Int32) : Nat → Int32
  | 0 => nI 0
  | n + 1 => hdS m q n + ((m.2.2.2 6 n >>> (q &&& 31)) &&& nI 1)
/-- signs: the class' number to the model's -/
def sgM (x : Int32) : Int32 := if x = nI 16 then nI 262 else if x = nI 17 then nI 261 else if x = nI 18 then nI 260 else if x = nI 19 then nI 60 else if x = nI 20 then nI 256 else if x = nI 21 then nI 61 else if x = nI 22 then nI 257 else if x = nI 23 then nI 258 else if x = nI 24 then nI 62 else if x = nI 25 then nI 43 else if x = nI 26 then nI 45 else if x = nI 27 then nI 42 else nI 47
/-- a knot: the class' sign and number, the model's sort and value, the height before and behind it -/
def KR (sg nu ks kv : Int32) (h h' : Nat) : Prop :=
  (sg = nI 29 ∧ ks = nI 0 ∧ kv = nu ∧ (∃ v, v ≤ 9999 ∧ nu = nI v) ∧ h < 64 ∧ h' = h + 1) ∨
  (∃ j, j < 7 ∧ sg = nI (9 + j) ∧ ks = nI 1 ∧ kv = nI j ∧ h < 64 ∧ h' = h + 1) ∨
  (sg = nI 18 ∧ ks = nI 2 ∧ kv = nI 260 ∧ 0 < h ∧ h ≤ 64 ∧ h' = h) ∨
  (∃ j, j < 13 ∧ j ≠ 2 ∧ sg = nI (16 + j) ∧ ks = nI 2 ∧ kv = sgM sg ∧ 1 < h ∧ h ≤ 64 ∧ h' + 1 = h)
/-- a law: untold on both sides, or the same knots, in Polish order -/
def LR (A : Nat → Nat → Int32) (T : TV) (k : Nat) : Prop :=
  (T.2.2.2 0 k = -1 ∧ A 16 k = nI 0 ∧ A 17 k = nI 0) ∨
  (∃ (p q : Nat) (h : Nat → Nat), p < q ∧ q ≤ 64 ∧ T.2.2.2 0 k = nI p ∧ T.2.2.2 1 k = nI q ∧ A 16 k = nI p ∧ A 17 k = nI q ∧ h p = 0 ∧ h q = 1 ∧
    ∀ i, p ≤ i → i < q → KR (T.2.2.2 2 i) (T.2.2.2 3 i) (A 18 i) (A 19 i) (h i) (h (i + 1)))
/-- what is told, on both sides -/
def RT (A : Nat → Nat → Int32) (T : TV) (np nb nn : Nat) : Prop :=
  A 3 0 = nI np ∧ A 3 1 = nI nb ∧ A 3 2 = nI nn ∧ A 3 3 = T.1 15 ∧ A 3 4 = T.1 16 ∧ A 3 5 = T.2.2.1 5 ∧
  (∀ p, p < np → A 4 p = T.2.1 1 p ∧ A 5 p = T.2.1 2 p) ∧
  (∀ b, b < nb → A 6 b = T.2.1 4 b ∧ A 7 b = T.2.1 5 b ∧ A 8 b = T.2.1 6 b ∧ A 9 b = T.2.1 7 b ∧ A 10 b = T.2.1 8 b ∧ A 11 b = T.2.1 9 b) ∧
  (∀ n, n < nn → A 12 n = T.2.1 11 n ∧ A 13 n = T.2.1 12 n ∧ A 14 n = T.2.1 13 n ∧ A 15 n = T.2.1 14 n) ∧
  (∀ k, k < 3 → LR A T k) ∧ (∃ t, t ≤ 100 ∧ T.1 15 = nI t) ∧ (∃ t, t ≤ 99999 ∧ T.1 16 = nI t) ∧ ∀ b, b < nb → ∃ f, f ≤ 199 ∧ T.2.1 8 b = nI f
def MT (x : Int32) : Prop := x = -1 ∨ x = nI 0 ∨ x = nI 1 ∨ x = nI 2
/-- a cellar, on both sides; σ: one may be opened there and missing here -/
def CR (σ : Prop) (np nb nn : Nat) (m : MR) (V : CV) : Prop :=
  m.1 = V.1 ∧ (m.2.1.toInt64 = V.2.1 ∧ 0 ≤ m.2.1) ∧ m.2.2.1 = V.2.2.1 ∧
  (∀ b, b < nb → m.2.2.2 0 b = V.2.2.2 0 b ∧ m.2.2.2 1 b = V.2.2.2 1 b ∧ m.2.2.2 2 b = V.2.2.2 2 b ∧ m.2.2.2 4 b = V.2.2.2 4 b ∧ (m.2.2.2 3 b = V.2.2.2 3 b ∨ (σ ∧ m.2.2.2 3 b = nI 1 ∧ V.2.2.2 3 b = nI 3))) ∧
  (∀ n, n < 8 → m.2.2.2 5 n = V.2.2.2 5 n) ∧ (∀ p, p < 5 → m.2.2.2 6 p = V.2.2.2 6 p) ∧
  (∀ q, q < 5 → V.2.2.2 7 q = hdS m (nI q) np) ∧ (∀ β, β < 6 → V.2.2.2 8 β = nI (ldN m (nI β) nb)) ∧
  (∀ b, nb ≤ b → b < 10 → V.2.2.2 3 b = nI 3) ∧ (∀ n, nn ≤ n → n < 8 → V.2.2.2 5 n = -1) ∧ WV V nb ∧ (∀ p, p < 5 → ∃ h, h < 32 ∧ V.2.2.2 6 p = nI h) ∧ (∀ n, n < 8 → MT (V.2.2.2 5 n)) ∧ ∀ b, b < nb → ∃ f, f ≤ 199 ∧ V.2.2.2 1 b = nI f
theorem CR.ly {σ : Prop} {np nb nn : Nat} {m : MR} {V : CV} (h : CR σ np nb nn m V) {b : Nat} (hb : b < nb) : m.2.2.2 3 b = 0 ↔ V.2.2.2 3 b = 0 := by
  rcases (h.2.2.2.1 b hb).2.2.2.2 with e | ⟨-, e1, e2⟩
  · rw [e]
  · rw [e1, e2]; decide
theorem CR.off {σ : Prop} {np nb nn : Nat} {m : MR} {V : CV} (h : CR σ np nb nn m V) {b : Nat} (hb : b < nb) : m.2.2.2 3 b = nI 2 ↔ V.2.2.2 3 b = nI 2 := by
  rcases (h.2.2.2.1 b hb).2.2.2.2 with e | ⟨-, e1, e2⟩
  · rw [e]
  · rw [e1, e2]; decide
/-- nothing but the places for work has changed -/
def SC (s : Nat → Int32) (A : Nat → Nat → Int32) (s' : Nat → Int32) (A' : Nat → Nat → Int32) : Prop := (∀ k, k ≠ 35 → s' k = s k) ∧ ∀ k, k ≠ 49 → A' k = A k
theorem SC.rf {s : Nat → Int32} {A : Nat → Nat → Int32} : SC s A s A := ⟨fun _ _ => rfl, fun _ _ => rfl⟩
theorem SC.tr {s s' s'' : Nat → Int32} {A A' A'' : Nat → Nat → Int32} (h : SC s A s' A') (h' : SC s' A' s'' A'') : SC s A s'' A'' := ⟨fun k hk => (h'.1 k hk).trans (h.1 k hk), fun k hk => (h'.2 k hk).trans (h.2 k hk)⟩
theorem updI_n {s : Nat → Int32} {k j : Nat} {x : Int32} (h : j ≠ k) : updI s k x j = s j := by unfold updI; rw [show Nat.beq j k = false from nbf.mpr h]; rfl
theorem updI_s {s : Nat → Int32} {k : Nat} {x : Int32} : updI s k x k = x := by unfold updI; rw [show Nat.beq k k = true from Nat.beq_refl k]; rfl
theorem SC.s35 {s : Nat → Int32} {A : Nat → Nat → Int32} {x : Int32} : SC s A (updI s 35 x) A := ⟨fun _ hk => updI_n hk, fun _ _ => rfl⟩
theorem SC.a49 {s : Nat → Int32} {A : Nat → Nat → Int32} {f : Nat → Int32} : SC s A s (upA A 49 f) := ⟨fun _ _ => rfl, fun _ hk => upA_n hk⟩
theorem LR.of {A A' : Nat → Nat → Int32} {T : TV} {k : Nat} (h : LR A T k) (e : ∀ k, k ≠ 49 → A' k = A k) : LR A' T k := by
  unfold LR
  rw [e 16 (by decide), e 17 (by decide), e 18 (by decide), e 19 (by decide)]
  exact h
theorem RT.of {A A' : Nat → Nat → Int32} {T : TV} {np nb nn : Nat} (h : RT A T np nb nn) (e : ∀ k, k ≠ 49 → A' k = A k) : RT A' T np nb nn := by
  have hL : ∀ k, k < 3 → LR A' T k := fun k hk => (h.2.2.2.2.2.2.2.2.2.1 k hk).of e
  unfold RT
  rw [e 3 (by decide), e 4 (by decide), e 5 (by decide), e 6 (by decide), e 7 (by decide), e 8 (by decide), e 9 (by decide), e 10 (by decide), e 11 (by decide), e 12 (by decide), e 13 (by decide), e 14 (by decide), e 15 (by decide)]
  obtain ⟨h1, h2, h3, h4, h5, h6, h7, h8, h9, -, h10⟩ := h
  exact ⟨h1, h2, h3, h4, h5, h6, h7, h8, h9, hL, h10⟩
theorem SC.rt {s s' : Nat → Int32} {A A' : Nat → Nat → Int32} {T : TV} {np nb nn : Nat} (h : SC s A s' A') (hR : RT A T np nb nn) : RT A' T np nb nn := hR.of h.2
/-- the end of a method that works on the cellar c -/
def mQ (c : Nat) (s : Nat → Int32) (A : Nat → Nat → Int32) (M : Nat → MR) (P : MR → Prop) : Option Value → List EC → Prop := fun r w' => r = none ∧ ∃ s' A' L' M', w' = modW s' A' L' M' ∧ SC s A s' A' ∧ (∀ i, i ≠ c → M' i = M i) ∧ P (M' c)
theorem mQ.tr {c : Nat} {s s' : Nat → Int32} {A A' : Nat → Nat → Int32} {M M' : Nat → MR} {P : MR → Prop} (h : SC s A s' A') (hM : ∀ i, i ≠ c → M' i = M i) : ∀ r w', mQ c s' A' M' P r w' → mQ c s A M P r w' := by
  rintro r w' ⟨e, s2, A2, L2, M2, e2, h2, h3, h4⟩
  exact ⟨e, s2, A2, L2, M2, e2, h.tr h2, fun i hi => (h3 i hi).trans (hM i hi), h4⟩
theorem nI_nm {b : Nat} (h : b < 2 ^ 31) : ¬ nI b = -1 := fun e => absurd (show nI b < 0 by rw [e]; decide) (nI_pos h)
theorem vbool : ∀ {c : Prop} [Decidable c], vp_nar .boolean (i01 c) = i01 c := by
  intro c _
  unfold i01; split <;> rfl
theorem c10_isLying {d : Nat} {s : Nat → Int32} {A : Nat → Nat → Int32} {L : LL} {M : Nat → MR} {c b : Nat} (hc : c < 23) (hb : b < 10) : TR d m10_isLying [.ref 0, .int (nI c), .int (nI b)] (modW s A L M) (.int (i01 ((M c).2.2.2 3 b = 0))) := by
  refine Tr.intro (by decide) rfl ?_
  refine J_aload_n (pc := 0) D10_isLying_0 rfl ?_
  refine J_getf (pc := 1) D10_isLying_1 fl10_96 rfl rfl ?_
  refine J_bipush (pc := 4) (v := (nI 10)) D10_isLying_4 (by decide) ?_
  refine J_iload_n (pc := 6) D10_isLying_6 rfl ?_
  refine J_imul (pc := 7) D10_isLying_7 ?_
  refine J_iload_n (pc := 8) D10_isLying_8 rfl ?_
  refine J_iadd (pc := 9) D10_isLying_9 ?_
  refine J_mcld (pc := 10) (stp := 10) D10_isLying_10 mc_3 (ixm _ _ _) (by omega) (by omega) rfl ?_
  refine J_if_ne (pc := 11) (tgt := 18) D10_isLying_11 (by decide) (fun h11 => ?_) (fun h11 => ?_)
  · refine J_iconst (pc := 18) (v := (nI 0)) D10_isLying_18 (by decide) ?_
    refine J_zret (pc := 19) D10_isLying_19 rfl (by decide) ?_
    exact ⟨rfl, congrArg (fun q => some (Value.int q)) (i01_f h11).symm⟩
  · have h11' := eq_true h11
    refine J_iconst (pc := 14) (v := (nI 1)) D10_isLying_14 (by decide) ?_
    refine J_goto (pc := 15) (tgt := 19) D10_isLying_15 (by decide) ?_
    refine J_zret (pc := 19) D10_isLying_19 rfl (by decide) ?_
    exact ⟨rfl, congrArg (fun q => some (Value.int q)) (i01_t h11).symm⟩
theorem c10_isMan {d : Nat} {s : Nat → Int32} {A : Nat → Nat → Int32} {L : LL} {M : Nat → MR} {T : TV} {np nb nn : Nat} (hR : RT A T np nb nn) {x : Int32} : TR d m10_isMan [.ref 0, .int x] (modW s A L M) (.int (i01 (ixB np x = true))) := by
  refine Tr.intro (by decide) rfl ?_
  refine J_iload_n (pc := 0) D10_isMan_0 rfl ?_
  refine J_if_lt (pc := 1) (tgt := 18) D10_isMan_1 (by decide) (fun h1 => ?_) (fun h1 => ?_)
  · have h1' := Int32.not_le.mpr h1
    refine J_iconst (pc := 18) (v := (nI 0)) D10_isMan_18 (by decide) ?_
    refine J_zret (pc := 19) D10_isMan_19 rfl (by decide) ?_
    exact ⟨rfl, congrArg (fun q => some (Value.int q)) (i01_f (ixB_0 h1)).symm⟩
  · have h1' := Int32.not_lt.mp h1
    refine J_iload_n (pc := 4) D10_isMan_4 rfl ?_
    refine J_aload_n (pc := 5) D10_isMan_5 rfl ?_
    refine J_getf (pc := 6) D10_isMan_6 fl10_13 rfl rfl ?_
    refine J_iconst (pc := 9) (v := (nI 0)) D10_isMan_9 (by decide) ?_
    refine J_mald (pc := 10) D10_isMan_10 ma_3 rfl (by omega) rfl ?_
    refine J_st [.int (nI np), .int x] (by rw [← hR.1]) ?_
    refine J_icmp_ge (pc := 11) (tgt := 18) D10_isMan_11 (by decide) (fun h11 => ?_) (fun h11 => ?_)
    · have h11' := Int32.not_lt.mpr h11
      refine J_iconst (pc := 18) (v := (nI 0)) D10_isMan_18 (by decide) ?_
      refine J_zret (pc := 19) D10_isMan_19 rfl (by decide) ?_
      exact ⟨rfl, congrArg (fun q => some (Value.int q)) (i01_f (ixB_hi h11)).symm⟩
    · have h11' := Int32.not_le.mp h11
      refine J_iconst (pc := 14) (v := (nI 1)) D10_isMan_14 (by decide) ?_
      refine J_goto (pc := 15) (tgt := 19) D10_isMan_15 (by decide) ?_
      refine J_zret (pc := 19) D10_isMan_19 rfl (by decide) ?_
      exact ⟨rfl, congrArg (fun q => some (Value.int q)) (i01_t (by unfold ixB; rw [decide_eq_true h1', decide_eq_true h11']; rfl)).symm⟩
theorem c10_isBottle {d : Nat} {s : Nat → Int32} {A : Nat → Nat → Int32} {L : LL} {M : Nat → MR} {T : TV} {np nb nn : Nat} (hR : RT A T np nb nn) {x : Int32} : TR d m10_isBottle [.ref 0, .int x] (modW s A L M) (.int (i01 (ixB nb x = true))) := by
  refine Tr.intro (by decide) rfl ?_
  refine J_iload_n (pc := 0) D10_isBottle_0 rfl ?_
  refine J_if_lt (pc := 1) (tgt := 18) D10_isBottle_1 (by decide) (fun h1 => ?_) (fun h1 => ?_)
  · have h1' := Int32.not_le.mpr h1
    refine J_iconst (pc := 18) (v := (nI 0)) D10_isBottle_18 (by decide) ?_
    refine J_zret (pc := 19) D10_isBottle_19 rfl (by decide) ?_
    exact ⟨rfl, congrArg (fun q => some (Value.int q)) (i01_f (ixB_0 h1)).symm⟩
  · have h1' := Int32.not_lt.mp h1
    refine J_iload_n (pc := 4) D10_isBottle_4 rfl ?_
    refine J_aload_n (pc := 5) D10_isBottle_5 rfl ?_
    refine J_getf (pc := 6) D10_isBottle_6 fl10_13 rfl rfl ?_
    refine J_iconst (pc := 9) (v := (nI 1)) D10_isBottle_9 (by decide) ?_
    refine J_mald (pc := 10) D10_isBottle_10 ma_3 rfl (by omega) rfl ?_
    refine J_st [.int (nI nb), .int x] (by rw [← hR.2.1]) ?_
    refine J_icmp_ge (pc := 11) (tgt := 18) D10_isBottle_11 (by decide) (fun h11 => ?_) (fun h11 => ?_)
    · have h11' := Int32.not_lt.mpr h11
      refine J_iconst (pc := 18) (v := (nI 0)) D10_isBottle_18 (by decide) ?_
      refine J_zret (pc := 19) D10_isBottle_19 rfl (by decide) ?_
      exact ⟨rfl, congrArg (fun q => some (Value.int q)) (i01_f (ixB_hi h11)).symm⟩
    · have h11' := Int32.not_le.mp h11
      refine J_iconst (pc := 14) (v := (nI 1)) D10_isBottle_14 (by decide) ?_
      refine J_goto (pc := 15) (tgt := 19) D10_isBottle_15 (by decide) ?_
      refine J_zret (pc := 19) D10_isBottle_19 rfl (by decide) ?_
      exact ⟨rfl, congrArg (fun q => some (Value.int q)) (i01_t (by unfold ixB; rw [decide_eq_true h1', decide_eq_true h11']; rfl)).symm⟩
theorem c10_isNeed {d : Nat} {s : Nat → Int32} {A : Nat → Nat → Int32} {L : LL} {M : Nat → MR} {T : TV} {np nb nn : Nat} (hR : RT A T np nb nn) {x : Int32} : TR d m10_isNeed [.ref 0, .int x] (modW s A L M) (.int (i01 (ixB nn x = true))) := by
  refine Tr.intro (by decide) rfl ?_
  refine J_iload_n (pc := 0) D10_isNeed_0 rfl ?_
  refine J_if_lt (pc := 1) (tgt := 18) D10_isNeed_1 (by decide) (fun h1 => ?_) (fun h1 => ?_)
  · have h1' := Int32.not_le.mpr h1
    refine J_iconst (pc := 18) (v := (nI 0)) D10_isNeed_18 (by decide) ?_
    refine J_zret (pc := 19) D10_isNeed_19 rfl (by decide) ?_
    exact ⟨rfl, congrArg (fun q => some (Value.int q)) (i01_f (ixB_0 h1)).symm⟩
  · have h1' := Int32.not_lt.mp h1
    refine J_iload_n (pc := 4) D10_isNeed_4 rfl ?_
    refine J_aload_n (pc := 5) D10_isNeed_5 rfl ?_
    refine J_getf (pc := 6) D10_isNeed_6 fl10_13 rfl rfl ?_
    refine J_iconst (pc := 9) (v := (nI 2)) D10_isNeed_9 (by decide) ?_
    refine J_mald (pc := 10) D10_isNeed_10 ma_3 rfl (by omega) rfl ?_
    refine J_st [.int (nI nn), .int x] (by rw [← hR.2.2.1]) ?_
    refine J_icmp_ge (pc := 11) (tgt := 18) D10_isNeed_11 (by decide) (fun h11 => ?_) (fun h11 => ?_)
    · have h11' := Int32.not_lt.mpr h11
      refine J_iconst (pc := 18) (v := (nI 0)) D10_isNeed_18 (by decide) ?_
      refine J_zret (pc := 19) D10_isNeed_19 rfl (by decide) ?_
      exact ⟨rfl, congrArg (fun q => some (Value.int q)) (i01_f (ixB_hi h11)).symm⟩
    · have h11' := Int32.not_le.mp h11
      refine J_iconst (pc := 14) (v := (nI 1)) D10_isNeed_14 (by decide) ?_
      refine J_goto (pc := 15) (tgt := 19) D10_isNeed_15 (by decide) ?_
      refine J_zret (pc := 19) D10_isNeed_19 rfl (by decide) ?_
      exact ⟨rfl, congrArg (fun q => some (Value.int q)) (i01_t (by unfold ixB; rw [decide_eq_true h1', decide_eq_true h11']; rfl)).symm⟩
theorem c10_hasLaw {d : Nat} {s : Nat → Int32} {A : Nat → Nat → Int32} {L : LL} {M : Nat → MR} {T : TV} {np nb nn : Nat} (hR : RT A T np nb nn) {k : Nat} (hk : k < 3) : TR d m10_hasLaw [.ref 0, .int (nI k)] (modW s A L M) (.int (i01 (¬ T.2.2.2 0 k = -1))) := by
  rcases hR.2.2.2.2.2.2.2.2.2.1 k hk with ⟨e0, e1, e2⟩ | ⟨p, q, h, hpq, hq, e0, e1, e2, e3, -⟩
  · refine Tr.intro (by decide) rfl ?_
    refine J_aload_n (pc := 0) D10_hasLaw_0 rfl ?_
    refine J_getf (pc := 1) D10_hasLaw_1 fl10_55 rfl rfl ?_
    refine J_iload_n (pc := 4) D10_hasLaw_4 rfl ?_
    refine J_mald (pc := 5) D10_hasLaw_5 ma_17 rfl (by omega) rfl ?_
    refine J_aload_n (pc := 6) D10_hasLaw_6 rfl ?_
    refine J_getf (pc := 7) D10_hasLaw_7 fl10_52 rfl rfl ?_
    refine J_iload_n (pc := 10) D10_hasLaw_10 rfl ?_
    refine J_mald (pc := 11) D10_hasLaw_11 ma_16 rfl (by omega) rfl ?_
    rw [e1, e2]
    refine J_icmp_le (pc := 12) (tgt := 19) D10_hasLaw_12 (by decide) (fun h12 => ?_) (fun h12 => absurd (by decide) h12)
    refine J_iconst (pc := 19) (v := (nI 0)) D10_hasLaw_19 (by decide) ?_
    refine J_zret (pc := 20) D10_hasLaw_20 rfl (by decide) ?_
    exact ⟨rfl, congrArg (fun q => some (Value.int q)) (i01_f (fun q => q e0)).symm⟩
  · refine Tr.intro (by decide) rfl ?_
    refine J_aload_n (pc := 0) D10_hasLaw_0 rfl ?_
    refine J_getf (pc := 1) D10_hasLaw_1 fl10_55 rfl rfl ?_
    refine J_iload_n (pc := 4) D10_hasLaw_4 rfl ?_
    refine J_mald (pc := 5) D10_hasLaw_5 ma_17 rfl (by omega) rfl ?_
    refine J_aload_n (pc := 6) D10_hasLaw_6 rfl ?_
    refine J_getf (pc := 7) D10_hasLaw_7 fl10_52 rfl rfl ?_
    refine J_iload_n (pc := 10) D10_hasLaw_10 rfl ?_
    refine J_mald (pc := 11) D10_hasLaw_11 ma_16 rfl (by omega) rfl ?_
    rw [e2, e3]
    refine J_icmp_le (pc := 12) (tgt := 19) D10_hasLaw_12 (by decide) (fun h12 => absurd h12 (nI_ge hpq (by omega))) (fun h12 => ?_)
    refine J_iconst (pc := 15) (v := (nI 1)) D10_hasLaw_15 (by decide) ?_
    refine J_goto (pc := 16) (tgt := 20) D10_hasLaw_16 (by decide) ?_
    refine J_zret (pc := 20) D10_hasLaw_20 rfl (by decide) ?_
    exact ⟨rfl, congrArg (fun q => some (Value.int q)) (i01_t (c := ¬ T.2.2.2 0 k = -1) (fun q => nI_nm (b := p) (by omega) (e0.symm.trans q))).symm⟩
theorem c10_is {d : Nat} {x : Int32} : TR d m10_is [.int x] [] (.long (l01 (¬ x = 0))) := by
  refine Tr.intro (by decide) rfl ?_
  refine J_iload_n (pc := 0) D10_is_0 rfl ?_
  refine J_if_eq (pc := 1) (tgt := 8) D10_is_1 (by decide) (fun h1 => ?_) (fun h1 => ?_)
  · have h1' := eq_true h1
    refine J_lconst (pc := 8) (v := 0) D10_is_8 (by decide) ?_
    refine J_lret (pc := 9) D10_is_9 rfl ?_
    exact ⟨rfl, congrArg (fun q => some (Value.long q)) (l01_f (fun q => q h1)).symm⟩
  · refine J_lconst (pc := 4) (v := 1) D10_is_4 (by decide) ?_
    refine J_goto (pc := 5) (tgt := 9) D10_is_5 (by decide) ?_
    refine J_lret (pc := 9) D10_is_9 rfl ?_
    exact ⟨rfl, congrArg (fun q => some (Value.long q)) (l01_t h1).symm⟩
