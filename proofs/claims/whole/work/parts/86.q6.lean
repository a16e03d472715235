/-! THE MODEL: sums read, level by level (own program mod_q6.py) -/
theorem L10_primary_f {D : Nat} {s : Nat → Int32} {A : Nat → Nat → Int32} {L0 : LL} {M : Nat → MR} (h27 : ¬ s 27 = 0) : J m10_primary D 0 0 40 0 [(0, .ref 0)] [] (modW s A L0 M) 0 0 (fun r w' => r = none ∧ w' = modW s A L0 M) := by
  refine J_aload_n (pc := 0) D10_primary_0 rfl ?_
  refine J_getf (pc := 1) D10_primary_1 fl10_193 rfl rfl ?_
  refine J_if_eq (pc := 4) (tgt := 8) D10_primary_4 (by decide) (fun h4 => absurd h4 h27) (fun h4 => ?_)
  refine J_vret (pc := 7) D10_primary_7 rfl ?_
  exact ⟨rfl, rfl⟩
theorem c10_primary_f {D : Nat} {s : Nat → Int32} {A : Nat → Nat → Int32} {L0 : LL} {M : Nat → MR} (h27 : ¬ s 27 = 0) : Tr D 0 0 m10_primary [.ref 0] (modW s A L0 M) (fun r w' => r = none ∧ w' = modW s A L0 M) := Tr.intro (by decide) rfl (L10_primary_f h27)
theorem L10_product_f {D : Nat} {s : Nat → Int32} {A : Nat → Nat → Int32} {L0 : LL} {M : Nat → MR} (h27 : ¬ s 27 = 0) (hD : 2 ≤ D) : J m10_product D 0 0 40 0 [(0, .ref 0)] [] (modW s A L0 M) 0 0 (fun r w' => r = none ∧ w' = modW s A L0 M) := by
  refine J_aload_n (pc := 0) D10_product_0 rfl ?_
  refine J_callVT (pc := 1) (ac := []) D10_product_1 m10_primary_v t1544 (c10_primary_f (D := D - 1) h27) (by omega) rfl rfl rfl rfl rfl rfl rfl (fun r w' hq hl => ?_)
  obtain ⟨rfl, rfl⟩ := hq
  refine J_aload_n (pc := 4) D10_product_4 rfl ?_
  refine J_bipush (pc := 5) (v := (nI 42)) D10_product_5 (by decide) ?_
  refine J_callVTR (pc := 7) (ac := [.int _]) D10_product_7 m10_isSign_v t1548 (c10_isSign (d := D - 2)) (by omega) rfl rfl rfl rfl (fun _ => rfl) rfl rfl rfl ?_
  refine J_if_ne (pc := 10) (tgt := 22) D10_product_10 (by decide) (fun h10 => absurd (i01_f (fun q => h27 q.1)) h10) (fun h10 => ?_)
  refine J_aload_n (pc := 13) D10_product_13 rfl ?_
  refine J_bipush (pc := 14) (v := (nI 47)) D10_product_14 (by decide) ?_
  refine J_callVTR (pc := 16) (ac := [.int _]) D10_product_16 m10_isSign_v t1548 (c10_isSign (d := D - 2)) (by omega) rfl rfl rfl rfl (fun _ => rfl) rfl rfl rfl ?_
  refine J_if_eq (pc := 19) (tgt := 48) D10_product_19 (by decide) (fun h19 => ?_) (fun h19 => absurd (i01_f (fun q => h27 q.1)) h19)
  refine J_vret (pc := 48) D10_product_48 rfl ?_
  exact ⟨rfl, rfl⟩
theorem c10_product_f {D : Nat} {s : Nat → Int32} {A : Nat → Nat → Int32} {L0 : LL} {M : Nat → MR} (h27 : ¬ s 27 = 0) (hD : 2 ≤ D) : Tr D 0 0 m10_product [.ref 0] (modW s A L0 M) (fun r w' => r = none ∧ w' = modW s A L0 M) := Tr.intro (by decide) rfl (L10_product_f h27 hD)
theorem L10_sum_f {D : Nat} {s : Nat → Int32} {A : Nat → Nat → Int32} {L0 : LL} {M : Nat → MR} (h27 : ¬ s 27 = 0) (hD : 3 ≤ D) : J m10_sum D 0 0 40 0 [(0, .ref 0)] [] (modW s A L0 M) 0 0 (fun r w' => r = none ∧ w' = modW s A L0 M) := by
  refine J_aload_n (pc := 0) D10_sum_0 rfl ?_
  refine J_callVT (pc := 1) (ac := []) D10_sum_1 m10_product_v t1540 (c10_product_f (D := D - 1) h27 (by omega)) (by omega) rfl rfl rfl rfl rfl rfl rfl (fun r w' hq hl => ?_)
  obtain ⟨rfl, rfl⟩ := hq
  refine J_aload_n (pc := 4) D10_sum_4 rfl ?_
  refine J_bipush (pc := 5) (v := (nI 43)) D10_sum_5 (by decide) ?_
  refine J_callVTR (pc := 7) (ac := [.int _]) D10_sum_7 m10_isSign_v t1548 (c10_isSign (d := D - 2)) (by omega) rfl rfl rfl rfl (fun _ => rfl) rfl rfl rfl ?_
  refine J_if_ne (pc := 10) (tgt := 22) D10_sum_10 (by decide) (fun h10 => absurd (i01_f (fun q => h27 q.1)) h10) (fun h10 => ?_)
  refine J_aload_n (pc := 13) D10_sum_13 rfl ?_
  refine J_bipush (pc := 14) (v := (nI 45)) D10_sum_14 (by decide) ?_
  refine J_callVTR (pc := 16) (ac := [.int _]) D10_sum_16 m10_isSign_v t1548 (c10_isSign (d := D - 2)) (by omega) rfl rfl rfl rfl (fun _ => rfl) rfl rfl rfl ?_
  refine J_if_eq (pc := 19) (tgt := 48) D10_sum_19 (by decide) (fun h19 => ?_) (fun h19 => absurd (i01_f (fun q => h27 q.1)) h19)
  refine J_vret (pc := 48) D10_sum_48 rfl ?_
  exact ⟨rfl, rfl⟩
theorem c10_sum_f {D : Nat} {s : Nat → Int32} {A : Nat → Nat → Int32} {L0 : LL} {M : Nat → MR} (h27 : ¬ s 27 = 0) (hD : 3 ≤ D) : Tr D 0 0 m10_sum [.ref 0] (modW s A L0 M) (fun r w' => r = none ∧ w' = modW s A L0 M) := Tr.intro (by decide) rfl (L10_sum_f h27 hD)
theorem L10_negation_f {D : Nat} {s : Nat → Int32} {A : Nat → Nat → Int32} {L0 : LL} {M : Nat → MR} (h27 : ¬ s 27 = 0) (hD : 4 ≤ D) : J m10_negation D 0 0 40 0 [(0, .ref 0)] [] (modW s A L0 M) 0 0 (fun r w' => r = none ∧ w' = modW s A L0 M) := by
  refine J_aload_n (pc := 0) D10_negation_0 rfl ?_
  refine J_bipush (pc := 1) (v := (nI 11)) D10_negation_1 (by decide) ?_
  refine J_callVTR (pc := 3) (ac := [.int _]) D10_negation_3 m10_isWord_v t1524 (c10_isWord (d := D - 2)) (by omega) rfl rfl rfl rfl (fun _ => rfl) rfl rfl rfl ?_
  refine J_if_eq (pc := 6) (tgt := 30) D10_negation_6 (by decide) (fun h6 => ?_) (fun h6 => absurd (i01_f (fun q => h27 q.1)) h6)
  refine J_aload_n (pc := 30) D10_negation_30 rfl ?_
  refine J_callVT (pc := 31) (ac := []) D10_negation_31 m10_sum_v t1536 (c10_sum_f (D := D - 1) h27 (by omega)) (by omega) rfl rfl rfl rfl rfl rfl rfl (fun r w' hq hl => ?_)
  obtain ⟨rfl, rfl⟩ := hq
  refine J_aload_n (pc := 34) D10_negation_34 rfl ?_
  refine J_getf (pc := 35) D10_negation_35 fl10_193 rfl rfl ?_
  refine J_if_ne (pc := 38) (tgt := 86) D10_negation_38 (by decide) (fun h38 => ?_) (fun h38 => absurd h38 h27)
  refine J_vret (pc := 86) D10_negation_86 rfl ?_
  exact ⟨rfl, rfl⟩
theorem c10_negation_f {D : Nat} {s : Nat → Int32} {A : Nat → Nat → Int32} {L0 : LL} {M : Nat → MR} (h27 : ¬ s 27 = 0) (hD : 4 ≤ D) : Tr D 0 0 m10_negation [.ref 0] (modW s A L0 M) (fun r w' => r = none ∧ w' = modW s A L0 M) := Tr.intro (by decide) rfl (L10_negation_f h27 hD)
theorem L10_conjunction_f {D : Nat} {s : Nat → Int32} {A : Nat → Nat → Int32} {L0 : LL} {M : Nat → MR} (h27 : ¬ s 27 = 0) (hD : 5 ≤ D) : J m10_conjunction D 0 0 40 0 [(0, .ref 0)] [] (modW s A L0 M) 0 0 (fun r w' => r = none ∧ w' = modW s A L0 M) := by
  refine J_aload_n (pc := 0) D10_conjunction_0 rfl ?_
  refine J_callVT (pc := 1) (ac := []) D10_conjunction_1 m10_negation_v t1520 (c10_negation_f (D := D - 1) h27 (by omega)) (by omega) rfl rfl rfl rfl rfl rfl rfl (fun r w' hq hl => ?_)
  obtain ⟨rfl, rfl⟩ := hq
  refine J_aload_n (pc := 4) D10_conjunction_4 rfl ?_
  refine J_bipush (pc := 5) (v := (nI 10)) D10_conjunction_5 (by decide) ?_
  refine J_callVTR (pc := 7) (ac := [.int _]) D10_conjunction_7 m10_isWord_v t1524 (c10_isWord (d := D - 2)) (by omega) rfl rfl rfl rfl (fun _ => rfl) rfl rfl rfl ?_
  refine J_if_eq (pc := 10) (tgt := 36) D10_conjunction_10 (by decide) (fun h10 => ?_) (fun h10 => absurd (i01_f (fun q => h27 q.1)) h10)
  refine J_vret (pc := 36) D10_conjunction_36 rfl ?_
  exact ⟨rfl, rfl⟩
theorem c10_conjunction_f {D : Nat} {s : Nat → Int32} {A : Nat → Nat → Int32} {L0 : LL} {M : Nat → MR} (h27 : ¬ s 27 = 0) (hD : 5 ≤ D) : Tr D 0 0 m10_conjunction [.ref 0] (modW s A L0 M) (fun r w' => r = none ∧ w' = modW s A L0 M) := Tr.intro (by decide) rfl (L10_conjunction_f h27 hD)
theorem L10_expression_f {D : Nat} {s : Nat → Int32} {A : Nat → Nat → Int32} {L0 : LL} {M : Nat → MR} (h27 : ¬ s 27 = 0) (hD : 6 ≤ D) : J m10_expression D 0 0 40 0 [(0, .ref 0)] [] (modW s A L0 M) 0 0 (fun r w' => r = none ∧ w' = modW s A L0 M) := by
  refine J_aload_n (pc := 0) D10_expression_0 rfl ?_
  refine J_callVT (pc := 1) (ac := []) D10_expression_1 m10_conjunction_v t1516 (c10_conjunction_f (D := D - 1) h27 (by omega)) (by omega) rfl rfl rfl rfl rfl rfl rfl (fun r w' hq hl => ?_)
  obtain ⟨rfl, rfl⟩ := hq
  refine J_aload_n (pc := 4) D10_expression_4 rfl ?_
  refine J_bipush (pc := 5) (v := (nI 9)) D10_expression_5 (by decide) ?_
  refine J_callVTR (pc := 7) (ac := [.int _]) D10_expression_7 m10_isWord_v t1524 (c10_isWord (d := D - 2)) (by omega) rfl rfl rfl rfl (fun _ => rfl) rfl rfl rfl ?_
  refine J_if_eq (pc := 10) (tgt := 36) D10_expression_10 (by decide) (fun h10 => ?_) (fun h10 => absurd (i01_f (fun q => h27 q.1)) h10)
  refine J_vret (pc := 36) D10_expression_36 rfl ?_
  exact ⟨rfl, rfl⟩
theorem c10_expression_f {D : Nat} {s : Nat → Int32} {A : Nat → Nat → Int32} {L0 : LL} {M : Nat → MR} (h27 : ¬ s 27 = 0) (hD : 6 ≤ D) : Tr D 0 0 m10_expression [.ref 0] (modW s A L0 M) (fun r w' => r = none ∧ w' = modW s A L0 M) := Tr.intro (by decide) rfl (L10_expression_f h27 hD)
theorem RL_f {K : TK} {R : RS} (h : ¬ R.1.2.1 = 0) : ∀ f lv op, RL K f lv op R = R
  | 0, _, _ => rfl
  | f + 1, lv, op => by rw [RL, if_neg h]
theorem lvL_f {K : TK} {g : RS → RS} {lv : Nat} {R : RS} (h : ¬ R.1.2.1 = 0) : ∀ m, lvL K g lv m R = R
  | 0 => rfl
  | m + 1 => by rw [lvL, if_neg (fun q => h q.1)]
/-- a level's contract, where there is no fault yet -/
def LVC (K : TK) (L cnt : Nat) (L0 : LL) (M : Nat → MR) (m : JM) (F : RS → RS) (op B : Nat) : Prop := ∀ (D : Nat) (s : Nat → Int32) (A : Nat → Nat → Int32) (R : RS), TP K.2.2.1 (A 1) L → CRl K L cnt s R.1 → R.1.2.1 = 0 → ST op s A R → B + 64 ≤ D + knR R → Tr D 0 0 m [.ref 0] (modW s A L0 M) (exQ K L cnt L0 M s A R (F R))
theorem exQ.f {K : TK} {L cnt : Nat} {L0 : LL} {M : Nat → MR} {s : Nat → Int32} {A : Nat → Nat → Int32} {R R' : RS} (h : CRl K L cnt s R.1) (h0 : ¬ R.1.2.1 = 0) (e : R' = R) : exQ K L cnt L0 M s A R R' none (modW s A L0 M) := by
  subst e
  exact ⟨rfl, s, A, rfl, FE.rf, h, fun q => absurd q h0⟩
theorem EXP.lt {s2 s3 : Nat → Int32} {A A3 : Nat → Nat → Int32} {R R3 : RS} {op : Nat} {s : Nat → Int32} {K : TK} (hst : ST op s A R) (h0 : R.1.2.1 = 0) (hk : knR R < 64) (h3 : EXP s2 A (tkR K R) s3 A3 R3) : A3 3 11 = nI (lenR R3) ∧ lenR R3 < 64 := by
  have ek := tkR_k (K := K) h0 hk
  have el : lenR (tkR K R) = lenR R := by rw [ek]
  have en : knR (tkR K R) = knR R + 1 := by rw [ek]
  obtain ⟨q1, q2, q3, q4, q5, q6, q7, q8, q9⟩ := h3
  obtain ⟨t1, t2, t3, t4, t5⟩ := hst
  rw [el, en] at q6
  exact ⟨q4, by omega⟩
theorem tk_lt {K : TK} {R : RS} (h0 : R.1.2.1 = 0) (h : (tkR K R).1.2.1 = 0) : knR R < 64 := Decidable.byContradiction (fun q => tkR_x h0 q h)
theorem ST.tk {op : Nat} {s s3 : Nat → Int32} {A : Nat → Nat → Int32} {R : RS} {K : TK} (hst : ST op s A R) (h0 : R.1.2.1 = 0) (hk : knR R < 64) (e31 : s3 31 = s 31) (e32 : s3 32 = nI (knR R + 1)) : ST op s3 A (tkR K R) := by
  rw [tkR_k h0 hk]
  obtain ⟨t1, t2, t3, t4, t5⟩ := hst
  exact ⟨e31.trans t1, e32, t3, by show lenR R ≤ knR R + 1; omega, by show knR R + 1 ≤ 64; omega⟩
theorem FE.kn {s s2 : Nat → Int32} {A : Nat → Nat → Int32} (h : ∀ k, (k < 23 ∨ 28 < k) → k ≠ 32 → s2 k = s k) : FE s A s2 A := ⟨fun k hk => h k (by omega) (by omega), fun _ _ _ _ => rfl, fun _ _ => rfl, fun _ _ => ⟨rfl, rfl⟩⟩
theorem lvO_0 {x : Int32} : lvO x = nI 0 ↔ x = nI 16 := by
  unfold lvO
  by_cases h : x = nI 16
  · rw [if_pos h]; exact ⟨fun _ => h, fun _ => rfl⟩
  · rw [if_neg h]
    refine ⟨fun q => absurd q ?_, fun q => absurd q h⟩
    repeat' split
    all_goals decide
theorem lvO_1 {x : Int32} : lvO x = nI 1 ↔ x = nI 17 := by
  unfold lvO
  by_cases h0 : x = nI 16
  · rw [if_pos h0, h0]; decide
  · rw [if_neg h0]
    by_cases h : x = nI 17
    · rw [if_pos h]; exact ⟨fun _ => h, fun _ => rfl⟩
    · rw [if_neg h]
      refine ⟨fun q => absurd q ?_, fun q => absurd q h⟩
      repeat' split
      all_goals decide
theorem lvO_3 {x : Int32} : lvO x = nI 3 ↔ (nI 19 ≤ x ∧ x ≤ nI 24) := by
  unfold lvO
  by_cases h0 : x = nI 16
  · rw [if_pos h0, h0]; decide
  · rw [if_neg h0]
    by_cases h1 : x = nI 17
    · rw [if_pos h1, h1]; decide
    · rw [if_neg h1]
      by_cases h : nI 19 ≤ x ∧ x ≤ nI 24
      · rw [if_pos h]; exact ⟨fun _ => h, fun _ => rfl⟩
      · rw [if_neg h]
        refine ⟨fun q => absurd q ?_, fun q => absurd q h⟩
        repeat' split
        all_goals decide
theorem lvO_4 {x : Int32} : lvO x = nI 4 ↔ (x = nI 25 ∨ x = nI 26) := by
  by_cases h : x = nI 25 ∨ x = nI 26
  · refine ⟨fun _ => h, fun _ => ?_⟩
    rcases h with h | h <;> rw [h] <;> rfl
  · refine ⟨fun q => absurd q ?_, fun q => absurd q h⟩
    unfold lvO
    rw [if_neg h]
    repeat' split
    all_goals decide
theorem lvO_5 {x : Int32} : lvO x = nI 5 ↔ (x = nI 27 ∨ x = nI 28) := by
  by_cases h : x = nI 27 ∨ x = nI 28
  · refine ⟨fun _ => h, fun _ => ?_⟩
    rcases h with h | h <;> rw [h] <;> rfl
  · refine ⟨fun q => absurd q ?_, fun q => absurd q h⟩
    unfold lvO
    rw [if_neg h]
    repeat' split
    all_goals decide
theorem primary_a {K : TK} {L cnt : Nat} {L0 : LL} {M : Nat → MR} {F : RS → RS} {op B : Nat} (H : LVC K L cnt L0 M m10_primary F op B) (hF : ∀ R : RS, ¬ R.1.2.1 = 0 → F R = R) {D : Nat} {s : Nat → Int32} {A : Nat → Nat → Int32} {R : RS} (hTP : TP K.2.2.1 (A 1) L) (h : CRl K L cnt s R.1) (hs : R.1.2.1 = 0 → ST op s A R) (hD : R.1.2.1 = 0 → B + 64 ≤ D + knR R) (hD6 : 6 ≤ D) : Tr D 0 0 m10_primary [.ref 0] (modW s A L0 M) (exQ K L cnt L0 M s A R (F R)) := by
  by_cases h0 : R.1.2.1 = 0
  · exact H D s A R hTP h h0 (hs h0) (hD h0)
  · refine Tr.intro (by decide) rfl (J_mono (L10_primary_f (by rw [h.1]; exact h0)) ?_)
    rintro r w' ⟨rfl, rfl⟩
    exact exQ.f h h0 (hF R h0)
theorem product_a {K : TK} {L cnt : Nat} {L0 : LL} {M : Nat → MR} {F : RS → RS} {op B : Nat} (H : LVC K L cnt L0 M m10_product F op B) (hF : ∀ R : RS, ¬ R.1.2.1 = 0 → F R = R) {D : Nat} {s : Nat → Int32} {A : Nat → Nat → Int32} {R : RS} (hTP : TP K.2.2.1 (A 1) L) (h : CRl K L cnt s R.1) (hs : R.1.2.1 = 0 → ST op s A R) (hD : R.1.2.1 = 0 → B + 64 ≤ D + knR R) (hD6 : 6 ≤ D) : Tr D 0 0 m10_product [.ref 0] (modW s A L0 M) (exQ K L cnt L0 M s A R (F R)) := by
  by_cases h0 : R.1.2.1 = 0
  · exact H D s A R hTP h h0 (hs h0) (hD h0)
  · refine Tr.intro (by decide) rfl (J_mono (L10_product_f (by rw [h.1]; exact h0) (by omega)) ?_)
    rintro r w' ⟨rfl, rfl⟩
    exact exQ.f h h0 (hF R h0)
theorem sum_a {K : TK} {L cnt : Nat} {L0 : LL} {M : Nat → MR} {F : RS → RS} {op B : Nat} (H : LVC K L cnt L0 M m10_sum F op B) (hF : ∀ R : RS, ¬ R.1.2.1 = 0 → F R = R) {D : Nat} {s : Nat → Int32} {A : Nat → Nat → Int32} {R : RS} (hTP : TP K.2.2.1 (A 1) L) (h : CRl K L cnt s R.1) (hs : R.1.2.1 = 0 → ST op s A R) (hD : R.1.2.1 = 0 → B + 64 ≤ D + knR R) (hD6 : 6 ≤ D) : Tr D 0 0 m10_sum [.ref 0] (modW s A L0 M) (exQ K L cnt L0 M s A R (F R)) := by
  by_cases h0 : R.1.2.1 = 0
  · exact H D s A R hTP h h0 (hs h0) (hD h0)
  · refine Tr.intro (by decide) rfl (J_mono (L10_sum_f (by rw [h.1]; exact h0) (by omega)) ?_)
    rintro r w' ⟨rfl, rfl⟩
    exact exQ.f h h0 (hF R h0)
theorem negation_a {K : TK} {L cnt : Nat} {L0 : LL} {M : Nat → MR} {F : RS → RS} {op B : Nat} (H : LVC K L cnt L0 M m10_negation F op B) (hF : ∀ R : RS, ¬ R.1.2.1 = 0 → F R = R) {D : Nat} {s : Nat → Int32} {A : Nat → Nat → Int32} {R : RS} (hTP : TP K.2.2.1 (A 1) L) (h : CRl K L cnt s R.1) (hs : R.1.2.1 = 0 → ST op s A R) (hD : R.1.2.1 = 0 → B + 64 ≤ D + knR R) (hD6 : 6 ≤ D) : Tr D 0 0 m10_negation [.ref 0] (modW s A L0 M) (exQ K L cnt L0 M s A R (F R)) := by
  by_cases h0 : R.1.2.1 = 0
  · exact H D s A R hTP h h0 (hs h0) (hD h0)
  · refine Tr.intro (by decide) rfl (J_mono (L10_negation_f (by rw [h.1]; exact h0) (by omega)) ?_)
    rintro r w' ⟨rfl, rfl⟩
    exact exQ.f h h0 (hF R h0)
theorem conjunction_a {K : TK} {L cnt : Nat} {L0 : LL} {M : Nat → MR} {F : RS → RS} {op B : Nat} (H : LVC K L cnt L0 M m10_conjunction F op B) (hF : ∀ R : RS, ¬ R.1.2.1 = 0 → F R = R) {D : Nat} {s : Nat → Int32} {A : Nat → Nat → Int32} {R : RS} (hTP : TP K.2.2.1 (A 1) L) (h : CRl K L cnt s R.1) (hs : R.1.2.1 = 0 → ST op s A R) (hD : R.1.2.1 = 0 → B + 64 ≤ D + knR R) (hD6 : 6 ≤ D) : Tr D 0 0 m10_conjunction [.ref 0] (modW s A L0 M) (exQ K L cnt L0 M s A R (F R)) := by
  by_cases h0 : R.1.2.1 = 0
  · exact H D s A R hTP h h0 (hs h0) (hD h0)
  · refine Tr.intro (by decide) rfl (J_mono (L10_conjunction_f (by rw [h.1]; exact h0) (by omega)) ?_)
    rintro r w' ⟨rfl, rfl⟩
    exact exQ.f h h0 (hF R h0)
theorem expression_a {K : TK} {L cnt : Nat} {L0 : LL} {M : Nat → MR} {F : RS → RS} {op B : Nat} (H : LVC K L cnt L0 M m10_expression F op B) (hF : ∀ R : RS, ¬ R.1.2.1 = 0 → F R = R) {D : Nat} {s : Nat → Int32} {A : Nat → Nat → Int32} {R : RS} (hTP : TP K.2.2.1 (A 1) L) (h : CRl K L cnt s R.1) (hs : R.1.2.1 = 0 → ST op s A R) (hD : R.1.2.1 = 0 → B + 64 ≤ D + knR R) (hD6 : 6 ≤ D) : Tr D 0 0 m10_expression [.ref 0] (modW s A L0 M) (exQ K L cnt L0 M s A R (F R)) := by
  by_cases h0 : R.1.2.1 = 0
  · exact H D s A R hTP h h0 (hs h0) (hD h0)
  · refine Tr.intro (by decide) rfl (J_mono (L10_expression_f (by rw [h.1]; exact h0) (by omega)) ?_)
    rintro r w' ⟨rfl, rfl⟩
    exact exQ.f h h0 (hF R h0)
theorem L10_product4 {K : TK} {L cnt : Nat} (hK : KT K L cnt) {L0 : LL} {M : Nat → MR} {F : RS → RS} {op B : Nat} (H : LVC K L cnt L0 M m10_primary F op B) (hF : ∀ R : RS, ¬ R.1.2.1 = 0 → F R = R) {D : Nat} {s0 : Nat → Int32} {A0 : Nat → Nat → Int32} {R0 : RS} (hD : B + 65 ≤ D + knR R0) (hD9 : 9 ≤ D) (hs0 : ST op s0 A0 R0) : ∀ (m : Nat) (s : Nat → Int32) (A : Nat → Nat → Int32) (R : RS), FE s0 A0 s A → TP K.2.2.1 (A 1) L → CRl K L cnt s R.1 → (R.1.2.1 = 0 → EXP s0 A0 R0 s A R ∧ 65 ≤ knR R + m) → J m10_product D 0 0 40 4 [(0, .ref 0)] [] (modW s A L0 M) 0 0 (exQ K L cnt L0 M s0 A0 R0 (lvL K F 5 m R)) := by
  intro m
  induction m with
  | zero =>
    intro s A R hFE hTP h hE
    by_cases h0 : R.1.2.1 = 0
    · obtain ⟨hE1, hm⟩ := hE h0
      have := (hE1.st hs0).2.2.2.2
      omega
    · have h27 : ¬ s 27 = 0 := by rw [h.1]; exact h0
      refine J_aload_n (pc := 4) D10_product_4 rfl ?_
      refine J_bipush (pc := 5) (v := (nI 42)) D10_product_5 (by decide) ?_
      refine J_callVTR (pc := 7) (ac := [.int _]) D10_product_7 m10_isSign_v t1548 (c10_isSign (d := D - 2)) (by omega) rfl rfl rfl rfl (fun _ => rfl) rfl rfl rfl ?_
      refine J_if_ne (pc := 10) (tgt := 22) D10_product_10 (by decide) (fun h10 => absurd (i01_f (fun q => h27 q.1)) h10) (fun h10 => ?_)
      refine J_aload_n (pc := 13) D10_product_13 rfl ?_
      refine J_bipush (pc := 14) (v := (nI 47)) D10_product_14 (by decide) ?_
      refine J_callVTR (pc := 16) (ac := [.int _]) D10_product_16 m10_isSign_v t1548 (c10_isSign (d := D - 2)) (by omega) rfl rfl rfl rfl (fun _ => rfl) rfl rfl rfl ?_
      refine J_if_eq (pc := 19) (tgt := 48) D10_product_19 (by decide) (fun h19 => ?_) (fun h19 => absurd (i01_f (fun q => h27 q.1)) h19)
      refine J_vret (pc := 48) D10_product_48 rfl ?_
      exact ⟨rfl, s, A, rfl, hFE, h, fun q => absurd q h0⟩
  | succ m ih =>
    intro s A R hFE hTP h hE
    by_cases h0 : R.1.2.1 = 0
    · obtain ⟨hE, hm⟩ := hE h0
      have hst := hE.st hs0
      have hkn : knR R0 ≤ knR R := by have := hE.2.2.2.2.2.1; have := hE.2.2.2.2.1; omega
      have kvr := (h.2.2 h0).2.2.2.1
      have h27 : s 27 = 0 := by rw [h.1]; exact h0
      refine J_aload_n (pc := 4) D10_product_4 rfl ?_
      refine J_bipush (pc := 5) (v := (nI 42)) D10_product_5 (by decide) ?_
      refine J_callVTR (pc := 7) (ac := [.int _]) D10_product_7 m10_isSign_v t1548 (c10_isSign (d := D - 2)) (by omega) rfl rfl rfl rfl (fun _ => rfl) rfl rfl rfl ?_
      refine J_if_ne (pc := 10) (tgt := 22) D10_product_10 (by decide) (fun h10 => ?_) (fun h10 => ?_)
      · replace h10 := i01_nz h10
        have hkd := (kv_s42 kvr).mp h10.2
        refine J_aload_n (pc := 22) D10_product_22 rfl ?_
        refine J_getf (pc := 23) D10_product_23 fl10_168 rfl rfl ?_
        refine J_istore_n (pc := 26) D10_product_26 rfl ?_
        refine J_aload_n (pc := 27) D10_product_27 rfl ?_
        refine J_callVT (pc := 28) (ac := []) D10_product_28 m10_knot_v t1528 (c10_knot (d := D - 3) h (kn := knR R) (fun _ => ⟨hst.2.1, hst.2.2.2.2⟩)) (by omega) rfl rfl rfl rfl rfl rfl rfl (fun r w' hq hl => ?_)
        obtain ⟨rfl, s2, rfl, a2, b2, c2⟩ := hq
        refine J_aload_n (pc := 31) D10_product_31 rfl ?_
        refine J_callVT (pc := 32) (ac := []) D10_product_32 m10_goOn_v t1504 (c10_goOn (d := D - 8) hK hTP b2) (by omega) rfl rfl rfl rfl rfl rfl rfl (fun r w' hq hl => ?_)
        obtain ⟨rfl, s3, rfl, a3, b3⟩ := hq
        rw [← tkR_1] at b3
        have e31 : s3 31 = s 31 := (a3 31 (by decide)).trans (a2 31 (by decide) (by decide))
        have hst3 : (tkR K R).1.2.1 = 0 → ST op s3 A (tkR K R) := fun q => hst.tk h0 (tk_lt h0 q) e31 ((a3 32 (by decide)).trans (c2 h0 (tk_lt h0 q)).1)
        refine J_aload_n (pc := 35) D10_product_35 rfl ?_
        refine J_callVT (pc := 36) (ac := []) D10_product_36 m10_primary_v t1544 (primary_a (D := D - 1) H hF hTP b3 hst3 (fun q => by have e9 : knR (tkR K R) = knR R + 1 := (by rw [tkR_k h0 (tk_lt h0 q)]); omega) (by omega)) (by omega) rfl rfl rfl rfl rfl rfl rfl (fun r w' hq hl => ?_)
        obtain ⟨rfl, s4, A4, rfl, f4, b4, e4⟩ := hq
        have hl4 : (F (tkR K R)).1.2.1 = 0 → (tkR K R).1.2.1 = 0 := fun q => Decidable.byContradiction (fun z => z (by rw [hF _ z] at q; exact q))
        have hp4 : (F (tkR K R)).1.2.1 = 0 → A4 3 11 = nI (lenR (F (tkR K R))) ∧ lenR (F (tkR K R)) < 64 := fun q => EXP.lt hst h0 (tk_lt h0 (hl4 q)) (e4 q)
        refine J_aload_n (pc := 39) D10_product_39 rfl ?_
        refine J_iconst (pc := 40) (v := (nI 2)) D10_product_40 (by decide) ?_
        refine J_iload_n (pc := 41) D10_product_41 rfl ?_
        refine J_callVT (pc := 42) (ac := [.int _, .int _]) D10_product_42 m10_puts_v t1532 (c10_puts (d := D - 3) (n := lenR (F (tkR K R))) b4 hp4) (by omega) rfl rfl rfl rfl rfl rfl rfl (fun r w' hq hl => ?_)
        obtain ⟨rfl, A5, rfl, f5, n5, y5⟩ := hq
        refine J_goto (pc := 45) (tgt := 4) D10_product_45 (by decide) ?_
        have hkd2 : kdR K R = nI 27 ∨ kdR K R = nI 28 := Or.inl hkd
        have hcv : s 26 = sgM (kdR K R) := kv_cmv kvr (by rcases hkd2 with z | z <;> rw [z] <;> decide)
        rw [lvL, if_pos ⟨h0, lvO_5.mpr hkd2⟩]
        have hb : (putR (kdR K R) (nI 0) (F (tkR K R))).1.2.1 = 0 → EXP s0 A0 R0 s4 A5 (putR (kdR K R) (nI 0) (F (tkR K R))) := fun q => by
          have q' : (F (tkR K R)).1.2.1 = 0 := by rw [putR_1] at q; exact q
          exact (EXP.bin (K := K) hE hst h0 (tk_lt h0 (hl4 q')) e31 (e4 q') (y5 q') (by
            rcases hkd2 with z | z
            · exact ⟨11, by decide, by decide, z, hcv⟩
            · exact ⟨12, by decide, by decide, z, hcv⟩)).1
        have hFE5 : FE s0 A0 s4 A5 := hFE.tr ((FE.kn a2).tr ((FE.fs a3).tr (f4.tr f5)))
        refine J_lk [(0, .ref 0)] rfl ?_
        exact ih s4 A5 _ hFE5 (f5.tp (f4.tp hTP)) (by rw [putR_1]; exact b4) (fun q => ⟨hb q, by
          have q' : (F (tkR K R)).1.2.1 = 0 := by rw [putR_1] at q; exact q
          have e9 : knR (tkR K R) = knR R + 1 := (by rw [tkR_k h0 (tk_lt h0 (hl4 q'))])
          have e8 := (e4 q').2.2.2.2.2.1
          have e7 := (e4 q').2.2.2.2.1
          have e6 : knR (putR (kdR K R) (nI 0) (F (tkR K R))) = knR (F (tkR K R)) := by rw [putR_l (hp4 q').2]
          show 65 ≤ knR (putR (kdR K R) (nI 0) (F (tkR K R))) + m
          omega⟩)
      · have h10' := eq_true h10
        replace h10 := i01_z h10
        refine J_aload_n (pc := 13) D10_product_13 rfl ?_
        refine J_bipush (pc := 14) (v := (nI 47)) D10_product_14 (by decide) ?_
        refine J_callVTR (pc := 16) (ac := [.int _]) D10_product_16 m10_isSign_v t1548 (c10_isSign (d := D - 2)) (by omega) rfl rfl rfl rfl (fun _ => rfl) rfl rfl rfl ?_
        refine J_if_eq (pc := 19) (tgt := 48) D10_product_19 (by decide) (fun h19 => ?_) (fun h19 => ?_)
        · have h19' := eq_true h19
          replace h19 := i01_z h19
          refine J_vret (pc := 48) D10_product_48 rfl ?_
          rw [lvL, if_neg (fun q => (lvO_5.mp q.2).elim (fun z => h10 ⟨h27, (kv_s42 kvr).mpr z⟩) (fun z => h19 ⟨h27, (kv_s47 kvr).mpr z⟩))]
          exact ⟨rfl, s, A, rfl, hFE, h, fun _ => hE⟩
        · replace h19 := i01_nz h19
          have hkd := (kv_s47 kvr).mp h19.2
          refine J_aload_n (pc := 22) D10_product_22 rfl ?_
          refine J_getf (pc := 23) D10_product_23 fl10_168 rfl rfl ?_
          refine J_istore_n (pc := 26) D10_product_26 rfl ?_
          refine J_aload_n (pc := 27) D10_product_27 rfl ?_
          refine J_callVT (pc := 28) (ac := []) D10_product_28 m10_knot_v t1528 (c10_knot (d := D - 3) h (kn := knR R) (fun _ => ⟨hst.2.1, hst.2.2.2.2⟩)) (by omega) rfl rfl rfl rfl rfl rfl rfl (fun r w' hq hl => ?_)
          obtain ⟨rfl, s2, rfl, a2, b2, c2⟩ := hq
          refine J_aload_n (pc := 31) D10_product_31 rfl ?_
          refine J_callVT (pc := 32) (ac := []) D10_product_32 m10_goOn_v t1504 (c10_goOn (d := D - 8) hK hTP b2) (by omega) rfl rfl rfl rfl rfl rfl rfl (fun r w' hq hl => ?_)
          obtain ⟨rfl, s3, rfl, a3, b3⟩ := hq
          rw [← tkR_1] at b3
          have e31 : s3 31 = s 31 := (a3 31 (by decide)).trans (a2 31 (by decide) (by decide))
          have hst3 : (tkR K R).1.2.1 = 0 → ST op s3 A (tkR K R) := fun q => hst.tk h0 (tk_lt h0 q) e31 ((a3 32 (by decide)).trans (c2 h0 (tk_lt h0 q)).1)
          refine J_aload_n (pc := 35) D10_product_35 rfl ?_
          refine J_callVT (pc := 36) (ac := []) D10_product_36 m10_primary_v t1544 (primary_a (D := D - 1) H hF hTP b3 hst3 (fun q => by have e9 : knR (tkR K R) = knR R + 1 := (by rw [tkR_k h0 (tk_lt h0 q)]); omega) (by omega)) (by omega) rfl rfl rfl rfl rfl rfl rfl (fun r w' hq hl => ?_)
          obtain ⟨rfl, s4, A4, rfl, f4, b4, e4⟩ := hq
          have hl4 : (F (tkR K R)).1.2.1 = 0 → (tkR K R).1.2.1 = 0 := fun q => Decidable.byContradiction (fun z => z (by rw [hF _ z] at q; exact q))
          have hp4 : (F (tkR K R)).1.2.1 = 0 → A4 3 11 = nI (lenR (F (tkR K R))) ∧ lenR (F (tkR K R)) < 64 := fun q => EXP.lt hst h0 (tk_lt h0 (hl4 q)) (e4 q)
          refine J_aload_n (pc := 39) D10_product_39 rfl ?_
          refine J_iconst (pc := 40) (v := (nI 2)) D10_product_40 (by decide) ?_
          refine J_iload_n (pc := 41) D10_product_41 rfl ?_
          refine J_callVT (pc := 42) (ac := [.int _, .int _]) D10_product_42 m10_puts_v t1532 (c10_puts (d := D - 3) (n := lenR (F (tkR K R))) b4 hp4) (by omega) rfl rfl rfl rfl rfl rfl rfl (fun r w' hq hl => ?_)
          obtain ⟨rfl, A5, rfl, f5, n5, y5⟩ := hq
          refine J_goto (pc := 45) (tgt := 4) D10_product_45 (by decide) ?_
          have hkd2 : kdR K R = nI 27 ∨ kdR K R = nI 28 := Or.inr hkd
          have hcv : s 26 = sgM (kdR K R) := kv_cmv kvr (by rcases hkd2 with z | z <;> rw [z] <;> decide)
          rw [lvL, if_pos ⟨h0, lvO_5.mpr hkd2⟩]
          have hb : (putR (kdR K R) (nI 0) (F (tkR K R))).1.2.1 = 0 → EXP s0 A0 R0 s4 A5 (putR (kdR K R) (nI 0) (F (tkR K R))) := fun q => by
            have q' : (F (tkR K R)).1.2.1 = 0 := by rw [putR_1] at q; exact q
            exact (EXP.bin (K := K) hE hst h0 (tk_lt h0 (hl4 q')) e31 (e4 q') (y5 q') (by
              rcases hkd2 with z | z
              · exact ⟨11, by decide, by decide, z, hcv⟩
              · exact ⟨12, by decide, by decide, z, hcv⟩)).1
          have hFE5 : FE s0 A0 s4 A5 := hFE.tr ((FE.kn a2).tr ((FE.fs a3).tr (f4.tr f5)))
          refine J_lk [(0, .ref 0)] rfl ?_
          exact ih s4 A5 _ hFE5 (f5.tp (f4.tp hTP)) (by rw [putR_1]; exact b4) (fun q => ⟨hb q, by
            have q' : (F (tkR K R)).1.2.1 = 0 := by rw [putR_1] at q; exact q
            have e9 : knR (tkR K R) = knR R + 1 := (by rw [tkR_k h0 (tk_lt h0 (hl4 q'))])
            have e8 := (e4 q').2.2.2.2.2.1
            have e7 := (e4 q').2.2.2.2.1
            have e6 : knR (putR (kdR K R) (nI 0) (F (tkR K R))) = knR (F (tkR K R)) := by rw [putR_l (hp4 q').2]
            show 65 ≤ knR (putR (kdR K R) (nI 0) (F (tkR K R))) + m
            omega⟩)
    · have h27 : ¬ s 27 = 0 := by rw [h.1]; exact h0
      rw [lvL_f h0]
      refine J_aload_n (pc := 4) D10_product_4 rfl ?_
      refine J_bipush (pc := 5) (v := (nI 42)) D10_product_5 (by decide) ?_
      refine J_callVTR (pc := 7) (ac := [.int _]) D10_product_7 m10_isSign_v t1548 (c10_isSign (d := D - 2)) (by omega) rfl rfl rfl rfl (fun _ => rfl) rfl rfl rfl ?_
      refine J_if_ne (pc := 10) (tgt := 22) D10_product_10 (by decide) (fun h10 => absurd (i01_f (fun q => h27 q.1)) h10) (fun h10 => ?_)
      refine J_aload_n (pc := 13) D10_product_13 rfl ?_
      refine J_bipush (pc := 14) (v := (nI 47)) D10_product_14 (by decide) ?_
      refine J_callVTR (pc := 16) (ac := [.int _]) D10_product_16 m10_isSign_v t1548 (c10_isSign (d := D - 2)) (by omega) rfl rfl rfl rfl (fun _ => rfl) rfl rfl rfl ?_
      refine J_if_eq (pc := 19) (tgt := 48) D10_product_19 (by decide) (fun h19 => ?_) (fun h19 => absurd (i01_f (fun q => h27 q.1)) h19)
      refine J_vret (pc := 48) D10_product_48 rfl ?_
      exact ⟨rfl, s, A, rfl, hFE, h, fun q => absurd q h0⟩
theorem product_of {K : TK} {L cnt : Nat} (hK : KT K L cnt) {L0 : LL} {M : Nat → MR} {f op B : Nat} (hB : 10 ≤ B) (H : LVC K L cnt L0 M m10_primary (RL K f 6 op) op B) : LVC K L cnt L0 M m10_product (RL K (f + 1) 5 op) op (B + 1) := by
  intro D s A R hTP h h0 hst hD
  have hkn := hst.2.2.2.2
  rw [RL, if_pos h0, if_neg (by decide), if_neg (by decide), if_neg (by decide)]
  refine Tr.intro (by decide) rfl ?_
  refine J_aload_n (pc := 0) D10_product_0 rfl ?_
  refine J_callVT (pc := 1) (ac := []) D10_product_1 m10_primary_v t1544 (H (D - 1) s A R hTP h h0 hst (by omega)) (by omega) rfl rfl rfl rfl rfl rfl rfl (fun r w' hq hl => ?_)
  obtain ⟨rfl, s1, A1, rfl, f1, b1, e1⟩ := hq
  exact L10_product4 hK H (fun R h => RL_f h _ _ _) (by omega) (by omega) hst 64 s1 A1 _ f1 (f1.tp hTP) b1 (fun q => ⟨e1 q, by have e2 := (e1 q).2.2.2.2.2.1; have e3 := (e1 q).2.2.2.2.1; show 65 ≤ knR (RL K f 6 op R) + 64; omega⟩)
theorem L10_sum4 {K : TK} {L cnt : Nat} (hK : KT K L cnt) {L0 : LL} {M : Nat → MR} {F : RS → RS} {op B : Nat} (H : LVC K L cnt L0 M m10_product F op B) (hF : ∀ R : RS, ¬ R.1.2.1 = 0 → F R = R) {D : Nat} {s0 : Nat → Int32} {A0 : Nat → Nat → Int32} {R0 : RS} (hD : B + 65 ≤ D + knR R0) (hD9 : 9 ≤ D) (hs0 : ST op s0 A0 R0) : ∀ (m : Nat) (s : Nat → Int32) (A : Nat → Nat → Int32) (R : RS), FE s0 A0 s A → TP K.2.2.1 (A 1) L → CRl K L cnt s R.1 → (R.1.2.1 = 0 → EXP s0 A0 R0 s A R ∧ 65 ≤ knR R + m) → J m10_sum D 0 0 40 4 [(0, .ref 0)] [] (modW s A L0 M) 0 0 (exQ K L cnt L0 M s0 A0 R0 (lvL K F 4 m R)) := by
  intro m
  induction m with
  | zero =>
    intro s A R hFE hTP h hE
    by_cases h0 : R.1.2.1 = 0
    · obtain ⟨hE1, hm⟩ := hE h0
      have := (hE1.st hs0).2.2.2.2
      omega
    · have h27 : ¬ s 27 = 0 := by rw [h.1]; exact h0
      refine J_aload_n (pc := 4) D10_sum_4 rfl ?_
      refine J_bipush (pc := 5) (v := (nI 43)) D10_sum_5 (by decide) ?_
      refine J_callVTR (pc := 7) (ac := [.int _]) D10_sum_7 m10_isSign_v t1548 (c10_isSign (d := D - 2)) (by omega) rfl rfl rfl rfl (fun _ => rfl) rfl rfl rfl ?_
      refine J_if_ne (pc := 10) (tgt := 22) D10_sum_10 (by decide) (fun h10 => absurd (i01_f (fun q => h27 q.1)) h10) (fun h10 => ?_)
      refine J_aload_n (pc := 13) D10_sum_13 rfl ?_
      refine J_bipush (pc := 14) (v := (nI 45)) D10_sum_14 (by decide) ?_
      refine J_callVTR (pc := 16) (ac := [.int _]) D10_sum_16 m10_isSign_v t1548 (c10_isSign (d := D - 2)) (by omega) rfl rfl rfl rfl (fun _ => rfl) rfl rfl rfl ?_
      refine J_if_eq (pc := 19) (tgt := 48) D10_sum_19 (by decide) (fun h19 => ?_) (fun h19 => absurd (i01_f (fun q => h27 q.1)) h19)
      refine J_vret (pc := 48) D10_sum_48 rfl ?_
      exact ⟨rfl, s, A, rfl, hFE, h, fun q => absurd q h0⟩
  | succ m ih =>
    intro s A R hFE hTP h hE
    by_cases h0 : R.1.2.1 = 0
    · obtain ⟨hE, hm⟩ := hE h0
      have hst := hE.st hs0
      have hkn : knR R0 ≤ knR R := by have := hE.2.2.2.2.2.1; have := hE.2.2.2.2.1; omega
      have kvr := (h.2.2 h0).2.2.2.1
      have h27 : s 27 = 0 := by rw [h.1]; exact h0
      refine J_aload_n (pc := 4) D10_sum_4 rfl ?_
      refine J_bipush (pc := 5) (v := (nI 43)) D10_sum_5 (by decide) ?_
      refine J_callVTR (pc := 7) (ac := [.int _]) D10_sum_7 m10_isSign_v t1548 (c10_isSign (d := D - 2)) (by omega) rfl rfl rfl rfl (fun _ => rfl) rfl rfl rfl ?_
      refine J_if_ne (pc := 10) (tgt := 22) D10_sum_10 (by decide) (fun h10 => ?_) (fun h10 => ?_)
      · replace h10 := i01_nz h10
        have hkd := (kv_s43 kvr).mp h10.2
        refine J_aload_n (pc := 22) D10_sum_22 rfl ?_
        refine J_getf (pc := 23) D10_sum_23 fl10_168 rfl rfl ?_
        refine J_istore_n (pc := 26) D10_sum_26 rfl ?_
        refine J_aload_n (pc := 27) D10_sum_27 rfl ?_
        refine J_callVT (pc := 28) (ac := []) D10_sum_28 m10_knot_v t1528 (c10_knot (d := D - 3) h (kn := knR R) (fun _ => ⟨hst.2.1, hst.2.2.2.2⟩)) (by omega) rfl rfl rfl rfl rfl rfl rfl (fun r w' hq hl => ?_)
        obtain ⟨rfl, s2, rfl, a2, b2, c2⟩ := hq
        refine J_aload_n (pc := 31) D10_sum_31 rfl ?_
        refine J_callVT (pc := 32) (ac := []) D10_sum_32 m10_goOn_v t1504 (c10_goOn (d := D - 8) hK hTP b2) (by omega) rfl rfl rfl rfl rfl rfl rfl (fun r w' hq hl => ?_)
        obtain ⟨rfl, s3, rfl, a3, b3⟩ := hq
        rw [← tkR_1] at b3
        have e31 : s3 31 = s 31 := (a3 31 (by decide)).trans (a2 31 (by decide) (by decide))
        have hst3 : (tkR K R).1.2.1 = 0 → ST op s3 A (tkR K R) := fun q => hst.tk h0 (tk_lt h0 q) e31 ((a3 32 (by decide)).trans (c2 h0 (tk_lt h0 q)).1)
        refine J_aload_n (pc := 35) D10_sum_35 rfl ?_
        refine J_callVT (pc := 36) (ac := []) D10_sum_36 m10_product_v t1540 (product_a (D := D - 1) H hF hTP b3 hst3 (fun q => by have e9 : knR (tkR K R) = knR R + 1 := (by rw [tkR_k h0 (tk_lt h0 q)]); omega) (by omega)) (by omega) rfl rfl rfl rfl rfl rfl rfl (fun r w' hq hl => ?_)
        obtain ⟨rfl, s4, A4, rfl, f4, b4, e4⟩ := hq
        have hl4 : (F (tkR K R)).1.2.1 = 0 → (tkR K R).1.2.1 = 0 := fun q => Decidable.byContradiction (fun z => z (by rw [hF _ z] at q; exact q))
        have hp4 : (F (tkR K R)).1.2.1 = 0 → A4 3 11 = nI (lenR (F (tkR K R))) ∧ lenR (F (tkR K R)) < 64 := fun q => EXP.lt hst h0 (tk_lt h0 (hl4 q)) (e4 q)
        refine J_aload_n (pc := 39) D10_sum_39 rfl ?_
        refine J_iconst (pc := 40) (v := (nI 2)) D10_sum_40 (by decide) ?_
        refine J_iload_n (pc := 41) D10_sum_41 rfl ?_
        refine J_callVT (pc := 42) (ac := [.int _, .int _]) D10_sum_42 m10_puts_v t1532 (c10_puts (d := D - 3) (n := lenR (F (tkR K R))) b4 hp4) (by omega) rfl rfl rfl rfl rfl rfl rfl (fun r w' hq hl => ?_)
        obtain ⟨rfl, A5, rfl, f5, n5, y5⟩ := hq
        refine J_goto (pc := 45) (tgt := 4) D10_sum_45 (by decide) ?_
        have hkd2 : kdR K R = nI 25 ∨ kdR K R = nI 26 := Or.inl hkd
        have hcv : s 26 = sgM (kdR K R) := kv_cmv kvr (by rcases hkd2 with z | z <;> rw [z] <;> decide)
        rw [lvL, if_pos ⟨h0, lvO_4.mpr hkd2⟩]
        have hb : (putR (kdR K R) (nI 0) (F (tkR K R))).1.2.1 = 0 → EXP s0 A0 R0 s4 A5 (putR (kdR K R) (nI 0) (F (tkR K R))) := fun q => by
          have q' : (F (tkR K R)).1.2.1 = 0 := by rw [putR_1] at q; exact q
          exact (EXP.bin (K := K) hE hst h0 (tk_lt h0 (hl4 q')) e31 (e4 q') (y5 q') (by
            rcases hkd2 with z | z
            · exact ⟨9, by decide, by decide, z, hcv⟩
            · exact ⟨10, by decide, by decide, z, hcv⟩)).1
        have hFE5 : FE s0 A0 s4 A5 := hFE.tr ((FE.kn a2).tr ((FE.fs a3).tr (f4.tr f5)))
        refine J_lk [(0, .ref 0)] rfl ?_
        exact ih s4 A5 _ hFE5 (f5.tp (f4.tp hTP)) (by rw [putR_1]; exact b4) (fun q => ⟨hb q, by
          have q' : (F (tkR K R)).1.2.1 = 0 := by rw [putR_1] at q; exact q
          have e9 : knR (tkR K R) = knR R + 1 := (by rw [tkR_k h0 (tk_lt h0 (hl4 q'))])
          have e8 := (e4 q').2.2.2.2.2.1
          have e7 := (e4 q').2.2.2.2.1
          have e6 : knR (putR (kdR K R) (nI 0) (F (tkR K R))) = knR (F (tkR K R)) := by rw [putR_l (hp4 q').2]
          show 65 ≤ knR (putR (kdR K R) (nI 0) (F (tkR K R))) + m
          omega⟩)
      · have h10' := eq_true h10
        replace h10 := i01_z h10
        refine J_aload_n (pc := 13) D10_sum_13 rfl ?_
        refine J_bipush (pc := 14) (v := (nI 45)) D10_sum_14 (by decide) ?_
        refine J_callVTR (pc := 16) (ac := [.int _]) D10_sum_16 m10_isSign_v t1548 (c10_isSign (d := D - 2)) (by omega) rfl rfl rfl rfl (fun _ => rfl) rfl rfl rfl ?_
        refine J_if_eq (pc := 19) (tgt := 48) D10_sum_19 (by decide) (fun h19 => ?_) (fun h19 => ?_)
        · have h19' := eq_true h19
          replace h19 := i01_z h19
          refine J_vret (pc := 48) D10_sum_48 rfl ?_
          rw [lvL, if_neg (fun q => (lvO_4.mp q.2).elim (fun z => h10 ⟨h27, (kv_s43 kvr).mpr z⟩) (fun z => h19 ⟨h27, (kv_s45 kvr).mpr z⟩))]
          exact ⟨rfl, s, A, rfl, hFE, h, fun _ => hE⟩
        · replace h19 := i01_nz h19
          have hkd := (kv_s45 kvr).mp h19.2
          refine J_aload_n (pc := 22) D10_sum_22 rfl ?_
          refine J_getf (pc := 23) D10_sum_23 fl10_168 rfl rfl ?_
          refine J_istore_n (pc := 26) D10_sum_26 rfl ?_
          refine J_aload_n (pc := 27) D10_sum_27 rfl ?_
          refine J_callVT (pc := 28) (ac := []) D10_sum_28 m10_knot_v t1528 (c10_knot (d := D - 3) h (kn := knR R) (fun _ => ⟨hst.2.1, hst.2.2.2.2⟩)) (by omega) rfl rfl rfl rfl rfl rfl rfl (fun r w' hq hl => ?_)
          obtain ⟨rfl, s2, rfl, a2, b2, c2⟩ := hq
          refine J_aload_n (pc := 31) D10_sum_31 rfl ?_
          refine J_callVT (pc := 32) (ac := []) D10_sum_32 m10_goOn_v t1504 (c10_goOn (d := D - 8) hK hTP b2) (by omega) rfl rfl rfl rfl rfl rfl rfl (fun r w' hq hl => ?_)
          obtain ⟨rfl, s3, rfl, a3, b3⟩ := hq
          rw [← tkR_1] at b3
          have e31 : s3 31 = s 31 := (a3 31 (by decide)).trans (a2 31 (by decide) (by decide))
          have hst3 : (tkR K R).1.2.1 = 0 → ST op s3 A (tkR K R) := fun q => hst.tk h0 (tk_lt h0 q) e31 ((a3 32 (by decide)).trans (c2 h0 (tk_lt h0 q)).1)
          refine J_aload_n (pc := 35) D10_sum_35 rfl ?_
          refine J_callVT (pc := 36) (ac := []) D10_sum_36 m10_product_v t1540 (product_a (D := D - 1) H hF hTP b3 hst3 (fun q => by have e9 : knR (tkR K R) = knR R + 1 := (by rw [tkR_k h0 (tk_lt h0 q)]); omega) (by omega)) (by omega) rfl rfl rfl rfl rfl rfl rfl (fun r w' hq hl => ?_)
          obtain ⟨rfl, s4, A4, rfl, f4, b4, e4⟩ := hq
          have hl4 : (F (tkR K R)).1.2.1 = 0 → (tkR K R).1.2.1 = 0 := fun q => Decidable.byContradiction (fun z => z (by rw [hF _ z] at q; exact q))
          have hp4 : (F (tkR K R)).1.2.1 = 0 → A4 3 11 = nI (lenR (F (tkR K R))) ∧ lenR (F (tkR K R)) < 64 := fun q => EXP.lt hst h0 (tk_lt h0 (hl4 q)) (e4 q)
          refine J_aload_n (pc := 39) D10_sum_39 rfl ?_
          refine J_iconst (pc := 40) (v := (nI 2)) D10_sum_40 (by decide) ?_
          refine J_iload_n (pc := 41) D10_sum_41 rfl ?_
          refine J_callVT (pc := 42) (ac := [.int _, .int _]) D10_sum_42 m10_puts_v t1532 (c10_puts (d := D - 3) (n := lenR (F (tkR K R))) b4 hp4) (by omega) rfl rfl rfl rfl rfl rfl rfl (fun r w' hq hl => ?_)
          obtain ⟨rfl, A5, rfl, f5, n5, y5⟩ := hq
          refine J_goto (pc := 45) (tgt := 4) D10_sum_45 (by decide) ?_
          have hkd2 : kdR K R = nI 25 ∨ kdR K R = nI 26 := Or.inr hkd
          have hcv : s 26 = sgM (kdR K R) := kv_cmv kvr (by rcases hkd2 with z | z <;> rw [z] <;> decide)
          rw [lvL, if_pos ⟨h0, lvO_4.mpr hkd2⟩]
          have hb : (putR (kdR K R) (nI 0) (F (tkR K R))).1.2.1 = 0 → EXP s0 A0 R0 s4 A5 (putR (kdR K R) (nI 0) (F (tkR K R))) := fun q => by
            have q' : (F (tkR K R)).1.2.1 = 0 := by rw [putR_1] at q; exact q
            exact (EXP.bin (K := K) hE hst h0 (tk_lt h0 (hl4 q')) e31 (e4 q') (y5 q') (by
              rcases hkd2 with z | z
              · exact ⟨9, by decide, by decide, z, hcv⟩
              · exact ⟨10, by decide, by decide, z, hcv⟩)).1
          have hFE5 : FE s0 A0 s4 A5 := hFE.tr ((FE.kn a2).tr ((FE.fs a3).tr (f4.tr f5)))
          refine J_lk [(0, .ref 0)] rfl ?_
          exact ih s4 A5 _ hFE5 (f5.tp (f4.tp hTP)) (by rw [putR_1]; exact b4) (fun q => ⟨hb q, by
            have q' : (F (tkR K R)).1.2.1 = 0 := by rw [putR_1] at q; exact q
            have e9 : knR (tkR K R) = knR R + 1 := (by rw [tkR_k h0 (tk_lt h0 (hl4 q'))])
            have e8 := (e4 q').2.2.2.2.2.1
            have e7 := (e4 q').2.2.2.2.1
            have e6 : knR (putR (kdR K R) (nI 0) (F (tkR K R))) = knR (F (tkR K R)) := by rw [putR_l (hp4 q').2]
            show 65 ≤ knR (putR (kdR K R) (nI 0) (F (tkR K R))) + m
            omega⟩)
    · have h27 : ¬ s 27 = 0 := by rw [h.1]; exact h0
      rw [lvL_f h0]
      refine J_aload_n (pc := 4) D10_sum_4 rfl ?_
      refine J_bipush (pc := 5) (v := (nI 43)) D10_sum_5 (by decide) ?_
      refine J_callVTR (pc := 7) (ac := [.int _]) D10_sum_7 m10_isSign_v t1548 (c10_isSign (d := D - 2)) (by omega) rfl rfl rfl rfl (fun _ => rfl) rfl rfl rfl ?_
      refine J_if_ne (pc := 10) (tgt := 22) D10_sum_10 (by decide) (fun h10 => absurd (i01_f (fun q => h27 q.1)) h10) (fun h10 => ?_)
      refine J_aload_n (pc := 13) D10_sum_13 rfl ?_
      refine J_bipush (pc := 14) (v := (nI 45)) D10_sum_14 (by decide) ?_
      refine J_callVTR (pc := 16) (ac := [.int _]) D10_sum_16 m10_isSign_v t1548 (c10_isSign (d := D - 2)) (by omega) rfl rfl rfl rfl (fun _ => rfl) rfl rfl rfl ?_
      refine J_if_eq (pc := 19) (tgt := 48) D10_sum_19 (by decide) (fun h19 => ?_) (fun h19 => absurd (i01_f (fun q => h27 q.1)) h19)
      refine J_vret (pc := 48) D10_sum_48 rfl ?_
      exact ⟨rfl, s, A, rfl, hFE, h, fun q => absurd q h0⟩
theorem sum_of {K : TK} {L cnt : Nat} (hK : KT K L cnt) {L0 : LL} {M : Nat → MR} {f op B : Nat} (hB : 10 ≤ B) (H : LVC K L cnt L0 M m10_product (RL K f 5 op) op B) : LVC K L cnt L0 M m10_sum (RL K (f + 1) 4 op) op (B + 1) := by
  intro D s A R hTP h h0 hst hD
  have hkn := hst.2.2.2.2
  rw [RL, if_pos h0, if_neg (by decide), if_neg (by decide), if_neg (by decide)]
  refine Tr.intro (by decide) rfl ?_
  refine J_aload_n (pc := 0) D10_sum_0 rfl ?_
  refine J_callVT (pc := 1) (ac := []) D10_sum_1 m10_product_v t1540 (H (D - 1) s A R hTP h h0 hst (by omega)) (by omega) rfl rfl rfl rfl rfl rfl rfl (fun r w' hq hl => ?_)
  obtain ⟨rfl, s1, A1, rfl, f1, b1, e1⟩ := hq
  exact L10_sum4 hK H (fun R h => RL_f h _ _ _) (by omega) (by omega) hst 64 s1 A1 _ f1 (f1.tp hTP) b1 (fun q => ⟨e1 q, by have e2 := (e1 q).2.2.2.2.2.1; have e3 := (e1 q).2.2.2.2.1; show 65 ≤ knR (RL K f 5 op R) + 64; omega⟩)
