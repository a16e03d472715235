/-! the class' reader never goes back (own) -/
theorem step_m {K : TK} {C : RC} : C.1 ≤ (stepC K C).1 := by
  unfold stepC
  split
  · exact Nat.le_refl _
  · show C.1 ≤ C.1 + 1; omega
theorem ref_m {K : TK} {x : Int32} {C : RC} : (refC K x C).1 = C.1 := by unfold refC; split <;> rfl
theorem tak_m {K : TK} {x : Int32} {C : RC} : C.1 ≤ (takC K x C).1 := by
  unfold takC
  split
  · split
    · exact step_m
    · rw [ref_m]; exact Nat.le_refl _
  · exact Nat.le_refl _
theorem num_m {K : TK} {lo hi : Int32} {C : RC} : C.1 ≤ (numC K lo hi C).1 := by
  have h : (numC1 K lo hi C).1 = C.1 := by
    unfold numC1
    split
    · exact ref_m
    · rfl
  rw [← h]
  exact tak_m
theorem new_m {K : TK} {al : Int32} {C : RC} : C.1 ≤ (newC K al C).1 := by
  have h : (newC1 K al C).1 = C.1 := by
    unfold newC1
    split
    · exact ref_m
    · rfl
  rw [← h]
  exact tak_m
theorem per_m {K : TK} {q oth : Int32} {C : RC} : C.1 ≤ (perC K q oth C).1 := by
  have h : (perC1 K q C).1 = C.1 := by
    unfold perC1
    split
    · exact ref_m
    · rfl
  have h2 : (perC2 K q oth (perC1 K q C)).1 = (perC1 K q C).1 := by
    unfold perC2
    split
    · exact ref_m
    · rfl
  rw [← h, ← h2]
  exact tak_m
theorem han_m {K : TK} {q : Int32} {C : RC} : (hanC K q C).1 = C.1 := by
  unfold hanC
  split
  · split
    · split
      · exact ref_m
      · rfl
    · exact ref_m
  · rfl
theorem go_m {K : TK} {C : RC} : C.1 ≤ (goC K C).1 := by
  unfold goC
  split
  · exact step_m
  · exact Nat.le_refl _
theorem kn_m {K : TK} {kn : Nat} {C : RC} : (knC K kn C).1 = C.1 := by
  unfold knC tkC
  split
  · split
    · rfl
    · exact ref_m
  · rfl
theorem tkR_m {K : TK} {R : RS} : R.1.1 ≤ (tkR K R).1.1 := by
  rw [tkR_1]
  have := go_m (K := K) (C := knC K (knR R) R.1)
  rw [kn_m] at this
  exact this
theorem lvL_m {K : TK} {g : RS → RS} {lv : Nat} (hg : ∀ R : RS, R.1.1 ≤ (g R).1.1) : ∀ (m : Nat) (R : RS), R.1.1 ≤ (lvL K g lv m R).1.1
  | 0, _ => Nat.le_refl _
  | m + 1, R => by
    rw [lvL]
    split
    · refine Nat.le_trans ?_ (lvL_m hg m _)
      rw [putR_1]
      exact Nat.le_trans tkR_m (hg _)
    · exact Nat.le_refl _
theorem ntL_m {K : TK} : ∀ (m j : Nat) (R : RS), R.1.1 ≤ (ntL K m j R).2.1.1
  | 0, _, _ => Nat.le_refl _
  | m + 1, j, R => by
    rw [ntL]
    split
    · exact Nat.le_trans tkR_m (ntL_m m (j + 1) _)
    · exact Nat.le_refl _
theorem puN_1 : ∀ (m : Nat) (R : RS), (puN m R).1 = R.1
  | 0, _ => rfl
  | m + 1, R => by rw [puN, puN_1 m, putR_1]
theorem ite_m {c : Prop} [Decidable c] {K : TK} {x : Int32} {R : RS} : R.1.1 ≤ (if c then ((refC K x R.1, R.2) : RS) else R).1.1 := by
  by_cases h : c
  · rw [if_pos h]; exact Nat.le_of_eq ref_m.symm
  · rw [if_neg h]; exact Nat.le_refl _
theorem ite_m2 {c : Prop} [Decidable c] {K : TK} {x : Int32} {R : RS} : R.1.1 ≤ (if c then R else ((refC K x R.1, R.2) : RS)).1.1 := by
  by_cases h : c
  · rw [if_pos h]; exact Nat.le_refl _
  · rw [if_neg h]; exact Nat.le_of_eq ref_m.symm
theorem paR_m {K : TK} {g : RS → RS} {op : Nat} (hg : ∀ R : RS, R.1.1 ≤ (g R).1.1) (R : RS) : R.1.1 ≤ (paR K g op R).1.1 := by
  unfold paR
  split
  · unfold paN
    rw [putR_1]
    exact Nat.le_trans ite_m tkR_m
  · split
    · unfold paC
      refine Nat.le_trans ?_ tak_m
      refine Nat.le_trans ?_ (hg _)
      refine Nat.le_trans ?_ tak_m
      exact ite_m2
    · show R.1.1 ≤ (refC K (nI 1) R.1).1
      rw [ref_m]
      exact Nat.le_refl _
theorem RL_m {K : TK} : ∀ (f lv op : Nat) (R : RS), R.1.1 ≤ (RL K f lv op R).1.1
  | 0, _, _, _ => Nat.le_refl _
  | f + 1, lv, op, R => by
    rw [RL]
    split
    · split
      · rw [puN_1]
        exact Nat.le_trans (ntL_m 65 0 R) (RL_m f 3 op _)
      · split
        · exact paR_m (RL_m f 0 (op + 1)) R
        · exact Nat.le_trans (RL_m f (lv + 1) op R) (lvL_m (RL_m f (lv + 1) op) _ _)
    · exact Nat.le_refl _
theorem lin1_m {K : TK} {R : RS} : R.1.1 ≤ (linR1 K R).1.1 := by
  have hr : ∀ x, R.1.1 ≤ (refC K x R.1).1 := fun x => by rw [ref_m]; exact Nat.le_refl _
  unfold linR1
  split
  · unfold manR
    split
    · exact Nat.le_trans step_m (Nat.le_trans new_m num_m)
    · exact hr _
  · split
    · by_cases hf : nbR R < 10
      · rw [botR_1 hf]
        unfold bC7 bC6 bC5 bC4 bC3 bC2
        exact Nat.le_trans step_m (Nat.le_trans new_m (Nat.le_trans per_m (Nat.le_trans per_m (Nat.le_trans num_m (Nat.le_trans num_m num_m)))))
      · rw [show botR K R = (refC K (nI 2) R.1, R.2) from if_neg hf]
        exact hr _
    · split
      · by_cases hf : nnR R < 8
        · rw [needR_1 hf]
          exact Nat.le_trans step_m (Nat.le_trans per_m (Nat.le_trans num_m (Nat.le_trans num_m num_m)))
        · rw [show needR K R = (refC K (nI 2) R.1, R.2) from if_neg hf]
          exact hr _
      · split
        · unfold thuR
          split
          · exact Nat.le_trans step_m num_m
          · exact hr _
        · split
          · unfold seeR
            split
            · exact Nat.le_trans step_m num_m
            · exact hr _
          · split
            · unfold lawR
              split
              · split
                · show R.1.1 ≤ (lawR1 K _ _ R).1.1
                  unfold lawR1
                  refine Nat.le_trans ?_ (RL_m 63 0 0 _)
                  show R.1.1 ≤ (stepC K (stepC K R.1)).1
                  exact Nat.le_trans step_m step_m
                · show R.1.1 ≤ (refC K (nI 3) (stepC K R.1)).1
                  rw [ref_m]; exact step_m
              · show R.1.1 ≤ (refC K (nI 1) (stepC K R.1)).1
                rw [ref_m]; exact step_m
            · exact hr _
/-- a line that was read without fault has taken a token -/
theorem lin_p {K : TK} {R : RS} (h : (linR K R).1.2.1 = 0) : R.1.1 < (linR K R).1.1 := by
  have h1 := lin1_m (K := K) (R := R)
  unfold linR paC at h ⊢
  by_cases h0 : (linR1 K R).1.2.1 = 0
  · by_cases hk : K.2.2.2.1 (linR1 K R).1.1 = nI 31
    · show R.1.1 < (takC K (nI 31) (linR1 K R).1).1
      rw [takC_y h0 hk]
      unfold stepC
      rw [if_neg (by rw [hk]; decide)]
      show R.1.1 < (linR1 K R).1.1 + 1
      omega
    · have h2 : (takC K (nI 31) (linR1 K R).1).2.1 = 0 := h
      rw [takC_n h0 hk] at h2
      exact absurd h2 (ref_nz h0 (by decide))
  · have h2 : (takC K (nI 31) (linR1 K R).1).2.1 = 0 := h
    rw [takC_f h0] at h2
    exact absurd h2 h0
