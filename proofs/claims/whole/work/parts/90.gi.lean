/-! what a line adds to what is told, on both sides (own) -/
theorem LR.cg {B B' : Nat → Nat → Int32} {T T' : TV} {k : Nat} (h : LR B T k) (e16 : B' 16 = B 16) (e17 : B' 17 = B 17) (e18 : B' 18 = B 18) (e19 : B' 19 = B 19) (eT : T'.2.2.2 = T.2.2.2) : LR B' T' k := by
  unfold LR
  rw [e16, e17, e18, e19, eT]
  exact h
theorem sh_k {A A' : Nat → Nat → Int32} {k : Nat} (h : A' k = A k) : shA A' k = shA A k := by unfold shA; rw [h]
theorem shA_at (A : Nat → Nat → Int32) (k i : Nat) : shA A k i = A k (hfK k + i) := rfl
theorem tb_k {s s' : Nat → Int32} {R R' : RS} {j : Nat} (hj : j = 0 ∨ j = 1 ∨ j = 2 ∨ j = 5) (e : s' 20 = s 20 ||| bt j) (h : (hb (s 20) 3 = true ↔ ¬ R.2.1.1 = 0) ∧ (hb (s 20) 4 = true ↔ ¬ R.2.1.2 = 0) ∧ ∀ k, k < 3 → (hb (s 20) (16 + k) = true ↔ ¬ lawA R 0 k = -1)) (e1 : R'.2.1 = R.2.1) (e2 : lawA R' 0 = lawA R 0) : (hb (s' 20) 3 = true ↔ ¬ R'.2.1.1 = 0) ∧ (hb (s' 20) 4 = true ↔ ¬ R'.2.1.2 = 0) ∧ ∀ k, k < 3 → (hb (s' 20) (16 + k) = true ↔ ¬ lawA R' 0 k = -1) := by
  have hh : ∀ b, b < 31 → b ≠ j → hb (s' 20) b = hb (s 20) b := fun b hb9 hn => by
    rw [e, hb_or (by omega) hb9, decide_eq_false hn, Bool.or_false]
  rw [e1, e2]
  exact ⟨by rw [hh 3 (by decide) (by omega)]; exact h.1, by rw [hh 4 (by decide) (by omega)]; exact h.2.1, fun k hk => by rw [hh (16 + k) (by omega) (by omega)]; exact h.2.2 k hk⟩
theorem plL_i {f : Nat → Int32} {x : Int32} : ∀ (g i j : Nat), plL f x g i = some j → i ≤ j ∧ j < i + g
  | 0, _, _, h => by cases h
  | g + 1, i, j, h => by
    rw [plL] at h
    by_cases e : f i = x
    · rw [if_pos e] at h; cases h; omega
    · rw [if_neg e] at h
      have := plL_i g (i + 1) j h
      omega
theorem wk_in {f : Nat → Int32} {x : Int32} {n : Nat} (h : ¬ wkI (plL f x n 0) = -1) : ∃ p, p < n ∧ wkI (plL f x n 0) = nI p := by
  obtain ⟨w, e⟩ := wkI_some h
  exact ⟨w, by have := plL_i n 0 w e; omega, by rw [e]; rfl⟩
section GI
variable {s s' : Nat → Int32} {A A' : Nat → Nat → Int32} {R R' : RS}
theorem GIv.man (h : GIv s A R) (hn : npR R < 5) {v1 v2 : Int32} (eR : R'.2 = (R.2.1, (npR R + 1, nbR R, nnR R), R.2.2.2.1, R.2.2.2.2.1, upA (upA (arR R) 1 (upd (arR R 1) (npR R) v1)) 2 (upd (arR R 2) (npR R) v2), lawA R)) (a4 : A' 4 = upd (A 4) (5 + npR R) v1) (a5 : A' 5 = upd (A 5) (5 + npR R) v2) (a3 : A' 3 = upd (A 3) 6 (nI (npR R + 1))) (ao : ∀ k, k ≠ 3 → k ≠ 4 → k ≠ 5 → A' k = A k) (e20 : s' 20 = s 20 ||| bt 0) (e31 : s' 31 = s 31) (e32 : s' 32 = s 32) : GIv s' A' R' := by
  obtain ⟨C, X⟩ := R'
  cases eR
  obtain ⟨⟨r1, r2, r3, r4, r5, r6, r7, r8, r9, r10, r11, r12, r13⟩, ⟨w1, w2, w3, w4, w5, w6, w7, w8, w9, w10, w11⟩, g3, ⟨g4, g5, g6, g7⟩, g8, g9⟩ := h
  have sh : ∀ k, k ≠ 3 → k ≠ 4 → k ≠ 5 → shA A' k = shA A k := fun k a b c => sh_k (ao k a b c)
  have s3 : ∀ i, 0 < i → shA A' 3 i = shA A 3 i := fun i hi => by rw [shA_at, shA_at, a3]; exact pk_un (by show 6 + i ≠ 6; omega)
  refine ⟨⟨by rw [shA_at, a3]; exact pk_us, by rw [s3 1 (by decide)]; exact r2, by rw [s3 2 (by decide)]; exact r3, by rw [s3 3 (by decide)]; exact r4, by rw [s3 4 (by decide)]; exact r5, by rw [s3 5 (by decide)]; exact r6, fun p hp => ?_, ?_, ?_, fun k hk => (r10 k hk).cg (sh 16 (by decide) (by decide) (by decide)) (sh 17 (by decide) (by decide) (by decide)) (sh 18 (by decide) (by decide) (by decide)) (sh 19 (by decide) (by decide) (by decide)) rfl, r11, r12, r13⟩, ⟨rfl, w2, w3, by show npR R + 1 ≤ 5; omega, w5, w6, fun b hb9 => ?_, fun b hb9 => ?_, fun n hn9 => ?_, w10, w11⟩, g3, ⟨g4, g5, e32.trans g6, e31.trans g7⟩, tb_k (R := R) (Or.inl rfl) e20 g8 rfl rfl, g9⟩
  · have hp2 : p < npR R + 1 := hp
    show A' 4 (5 + p) = upd (arR R 1) (npR R) v1 p ∧ A' 5 (5 + p) = upd (arR R 2) (npR R) v2 p
    rw [a4, a5]
    by_cases e : p = npR R
    · rw [e, pk_us, pk_us, pk_us, pk_us]; exact ⟨rfl, rfl⟩
    · rw [pk_un (by omega), pk_un e, pk_un (by omega), pk_un e]; exact r7 p (by omega)
  · rw [sh 6 (by decide) (by decide) (by decide), sh 7 (by decide) (by decide) (by decide), sh 8 (by decide) (by decide) (by decide), sh 9 (by decide) (by decide) (by decide), sh 10 (by decide) (by decide) (by decide), sh 11 (by decide) (by decide) (by decide)]
    exact r8
  · rw [sh 12 (by decide) (by decide) (by decide), sh 13 (by decide) (by decide) (by decide), sh 14 (by decide) (by decide) (by decide), sh 15 (by decide) (by decide) (by decide)]
    exact r9
  · obtain ⟨p, hp, e⟩ := w7 b hb9
    exact ⟨p, by show p < npR R + 1; omega, e⟩
  · obtain ⟨p, hp, e⟩ := w8 b hb9
    exact ⟨p, by show p < npR R + 1; omega, e⟩
  · obtain ⟨p, hp, e⟩ := w9 n hn9
    exact ⟨p, by show p < npR R + 1; omega, e⟩
theorem GIv.ned (h : GIv s A R) (hn : nnR R < 8) {v1 v2 v3 v4 : Int32} (eR : R'.2 = (R.2.1, (npR R, nbR R, nnR R + 1), R.2.2.2.1, R.2.2.2.2.1, upA (upA (upA (upA (arR R) 11 (upd (arR R 11) (nnR R) v1)) 12 (upd (arR R 12) (nnR R) v2)) 13 (upd (arR R 13) (nnR R) v3)) 14 (upd (arR R 14) (nnR R) v4), lawA R)) (a12 : A' 12 = upd (A 12) (8 + nnR R) v1) (a13 : A' 13 = upd (A 13) (8 + nnR R) v2) (a14 : A' 14 = upd (A 14) (8 + nnR R) v3) (a15 : A' 15 = upd (A 15) (8 + nnR R) v4) (a3 : A' 3 = upd (A 3) 8 (nI (nnR R + 1))) (ao : ∀ k, k ≠ 3 → (k < 12 ∨ 15 < k) → A' k = A k) (h1 : ∃ p, p < npR R ∧ v1 = nI p) (h2 : ∃ v, v ≤ 99 ∧ v2 = nI v) (e20 : s' 20 = s 20 ||| bt 2) (e31 : s' 31 = s 31) (e32 : s' 32 = s 32) : GIv s' A' R' := by
  obtain ⟨C, X⟩ := R'
  cases eR
  obtain ⟨⟨r1, r2, r3, r4, r5, r6, r7, r8, r9, r10, r11, r12, r13⟩, ⟨w1, w2, w3, w4, w5, w6, w7, w8, w9, w10, w11⟩, g3, ⟨g4, g5, g6, g7⟩, g8, g9⟩ := h
  have sh : ∀ k, k ≠ 3 → (k < 12 ∨ 15 < k) → shA A' k = shA A k := fun k a b => sh_k (ao k a b)
  have s3 : ∀ i, i ≠ 2 → shA A' 3 i = shA A 3 i := fun i hi => by rw [shA_at, shA_at, a3]; exact pk_un (by show 6 + i ≠ 8; omega)
  refine ⟨⟨by rw [s3 0 (by decide)]; exact r1, by rw [s3 1 (by decide)]; exact r2, by rw [shA_at, a3]; exact pk_us, by rw [s3 3 (by decide)]; exact r4, by rw [s3 4 (by decide)]; exact r5, by rw [s3 5 (by decide)]; exact r6, ?_, ?_, fun n hn9 => ?_, fun k hk => (r10 k hk).cg (sh 16 (by decide) (by decide)) (sh 17 (by decide) (by decide)) (sh 18 (by decide) (by decide)) (sh 19 (by decide) (by decide)) rfl, r11, r12, r13⟩, ⟨w1, w2, rfl, w4, w5, by show nnR R + 1 ≤ 8; omega, w7, w8, fun n hn9 => ?_, w10, w11⟩, fun n hn9 => ?_, ⟨g4, g5, e32.trans g6, e31.trans g7⟩, tb_k (R := R) (Or.inr (Or.inr (Or.inl rfl))) e20 g8 rfl rfl, g9⟩
  · rw [sh 4 (by decide) (by decide), sh 5 (by decide) (by decide)]
    exact r7
  · rw [sh 6 (by decide) (by decide), sh 7 (by decide) (by decide), sh 8 (by decide) (by decide), sh 9 (by decide) (by decide), sh 10 (by decide) (by decide), sh 11 (by decide) (by decide)]
    exact r8
  · have hn2 : n < nnR R + 1 := hn9
    show A' 12 (8 + n) = upd (arR R 11) (nnR R) v1 n ∧ A' 13 (8 + n) = upd (arR R 12) (nnR R) v2 n ∧ A' 14 (8 + n) = upd (arR R 13) (nnR R) v3 n ∧ A' 15 (8 + n) = upd (arR R 14) (nnR R) v4 n
    rw [a12, a13, a14, a15]
    by_cases e : n = nnR R
    · rw [e]; simp only [pk_us]; exact ⟨trivial, trivial, trivial, trivial⟩
    · simp only [pk_un e, pk_un (show 8 + n ≠ 8 + nnR R by omega)]; exact r9 n (by omega)
  · have hn2 : n < nnR R + 1 := hn9
    show ∃ p, p < npR R ∧ upd (arR R 11) (nnR R) v1 n = nI p
    by_cases e : n = nnR R
    · rw [e, pk_us]; exact h1
    · rw [pk_un e]; exact w9 n (by omega)
  · have hn2 : n < nnR R + 1 := hn9
    show ∃ v, v ≤ 99 ∧ upd (arR R 12) (nnR R) v2 n = nI v
    by_cases e : n = nnR R
    · rw [e, pk_us]; exact h2
    · rw [pk_un e]; exact g3 n (by omega)
theorem GIv.bot (h : GIv s A R) (hn : nbR R < 10) {v1 v2 v3 v4 v5 v6 : Int32} (eR : R'.2 = (R.2.1, (npR R, nbR R + 1, nnR R), R.2.2.2.1, R.2.2.2.2.1, upA (upA (upA (upA (upA (upA (arR R) 4 (upd (arR R 4) (nbR R) v1)) 5 (upd (arR R 5) (nbR R) v2)) 6 (upd (arR R 6) (nbR R) v3)) 7 (upd (arR R 7) (nbR R) v4)) 8 (upd (arR R 8) (nbR R) v5)) 9 (upd (arR R 9) (nbR R) v6), lawA R)) (a6 : A' 6 = upd (A 6) (10 + nbR R) v1) (a7 : A' 7 = upd (A 7) (10 + nbR R) v2) (a8 : A' 8 = upd (A 8) (10 + nbR R) v3) (a9 : A' 9 = upd (A 9) (10 + nbR R) v4) (a10 : A' 10 = upd (A 10) (10 + nbR R) v5) (a11 : A' 11 = upd (A 11) (10 + nbR R) v6) (a3 : A' 3 = upd (A 3) 7 (nI (nbR R + 1))) (ao : ∀ k, k ≠ 3 → (k < 6 ∨ 11 < k) → A' k = A k) (h2 : ∃ p, p < npR R ∧ v2 = nI p) (h3 : ∃ p, p < npR R ∧ v3 = nI p) (h4 : ∃ q, q < 6 ∧ v4 = nI q) (h5 : ∃ f, f ≤ 199 ∧ v5 = nI f) (e20 : s' 20 = s 20 ||| bt 1) (e31 : s' 31 = s 31) (e32 : s' 32 = s 32) : GIv s' A' R' := by
  obtain ⟨C, X⟩ := R'
  cases eR
  obtain ⟨⟨r1, r2, r3, r4, r5, r6, r7, r8, r9, r10, r11, r12, r13⟩, ⟨w1, w2, w3, w4, w5, w6, w7, w8, w9, w10, w11⟩, g3, ⟨g4, g5, g6, g7⟩, g8, g9⟩ := h
  have sh : ∀ k, k ≠ 3 → (k < 6 ∨ 11 < k) → shA A' k = shA A k := fun k a b => sh_k (ao k a b)
  have s3 : ∀ i, i ≠ 1 → shA A' 3 i = shA A 3 i := fun i hi => by rw [shA_at, shA_at, a3]; exact pk_un (by show 6 + i ≠ 7; omega)
  refine ⟨⟨by rw [s3 0 (by decide)]; exact r1, by rw [shA_at, a3]; exact pk_us, by rw [s3 2 (by decide)]; exact r3, by rw [s3 3 (by decide)]; exact r4, by rw [s3 4 (by decide)]; exact r5, by rw [s3 5 (by decide)]; exact r6, ?_, fun n hn9 => ?_, ?_, fun k hk => (r10 k hk).cg (sh 16 (by decide) (by decide)) (sh 17 (by decide) (by decide)) (sh 18 (by decide) (by decide)) (sh 19 (by decide) (by decide)) rfl, r11, r12, fun n hn9 => ?_⟩, ⟨w1, rfl, w3, w4, by show nbR R + 1 ≤ 10; omega, w6, fun n hn9 => ?_, fun n hn9 => ?_, w9, w10, fun n hn9 => ?_⟩, g3, ⟨g4, g5, e32.trans g6, e31.trans g7⟩, tb_k (R := R) (Or.inr (Or.inl rfl)) e20 g8 rfl rfl, g9⟩
  · rw [sh 4 (by decide) (by decide), sh 5 (by decide) (by decide)]
    exact r7
  · have hn2 : n < nbR R + 1 := hn9
    show A' 6 (10 + n) = upd (arR R 4) (nbR R) v1 n ∧ A' 7 (10 + n) = upd (arR R 5) (nbR R) v2 n ∧ A' 8 (10 + n) = upd (arR R 6) (nbR R) v3 n ∧ A' 9 (10 + n) = upd (arR R 7) (nbR R) v4 n ∧ A' 10 (10 + n) = upd (arR R 8) (nbR R) v5 n ∧ A' 11 (10 + n) = upd (arR R 9) (nbR R) v6 n
    rw [a6, a7, a8, a9, a10, a11]
    by_cases e : n = nbR R
    · rw [e]; simp only [pk_us]; exact ⟨trivial, trivial, trivial, trivial, trivial, trivial⟩
    · simp only [pk_un e, pk_un (show 10 + n ≠ 10 + nbR R by omega)]; exact r8 n (by omega)
  · rw [sh 12 (by decide) (by decide), sh 13 (by decide) (by decide), sh 14 (by decide) (by decide), sh 15 (by decide) (by decide)]
    exact r9
  · have hn2 : n < nbR R + 1 := hn9
    show ∃ v, v ≤ 199 ∧ upd (arR R 8) (nbR R) v5 n = nI v
    by_cases e : n = nbR R
    · rw [e, pk_us]; exact h5
    · rw [pk_un e]; exact r13 n (by omega)
  · have hn2 : n < nbR R + 1 := hn9
    show ∃ p, p < npR R ∧ upd (arR R 5) (nbR R) v2 n = nI p
    by_cases e : n = nbR R
    · rw [e, pk_us]; exact h2
    · rw [pk_un e]; exact w7 n (by omega)
  · have hn2 : n < nbR R + 1 := hn9
    show ∃ p, p < npR R ∧ upd (arR R 6) (nbR R) v3 n = nI p
    by_cases e : n = nbR R
    · rw [e, pk_us]; exact h3
    · rw [pk_un e]; exact w8 n (by omega)
  · have hn2 : n < nbR R + 1 := hn9
    show ∃ p, p < 6 ∧ upd (arR R 7) (nbR R) v4 n = nI p
    by_cases e : n = nbR R
    · rw [e, pk_us]; exact h4
    · rw [pk_un e]; exact w11 n (by omega)
theorem GIv.thu (h : GIv s A R) {v : Int32} (eR : R'.2 = ((1, R.2.1.2), R.2.2.1, (v, R.2.2.2.1.2), R.2.2.2.2)) (a3 : A' 3 = upd (A 3) 9 v) (ao : ∀ k, k ≠ 3 → A' k = A k) (hv : ∃ t, t ≤ 100 ∧ v = nI t) (e20 : s' 20 = s 20 ||| bt 3) (e31 : s' 31 = s 31) (e32 : s' 32 = s 32) : GIv s' A' R' := by
  obtain ⟨C, X⟩ := R'
  cases eR
  obtain ⟨⟨r1, r2, r3, r4, r5, r6, r7, r8, r9, r10, r11, r12, r13⟩, ⟨w1, w2, w3, w4, w5, w6, w7, w8, w9, w10, w11⟩, g3, ⟨g4, g5, g6, g7⟩, g8, g9⟩ := h
  have sh : ∀ k, k ≠ 3 → shA A' k = shA A k := fun k a => sh_k (ao k a)
  have s3 : ∀ i, i ≠ 3 → shA A' 3 i = shA A 3 i := fun i hi => by rw [shA_at, shA_at, a3]; exact pk_un (by show 6 + i ≠ 9; omega)
  have hh : ∀ b, b < 31 → b ≠ 3 → hb (s' 20) b = hb (s 20) b := fun b hb9 hn => by
    rw [e20, hb_or (by omega) hb9, decide_eq_false hn, Bool.or_false]
  refine ⟨⟨by rw [s3 0 (by decide)]; exact r1, by rw [s3 1 (by decide)]; exact r2, by rw [s3 2 (by decide)]; exact r3, by rw [shA_at, a3]; exact pk_us, by rw [s3 4 (by decide)]; exact r5, by rw [s3 5 (by decide)]; exact r6, ?_, ?_, ?_, fun k hk => (r10 k hk).cg (sh 16 (by decide)) (sh 17 (by decide)) (sh 18 (by decide)) (sh 19 (by decide)) rfl, hv, r12, r13⟩, ⟨w1, w2, w3, w4, w5, w6, w7, w8, w9, w10, w11⟩, g3, ⟨g4, g5, e32.trans g6, e31.trans g7⟩, ⟨?_, ?_, fun k hk => ?_⟩, g9⟩
  · rw [sh 4 (by decide), sh 5 (by decide)]; exact r7
  · rw [sh 6 (by decide), sh 7 (by decide), sh 8 (by decide), sh 9 (by decide), sh 10 (by decide), sh 11 (by decide)]; exact r8
  · rw [sh 12 (by decide), sh 13 (by decide), sh 14 (by decide), sh 15 (by decide)]; exact r9
  · rw [e20, hb_or (by decide) (by decide), decide_eq_true rfl, Bool.or_true]
    exact ⟨fun _ => (by decide : ¬ (1 : Int32) = 0), fun _ => rfl⟩
  · rw [hh 4 (by decide) (by decide)]; exact g8.2.1
  · rw [hh (16 + k) (by omega) (by omega)]; exact g8.2.2 k hk
theorem GIv.see (h : GIv s A R) {v : Int32} (eR : R'.2 = ((R.2.1.1, 1), R.2.2.1, (R.2.2.2.1.1, v), R.2.2.2.2)) (a3 : A' 3 = upd (A 3) 10 v) (ao : ∀ k, k ≠ 3 → A' k = A k) (hv : ∃ t, t ≤ 99999 ∧ v = nI t) (e20 : s' 20 = s 20 ||| bt 4) (e31 : s' 31 = s 31) (e32 : s' 32 = s 32) : GIv s' A' R' := by
  obtain ⟨C, X⟩ := R'
  cases eR
  obtain ⟨⟨r1, r2, r3, r4, r5, r6, r7, r8, r9, r10, r11, r12, r13⟩, ⟨w1, w2, w3, w4, w5, w6, w7, w8, w9, w10, w11⟩, g3, ⟨g4, g5, g6, g7⟩, g8, g9⟩ := h
  have sh : ∀ k, k ≠ 3 → shA A' k = shA A k := fun k a => sh_k (ao k a)
  have s3 : ∀ i, i ≠ 4 → shA A' 3 i = shA A 3 i := fun i hi => by rw [shA_at, shA_at, a3]; exact pk_un (by show 6 + i ≠ 10; omega)
  have hh : ∀ b, b < 31 → b ≠ 4 → hb (s' 20) b = hb (s 20) b := fun b hb9 hn => by
    rw [e20, hb_or (by omega) hb9, decide_eq_false hn, Bool.or_false]
  refine ⟨⟨by rw [s3 0 (by decide)]; exact r1, by rw [s3 1 (by decide)]; exact r2, by rw [s3 2 (by decide)]; exact r3, by rw [s3 3 (by decide)]; exact r4, by rw [shA_at, a3]; exact pk_us, by rw [s3 5 (by decide)]; exact r6, ?_, ?_, ?_, fun k hk => (r10 k hk).cg (sh 16 (by decide)) (sh 17 (by decide)) (sh 18 (by decide)) (sh 19 (by decide)) rfl, r11, hv, r13⟩, ⟨w1, w2, w3, w4, w5, w6, w7, w8, w9, w10, w11⟩, g3, ⟨g4, g5, e32.trans g6, e31.trans g7⟩, ⟨?_, ?_, fun k hk => ?_⟩, g9⟩
  · rw [sh 4 (by decide), sh 5 (by decide)]; exact r7
  · rw [sh 6 (by decide), sh 7 (by decide), sh 8 (by decide), sh 9 (by decide), sh 10 (by decide), sh 11 (by decide)]; exact r8
  · rw [sh 12 (by decide), sh 13 (by decide), sh 14 (by decide), sh 15 (by decide)]; exact r9
  · rw [hh 3 (by decide) (by decide)]; exact g8.1
  · rw [e20, hb_or (by decide) (by decide), decide_eq_true rfl, Bool.or_true]
    exact ⟨fun _ => (by decide : ¬ (1 : Int32) = 0), fun _ => rfl⟩
  · rw [hh (16 + k) (by omega) (by omega)]; exact g8.2.2 k hk
end GI
