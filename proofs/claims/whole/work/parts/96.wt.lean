/-! what the class has read is well told (own) -/
/-- but for place, knots and length nothing has changed -/
def RQ (R R' : RS) : Prop := R'.2.1 = R.2.1 ∧ R'.2.2.1 = R.2.2.1 ∧ R'.2.2.2.1 = R.2.2.2.1 ∧ R'.2.2.2.2.2.1 = R.2.2.2.2.2.1 ∧ (∀ k, k ≠ 2 → k ≠ 3 → lawA R' k = lawA R k) ∧ lenR R ≤ lenR R' ∧ (lenR R ≤ 64 → lenR R' ≤ 64)
theorem RQ.rf {R : RS} : RQ R R := ⟨rfl, rfl, rfl, rfl, fun _ _ _ => rfl, Nat.le_refl _, id⟩
theorem RQ.tr {R R' R'' : RS} (h : RQ R R') (h' : RQ R' R'') : RQ R R'' := ⟨h'.1.trans h.1, h'.2.1.trans h.2.1, h'.2.2.1.trans h.2.2.1, h'.2.2.2.1.trans h.2.2.2.1, fun k a b => (h'.2.2.2.2.1 k a b).trans (h.2.2.2.2.1 k a b), Nat.le_trans h.2.2.2.2.2.1 h'.2.2.2.2.2.1, fun q => h'.2.2.2.2.2.2 (h.2.2.2.2.2.2 q)⟩
theorem RQ.c {R : RS} {C : RC} : RQ R (C, R.2) := ⟨rfl, rfl, rfl, rfl, fun _ _ _ => rfl, Nat.le_refl _, id⟩
theorem putR_q {x y : Int32} {R : RS} : RQ R (putR x y R) := by
  by_cases h : lenR R < 64
  · rw [putR_l h]
    exact ⟨rfl, rfl, rfl, rfl, fun k a b => by show upA (upA (lawA R) 2 _) 3 _ k = _; rw [upA_n b, upA_n a], by show lenR R ≤ lenR R + 1; omega, fun _ => by show lenR R + 1 ≤ 64; omega⟩
  · rw [show putR x y R = R from if_neg h]; exact RQ.rf
theorem tkR_q {K : TK} {R : RS} : RQ R (tkR K R) := by
  unfold tkR
  split
  · exact ⟨rfl, rfl, rfl, rfl, fun _ _ _ => rfl, Nat.le_refl _, id⟩
  · exact RQ.c
theorem lvL_q {K : TK} {g : RS → RS} {lv : Nat} (hg : ∀ R : RS, RQ R (g R)) : ∀ (m : Nat) (R : RS), RQ R (lvL K g lv m R)
  | 0, _ => RQ.rf
  | m + 1, R => by
    rw [lvL]
    split
    · exact (tkR_q.tr ((hg _).tr putR_q)).tr (lvL_q hg m _)
    · exact RQ.rf
theorem ntL_q {K : TK} : ∀ (m j : Nat) (R : RS), RQ R (ntL K m j R).2
  | 0, _, _ => RQ.rf
  | m + 1, j, R => by
    rw [ntL]
    split
    · exact tkR_q.tr (ntL_q m (j + 1) _)
    · exact RQ.rf
theorem puN_q : ∀ (m : Nat) (R : RS), RQ R (puN m R)
  | 0, _ => RQ.rf
  | m + 1, R => by rw [puN]; exact putR_q.tr (puN_q m _)
theorem ite_q {c : Prop} [Decidable c] {K : TK} {x : Int32} {R : RS} : RQ R (if c then ((refC K x R.1, R.2) : RS) else R) := by
  by_cases h : c
  · rw [if_pos h]; exact RQ.c
  · rw [if_neg h]; exact RQ.rf
theorem ite_q2 {c : Prop} [Decidable c] {K : TK} {x : Int32} {R : RS} : RQ R (if c then R else ((refC K x R.1, R.2) : RS)) := by
  by_cases h : c
  · rw [if_pos h]; exact RQ.rf
  · rw [if_neg h]; exact RQ.c
theorem paR_q {K : TK} {g : RS → RS} {op : Nat} (hg : ∀ R : RS, RQ R (g R)) (R : RS) : RQ R (paR K g op R) := by
  unfold paR
  split
  · unfold paN
    exact (ite_q.tr tkR_q).tr putR_q
  · split
    · unfold paC
      exact ((ite_q2.tr RQ.c).tr (hg _)).tr RQ.c
    · exact RQ.c
theorem RL_q {K : TK} : ∀ (f lv op : Nat) (R : RS), RQ R (RL K f lv op R)
  | 0, _, _, _ => RQ.rf
  | f + 1, lv, op, R => by
    rw [RL]
    split
    · split
      · exact ((ntL_q 65 0 R).tr (RL_q f 3 op _)).tr (puN_q _ _)
      · split
        · exact paR_q (RL_q f 0 (op + 1)) R
        · exact (RL_q f (lv + 1) op R).tr (lvL_q (RL_q f (lv + 1) op) _ _)
    · exact RQ.rf
theorem numV_in {K : TK} {lo hi : Int32} {C : RC} (h : (numC K lo hi C).2.1 = 0) : lo ≤ numV K lo hi C ∧ numV K lo hi C ≤ hi := by
  have h0 := numC_0 h
  by_cases hk : K.2.2.2.1 C.1 = nI 29
  · by_cases hv : lo ≤ K.2.2.2.2.2 C.1 ∧ K.2.2.2.2.2 C.1 ≤ hi
    · have e : numV K lo hi C = K.2.2.2.2.2 C.1 := by unfold numV; rw [if_pos h]
      rw [e]; exact hv
    · rw [numC_b h0 hk hv] at h; exact absurd h (ref_nz h0 (by decide))
  · rw [numC_k h0 hk] at h; exact absurd h (ref_nz h0 (by decide))
theorem per_in {K : TK} {f : Nat → Int32} {n : Nat} {x oth : Int32} {C : RC} (h : (perC K (wkI (plL f x n 0)) oth C).2.1 = 0) : C.2.1 = 0 ∧ ∃ p, p < n ∧ perV K (wkI (plL f x n 0)) oth C = nI p := by
  have h' := h
  rw [per5, goC_f] at h'
  have h2 : (hanC K (wkI (plL f x n 0)) C).2.1 = 0 := by
    by_cases hc : (hanC K (wkI (plL f x n 0)) C).2.1 = 0 ∧ wkI (plL f x n 0) = oth
    · exact hc.1
    · rw [if_neg hc] at h'; exact h'
  obtain ⟨a, -, -, b⟩ := han_0 h2
  obtain ⟨p, hp, e⟩ := wk_in b
  exact ⟨a, p, hp, by unfold perV; rw [if_pos h]; exact e⟩
def WI (R : RS) : Prop := WT (tvR R) (npR R) (nbR R) (nnR R) ∧ lenR R ≤ 64
theorem WI.c {R : RS} {C : RC} (h : WI R) : WI (C, R.2) := h
theorem manR_w {K : TK} {R : RS} (h : WI R) (hf : npR R < 5) : WI (manR K R) := by
  obtain ⟨⟨w1, w2, w3, w4, w5, w6, w7, w8, w9, w10, w11⟩, g⟩ := h
  unfold manR
  rw [if_pos hf]
  refine ⟨⟨rfl, w2, w3, by show npR R + 1 ≤ 5; omega, w5, w6, fun b hb9 => ?_, fun b hb9 => ?_, fun n hn9 => ?_, w10, w11⟩, g⟩
  · obtain ⟨p, hp, e⟩ := w7 b hb9
    exact ⟨p, by show p < npR R + 1; omega, e⟩
  · obtain ⟨p, hp, e⟩ := w8 b hb9
    exact ⟨p, by show p < npR R + 1; omega, e⟩
  · obtain ⟨p, hp, e⟩ := w9 n hn9
    exact ⟨p, by show p < npR R + 1; omega, e⟩
theorem WI_bot {R R' : RS} {v1 v2 v3 v4 v5 v6 : Int32} (h : WI R) (hf : nbR R < 10) (eR : R'.2 = (R.2.1, (npR R, nbR R + 1, nnR R), R.2.2.2.1, R.2.2.2.2.1, upA (upA (upA (upA (upA (upA (arR R) 4 (upd (arR R 4) (nbR R) v1)) 5 (upd (arR R 5) (nbR R) v2)) 6 (upd (arR R 6) (nbR R) v3)) 7 (upd (arR R 7) (nbR R) v4)) 8 (upd (arR R 8) (nbR R) v5)) 9 (upd (arR R 9) (nbR R) v6), lawA R)) (h2 : ∃ p, p < npR R ∧ v2 = nI p) (h3 : ∃ p, p < npR R ∧ v3 = nI p) (h4 : ∃ q, q < 6 ∧ v4 = nI q) : WI R' := by
  obtain ⟨C, X⟩ := R'
  cases eR
  obtain ⟨⟨w1, w2, w3, w4, w5, w6, w7, w8, w9, w10, w11⟩, g⟩ := h
  refine ⟨⟨w1, rfl, w3, w4, by show nbR R + 1 ≤ 10; omega, w6, fun n hn9 => ?_, fun n hn9 => ?_, w9, w10, fun n hn9 => ?_⟩, g⟩
  · have hn2 : n < nbR R + 1 := hn9
    show ∃ p, p < npR R ∧ upd (arR R 5) (nbR R) v2 n = nI p
    by_cases e : n = nbR R
    · rw [e, pk_us]; exact h2
    · rw [pk_un e]; exact w7 n (by omega)
  · have hn2 : n < nbR R + 1 := hn9
    show ∃ p, p < npR R ∧ upd (arR R 6) (nbR R) v3 n = nI p
    by_cases e : n = nbR R
    · rw [e, pk_us]; exact h3
    · rw [pk_un e]; exact w8 n (by omega)
  · have hn2 : n < nbR R + 1 := hn9
    show ∃ p, p < 6 ∧ upd (arR R 7) (nbR R) v4 n = nI p
    by_cases e : n = nbR R
    · rw [e, pk_us]; exact h4
    · rw [pk_un e]; exact w11 n (by omega)
theorem WI_ned {R R' : RS} {v1 v2 v3 v4 : Int32} (h : WI R) (hf : nnR R < 8) (eR : R'.2 = (R.2.1, (npR R, nbR R, nnR R + 1), R.2.2.2.1, R.2.2.2.2.1, upA (upA (upA (upA (arR R) 11 (upd (arR R 11) (nnR R) v1)) 12 (upd (arR R 12) (nnR R) v2)) 13 (upd (arR R 13) (nnR R) v3)) 14 (upd (arR R 14) (nnR R) v4), lawA R)) (h1 : ∃ p, p < npR R ∧ v1 = nI p) : WI R' := by
  obtain ⟨C, X⟩ := R'
  cases eR
  obtain ⟨⟨w1, w2, w3, w4, w5, w6, w7, w8, w9, w10, w11⟩, g⟩ := h
  refine ⟨⟨w1, w2, rfl, w4, w5, by show nnR R + 1 ≤ 8; omega, w7, w8, fun n hn9 => ?_, w10, w11⟩, g⟩
  have hn2 : n < nnR R + 1 := hn9
  show ∃ p, p < npR R ∧ upd (arR R 11) (nnR R) v1 n = nI p
  by_cases e : n = nnR R
  · rw [e, pk_us]; exact h1
  · rw [pk_un e]; exact w9 n (by omega)
theorem WI_law {R RB R1 R' : RS} {j : Nat} (h : WI R) (eB : RB.2 = (R.2.1, R.2.2.1, R.2.2.2.1, R.2.2.2.2.1, arR R, upA (lawA R) 0 (upd (lawA R 0) j (nI (lenR R))))) (hE : RQ RB R1) (eR : R'.2 = (R1.2.1, R1.2.2.1, R1.2.2.2.1, R1.2.2.2.2.1, arR R1, upA (lawA R1) 1 (upd (lawA R1 1) j (nI (lenR R1))))) : WI R' := by
  obtain ⟨C', X'⟩ := R'
  obtain ⟨CB, XB⟩ := RB
  cases eR
  cases eB
  obtain ⟨C1, x1, x2, x3, ⟨ln1, kn1⟩, ar1, l1⟩ := R1
  obtain ⟨u1, u2, u3, u4, u5, u6, u7⟩ := hE
  obtain ⟨⟨w1, w2, w3, w4, w5, w6, w7, w8, w9, w10, w11⟩, g⟩ := h
  cases u1
  cases u2
  cases u3
  cases u4
  have u6' : lenR R ≤ ln1 := u6
  have u7' : ln1 ≤ 64 := u7 g
  have l0 : ∀ k, l1 0 k = upd (lawA R 0) j (nI (lenR R)) k := fun k => by rw [show l1 0 = _ from u5 0 (by decide) (by decide)]; rfl
  have l1k : ∀ k, l1 1 k = lawA R 1 k := fun k => by rw [show l1 1 = _ from u5 1 (by decide) (by decide)]; rfl
  refine ⟨⟨w1, w2, w3, w4, w5, w6, w7, w8, w9, fun k hk => ?_, w11⟩, u7'⟩
  show l1 0 k = -1 ∨ ∃ p q, l1 0 k = nI p ∧ upd (l1 1) j (nI ln1) k = nI q ∧ p ≤ q ∧ q ≤ 64
  by_cases e : k = j
  · subst e
    exact Or.inr ⟨lenR R, ln1, by rw [l0, pk_us], pk_us, u6', u7'⟩
  · rw [l0, pk_un e, pk_un e, l1k k]; exact w10 k hk
theorem lin_w {K : TK} {R : RS} (h : WI R) (h0 : (linR K R).1.2.1 = 0) : WI (linR K R) := by
  have h1 : (linR1 K R).1.2.1 = 0 := by
    by_cases z : (linR1 K R).1.2.1 = 0
    · exact z
    · have h2 : (takC K (nI 31) (linR1 K R).1).2.1 = 0 := h0
      rw [takC_f z] at h2
      exact h2
  show WI (takC K (nI 31) (linR1 K R).1, (linR1 K R).2)
  refine WI.c (R := linR1 K R) ?_
  unfold linR1 at h1 ⊢
  by_cases k0 : K.2.2.2.1 R.1.1 = nI 0
  · rw [if_pos k0] at h1 ⊢
    by_cases hf : npR R < 5
    · exact manR_w h hf
    · rw [show manR K R = (refC K (nI 2) R.1, R.2) from if_neg hf]; exact h.c
  · rw [if_neg k0] at h1 ⊢
    by_cases k1 : K.2.2.2.1 R.1.1 = nI 1
    · rw [if_pos k1] at h1 ⊢
      by_cases hf : nbR R < 10
      · rw [botR_1 hf] at h1
        have q4 := bC4_0 (bC5_0 (bC6_0 h1))
        have q3 := per_in (K := K) (f := arR R 1) (n := npR R) (by unfold bC4 bQ2 at q4; exact q4)
        have q2 := per_in (K := K) (f := arR R 1) (n := npR R) (oth := -1) (x := K.2.2.2.2.2 (bC2 K R).1) (C := bC2 K R) (by have := q3.1; unfold bC3 bQ1 at this; exact this)
        obtain ⟨x, -, hx, ex⟩ := n_in (by decide) (by decide) (numV_in (K := K) (lo := nI 0) (hi := nI 5) (C := bC4 K R) (by have := bC5_0 (bC6_0 h1); unfold bC5 at this; exact this))
        exact WI_bot h hf (botR_2 hf rfl rfl rfl rfl rfl rfl) q2.2 q3.2 ⟨x, by omega, ex⟩
      · rw [show botR K R = (refC K (nI 2) R.1, R.2) from if_neg hf]; exact h.c
    · rw [if_neg k1] at h1 ⊢
      by_cases k2 : K.2.2.2.1 R.1.1 = nI 2
      · rw [if_pos k2] at h1 ⊢
        by_cases hf : nnR R < 8
        · rw [needR_1 hf] at h1
          exact WI_ned h hf (needR_2 hf rfl rfl rfl rfl) (per_in (numC_0 (numC_0 (numC_0 h1)))).2
        · rw [show needR K R = (refC K (nI 2) R.1, R.2) from if_neg hf]; exact h.c
      · rw [if_neg k2]
        by_cases k3 : K.2.2.2.1 R.1.1 = nI 3
        · rw [if_pos k3]
          unfold thuR
          split
          · exact h
          · exact h.c
        · rw [if_neg k3]
          by_cases k4 : K.2.2.2.1 R.1.1 = nI 4
          · rw [if_pos k4]
            unfold seeR
            split
            · exact h
            · exact h.c
          · rw [if_neg k4]
            by_cases k5 : K.2.2.2.1 R.1.1 = nI 5
            · rw [if_pos k5]
              unfold lawR
              split
              · split
                · exact WI_law h (j := lwJ K (stepC K R.1)) (RB := (stepC K (stepC K R.1), (R.2.1.1, R.2.1.2), (R.2.2.1.1, R.2.2.1.2.1, R.2.2.1.2.2), (R.2.2.2.1.1, R.2.2.2.1.2), (R.2.2.2.2.1.1, R.2.2.2.2.1.2), R.2.2.2.2.2.1, upA R.2.2.2.2.2.2 0 (upd (R.2.2.2.2.2.2 0) (lwJ K (stepC K R.1)) (nI R.2.2.2.2.1.1)))) rfl (RL_q 63 0 0 _) rfl
                · exact h.c
              · exact h.c
            · rw [if_neg k5]; exact h.c
theorem rdL_w {K : TK} : ∀ (g l : Nat) (R : RS), (R.1.2.1 = 0 → WI R) → (rdL K g l R).2.1.2.1 = 0 → WI (rdL K g l R).2
  | 0, _, _, h, h0 => h h0
  | g + 1, l, R, h, h0 => by
    rw [rdL] at h0 ⊢
    by_cases hc : R.1.2.1 = 0 ∧ ¬ K.2.2.2.1 R.1.1 = nI 34
    · rw [if_pos hc] at h0 ⊢
      exact rdL_w g (l + 1) _ (fun q => lin_w (h hc.1) q) h0
    · rw [if_neg hc] at h0 ⊢
      exact h h0
theorem rd0_w {T : TV} : WI (rd0 T) := ⟨⟨rfl, rfl, rfl, Nat.zero_le _, Nat.zero_le _, Nat.zero_le _, fun b hb9 => absurd hb9 (by show ¬ b < 0; omega), fun b hb9 => absurd hb9 (by show ¬ b < 0; omega), fun b hb9 => absurd hb9 (by show ¬ b < 0; omega), fun k _ => Or.inl rfl, fun b hb9 => absurd hb9 (by show ¬ b < 0; omega)⟩, Nat.zero_le _⟩
theorem txX_w {K : TK} {X : TV} {L : Nat} (h : (txX K X L).2.1.2.1 = 0) : WT (tvR (txX K X L).2) (txX K X L).2.2.2.1.1 (txX K X L).2.2.2.1.2.1 (txX K X L).2.2.2.1.2.2 := (rdL_w 700 0 _ (fun _ => rd0_w) h).1
