/-! THE MODEL: lines of laws; a line (own program mod_q12.py) -/
theorem GIv.law {s s1 s2 s' : Nat → Int32} {A A1 A2 A' : Nat → Nat → Int32} {R RB R1 R' : RS} (h : GIv s A R) {j : Nat} (hj : j < 3) (eB : RB.2 = (R.2.1, R.2.2.1, R.2.2.2.1, R.2.2.2.2.1, arR R, upA (lawA R) 0 (upd (lawA R 0) j (nI (lenR R))))) (hE : EXP s1 A1 RB s2 A2 R1) (hFE : FE s1 A1 s2 A2) (a1 : A1 = upA A 16 (upd (A 16) (3 + j) (nI (lenR R)))) (a' : A' = upA A2 17 (upd (A2 17) (3 + j) (nI (lenR R1)))) (eR : R'.2 = (R1.2.1, R1.2.2.1, R1.2.2.2.1, R1.2.2.2.2.1, arR R1, upA (lawA R1) 1 (upd (lawA R1 1) j (nI (lenR R1))))) (e20 : s' 20 = (s 20 ||| bt 5) ||| bt (16 + j)) (e31 : s' 31 = nI 0) (e32 : s' 32 = nI (knR R1)) : GIv s' A' R' := by
  obtain ⟨C', X'⟩ := R'
  obtain ⟨CB, XB⟩ := RB
  cases eR
  cases eB
  obtain ⟨C1, x1, x2, x3, ⟨ln1, kn1⟩, ar1, l1⟩ := R1
  obtain ⟨⟨u1, u2, u3, u4, u5, u6⟩, p2, p3, p4, p5, p6, p7, p8, p9⟩ := hE
  obtain ⟨⟨r1, r2, r3, r4, r5, r6, r7, r8, r9, r10, r11, r12, r13⟩, ⟨w1, w2, w3, w4, w5, w6, w7, w8, w9, w10, w11⟩, g3, ⟨g4, g5, g6, g7⟩, g8, g9⟩ := h
  cases u1
  cases u2
  cases u3
  cases u4
  have u5' : ∀ k, k ≠ 2 → k ≠ 3 → l1 k = upA (lawA R) 0 (upd (lawA R 0) j (nI (lenR R))) k := u5
  have u6' : ∀ i, i < lenR R → l1 2 i = lawA R 2 i ∧ l1 3 i = lawA R 3 i := u6
  have p4' : A2 3 11 = nI ln1 := p4
  have p5' : lenR R < ln1 := p5
  have p6' : kn1 + lenR R = knR R + ln1 := p6
  have p7' : kn1 ≤ 64 := p7
  have p8' : ∀ i, i < lenR R → A2 18 (64 + i) = A1 18 (64 + i) ∧ A2 19 (64 + i) = A1 19 (64 + i) := p8
  have el : ln1 = kn1 := by omega
  have hA : ∀ k, k ≠ 3 → k ≠ 16 → k ≠ 17 → k ≠ 18 → k ≠ 19 → A' k = A k := fun k a b c d e => by rw [a', upA_n c, hFE.2.1 k a d e, a1, upA_n b]
  have hA3 : ∀ i, i ≠ 11 → A' 3 i = A 3 i := fun i hi => by rw [a', upA_n (by decide), hFE.2.2.1 i hi, a1, upA_n (by decide)]
  have h11 : A' 3 11 = nI ln1 := by rw [a', upA_n (by decide)]; exact p4'
  have h16 : A' 16 = upd (A 16) (3 + j) (nI (lenR R)) := by rw [a', upA_n (by decide), hFE.2.1 16 (by decide) (by decide) (by decide), a1, upA_s]
  have h17 : A' 17 = upd (A 17) (3 + j) (nI ln1) := by rw [a', upA_s, hFE.2.1 17 (by decide) (by decide) (by decide), a1, upA_n (by decide)]
  have h18 : A' 18 = A2 18 := by rw [a', upA_n (by decide)]
  have h19 : A' 19 = A2 19 := by rw [a', upA_n (by decide)]
  have k18 : ∀ i, i < lenR R → A' 18 (64 + i) = A 18 (64 + i) ∧ A' 19 (64 + i) = A 19 (64 + i) := fun i hi => by rw [h18, h19, (p8' i hi).1, (p8' i hi).2, a1, upA_n (by decide), upA_n (by decide)]; exact ⟨rfl, rfl⟩
  have l0 : ∀ k, l1 0 k = upd (lawA R 0) j (nI (lenR R)) k := fun k => by rw [u5' 0 (by decide) (by decide)]; rfl
  have l1k : ∀ k, k ≠ j → l1 1 k = lawA R 1 k := fun k hk => by rw [u5' 1 (by decide) (by decide)]; rfl
  have sh : ∀ k, k ≠ 3 → k ≠ 16 → k ≠ 17 → k ≠ 18 → k ≠ 19 → shA A' k = shA A k := fun k a b c d e => sh_k (hA k a b c d e)
  have s3 : ∀ i, i ≠ 5 → shA A' 3 i = shA A 3 i := fun i hi => by rw [shA_at, shA_at]; exact hA3 _ (by show 6 + i ≠ 11; omega)
  have hh : ∀ b, b < 31 → b ≠ 5 → b ≠ 16 + j → hb (s' 20) b = hb (s 20) b := fun b hb9 hn hn2 => by
    rw [e20, hb_or (by omega) hb9, hb_or (by decide) hb9, decide_eq_false hn, decide_eq_false hn2, Bool.or_false, Bool.or_false]
  have hX := p9 (lenR R) 0 ⟨fun _ => 0, Nat.le_refl _, rfl, rfl, fun i h1 h2 => absurd (show i < lenR R from h2) (by omega), fun i _ _ => Nat.zero_le _⟩
  refine ⟨⟨by rw [s3 0 (by decide)]; exact r1, by rw [s3 1 (by decide)]; exact r2, by rw [s3 2 (by decide)]; exact r3, by rw [s3 3 (by decide)]; exact r4, by rw [s3 4 (by decide)]; exact r5, ?_, ?_, ?_, ?_, fun k hk => ?_, r11, r12, r13⟩, ⟨w1, w2, w3, w4, w5, w6, w7, w8, w9, fun k hk => ?_, w11⟩, g3, ⟨el, p7', e32, e31⟩, ⟨?_, ?_, fun k hk => ?_⟩, fun k hk => ?_⟩
  · show A' 3 11 = nI kn1
    rw [h11, el]
  · rw [sh 4 (by decide) (by decide) (by decide) (by decide) (by decide), sh 5 (by decide) (by decide) (by decide) (by decide) (by decide)]; exact r7
  · rw [sh 6 (by decide) (by decide) (by decide) (by decide) (by decide), sh 7 (by decide) (by decide) (by decide) (by decide) (by decide), sh 8 (by decide) (by decide) (by decide) (by decide) (by decide), sh 9 (by decide) (by decide) (by decide) (by decide) (by decide), sh 10 (by decide) (by decide) (by decide) (by decide) (by decide), sh 11 (by decide) (by decide) (by decide) (by decide) (by decide)]; exact r8
  · rw [sh 12 (by decide) (by decide) (by decide) (by decide) (by decide), sh 13 (by decide) (by decide) (by decide) (by decide) (by decide), sh 14 (by decide) (by decide) (by decide) (by decide) (by decide), sh 15 (by decide) (by decide) (by decide) (by decide) (by decide)]; exact r9
  · by_cases e : k = j
    · subst e
      obtain ⟨hh9, x1, x2, x3, x4, x5⟩ := hX
      refine Or.inr ⟨lenR R, ln1, hh9, p5', by omega, ?_, ?_, ?_, ?_, x2, x3, fun i hi hi2 => ?_⟩
      · show l1 0 k = nI (lenR R)
        rw [l0, pk_us]
      · show upd (l1 1) k (nI ln1) k = nI ln1
        exact pk_us
      · show A' 16 (3 + k) = _
        rw [h16, pk_us]
      · show A' 17 (3 + k) = _
        rw [h17, pk_us]
      · show KR (l1 2 i) (l1 3 i) (A' 18 (64 + i)) (A' 19 (64 + i)) (hh9 i) (hh9 (i + 1))
        rw [h18, h19]
        exact x4 i hi hi2
    · have z16 : shA A' 16 k = shA A 16 k := by rw [shA_at, shA_at, h16]; exact pk_un (by show 3 + k ≠ 3 + j; omega)
      have z17 : shA A' 17 k = shA A 17 k := by rw [shA_at, shA_at, h17]; exact pk_un (by show 3 + k ≠ 3 + j; omega)
      rcases r10 k hk with ⟨y1, y2, y3⟩ | ⟨p, q, hh9, y1, y2, y3, y4, y5, y6, y7, y8, y9⟩
      · refine Or.inl ⟨?_, by rw [z16]; exact y2, by rw [z17]; exact y3⟩
        show l1 0 k = -1
        rw [l0, pk_un e]; exact y1
      · have hq : q ≤ lenR R := by
          rcases g9 k hk with z | ⟨q2, z1, z2⟩
          · exact absurd (y3.symm.trans z) (nI_nm (by omega))
          · have : q = q2 := nI_eqI (by omega) (by omega) (y4.symm.trans z1)
            omega
        refine Or.inr ⟨p, q, hh9, y1, y2, ?_, ?_, by rw [z16]; exact y5, by rw [z17]; exact y6, y7, y8, fun i hi hi2 => ?_⟩
        · show l1 0 k = nI p
          rw [l0, pk_un e]; exact y3
        · show upd (l1 1) j (nI ln1) k = nI q
          rw [pk_un e, l1k k e]; exact y4
        · show KR (l1 2 i) (l1 3 i) (A' 18 (64 + i)) (A' 19 (64 + i)) (hh9 i) (hh9 (i + 1))
          rw [(u6' i (by omega)).1, (u6' i (by omega)).2, (k18 i (by omega)).1, (k18 i (by omega)).2]
          exact y9 i hi hi2
  · show l1 0 k = -1 ∨ ∃ p q, l1 0 k = nI p ∧ upd (l1 1) j (nI ln1) k = nI q ∧ p ≤ q ∧ q ≤ 64
    by_cases e : k = j
    · subst e
      exact Or.inr ⟨lenR R, ln1, by rw [l0, pk_us], pk_us, by omega, by omega⟩
    · rw [l0, pk_un e, pk_un e, l1k k e]; exact w10 k hk
  · rw [hh 3 (by decide) (by decide) (by omega)]; exact g8.1
  · rw [hh 4 (by decide) (by decide) (by omega)]; exact g8.2.1
  · show hb (s' 20) (16 + k) = true ↔ ¬ l1 0 k = -1
    by_cases e : k = j
    · subst e
      rw [e20, hb_or (by omega) (by omega), decide_eq_true rfl, Bool.or_true, l0, pk_us]
      exact ⟨fun _ => nI_nm (by omega), fun _ => rfl⟩
    · rw [hh (16 + k) (by omega) (by omega) (by omega), l0, pk_un e]; exact g8.2.2 k hk
  · show l1 0 k = -1 ∨ ∃ q, upd (l1 1) j (nI ln1) k = nI q ∧ q ≤ ln1
    by_cases e : k = j
    · subst e
      exact Or.inr ⟨ln1, pk_us, Nat.le_refl _⟩
    · rw [l0, pk_un e, pk_un e, l1k k e]
      exact (g9 k hk).imp id (fun ⟨q, a, b⟩ => ⟨q, a, by omega⟩)
theorem FLn.fe {s s' : Nat → Int32} {A A' : Nat → Nat → Int32} (h : FE s A s' A') : FLn s A s' A' := ⟨fun k hk => h.1 k (by omega), fun k hk => h.2.1 k (by omega) (by omega) (by omega), fun k i hi => by
  by_cases e3 : k = 3
  · subst e3; exact h.2.2.1 i (by have : i < 6 := hi; omega)
  · by_cases e18 : k = 18
    · subst e18; exact (h.2.2.2 i hi).1
    · by_cases e19 : k = 19
      · subst e19; exact (h.2.2.2 i hi).2
      · rw [h.2.1 k e3 e18 e19]⟩
theorem lawR_n {K : TK} {R : RS} (h : ¬ (nI 6 ≤ K.2.2.2.1 (stepC K R.1).1 ∧ K.2.2.2.1 (stepC K R.1).1 ≤ nI 8)) : lawR K R = (refC K (nI 1) (stepC K R.1), R.2) := by
  unfold lawR
  rw [if_neg h]
theorem lawR_t {K : TK} {R : RS} {j : Nat} (hj : j < 3) (h : K.2.2.2.1 (stepC K R.1).1 = nI (6 + j)) (ht : ¬ lawA R 0 j = -1) : lawR K R = (refC K (nI 3) (stepC K R.1), R.2) := by
  have ej : lwJ K (stepC K R.1) = j := by unfold lwJ; rw [h, nI_subN (by omega), nI_clamp (by omega)]; omega
  unfold lawR
  rw [if_pos ⟨by rw [h]; exact nI_le (by omega) (by omega), by rw [h]; exact nI_le (by omega) (by omega)⟩, ej, if_neg ht]
theorem lawR_g {K : TK} {R : RS} {j : Nat} (hj : j < 3) (h : K.2.2.2.1 (stepC K R.1).1 = nI (6 + j)) (ht : lawA R 0 j = -1) : lawR K R = lawR2 K j (lawR1 K j (stepC K (stepC K R.1)) R) := by
  have ej : lwJ K (stepC K R.1) = j := by unfold lwJ; rw [h, nI_subN (by omega), nI_clamp (by omega)]; omega
  unfold lawR
  rw [if_pos ⟨by rw [h]; exact nI_le (by omega) (by omega), by rw [h]; exact nI_le (by omega) (by omega)⟩, ej, if_pos ht]
theorem c10_lawLine {K : TK} {L cnt : Nat} (hK : KT K L cnt) {L0 : LL} {M : Nat → MR} {D : Nat} {s0 s2 : Nat → Int32} {A : Nat → Nat → Int32} {R : RS} (hD : 135 ≤ D) (hTP : TP K.2.2.1 (A 1) L) (hG : GIv s0 A R) (b2 : CRl K L cnt s2 (stepC K R.1)) (h0 : R.1.2.1 = 0) (e20 : s2 20 = s0 20 ||| bt 5) (e31 : s2 31 = s0 31) (e32 : s2 32 = s0 32) : Tr D 0 0 m10_lawLine [.ref 0] (modW s2 A L0 M) (fun r w' => r = none ∧ ∃ s' A', w' = modW s' A' L0 M ∧ FLn s2 A s' A' ∧ s' 21 = s2 21 ∧ CRl K L cnt s' (lawR K R).1 ∧ ((lawR K R).1.2.1 = 0 → GIv s' A' (lawR K R))) := by
  have h1 : (stepC K R.1).2.1 = 0 := by rw [step_2]; exact h0
  have kvr := (b2.2.2 h1).2.2.2.1
  have h27 : s2 27 = 0 := by rw [b2.1]; exact h1
  have hst := hG.st
  by_cases hk : nI 6 ≤ K.2.2.2.1 (stepC K R.1).1 ∧ K.2.2.2.1 (stepC K R.1).1 ≤ nI 8
  · obtain ⟨x, hx1, hx2, ekd⟩ := n_in (by decide) (by decide) hk
    obtain ⟨j, rfl⟩ : ∃ j, x = 6 + j := ⟨x - 6, by omega⟩
    have hj : j < 3 := by omega
    have hl := (kv_law kvr).mpr hk
    have hva : s2 26 = nI (6 + j) := (kv_w8 kvr ⟨6 + j, by omega, ekd⟩).trans ekd
    have hbt : hb (s2 20) (16 + j) = hb (s0 20) (16 + j) := by rw [e20, hb_or (by decide) (by omega), decide_eq_false (by omega), Bool.or_false]
    by_cases ht : lawA R 0 j = -1
    · have e9 := lawR_g hj ekd ht
      refine Tr.intro (by decide) rfl ?_
      refine J_aload_n (pc := 0) D10_lawLine_0 rfl ?_
      refine J_getf (pc := 1) D10_lawLine_1 fl10_158 rfl rfl ?_
      rw [hl.1]
      refine J_if_ne (pc := 4) (tgt := 25) D10_lawLine_4 (by decide) (fun h4 => absurd rfl h4) (fun h4 => ?_)
      refine J_aload_n (pc := 7) D10_lawLine_7 rfl ?_
      refine J_getf (pc := 8) D10_lawLine_8 fl10_168 rfl rfl ?_
      refine J_bipush (pc := 11) (v := (nI 6)) D10_lawLine_11 (by decide) ?_
      rw [hva]
      refine J_icmp_lt (pc := 13) (tgt := 25) D10_lawLine_13 (by decide) (fun h13 => absurd h13 (Int32.not_lt.mpr (nI_le (by omega) (by omega)))) (fun h13 => ?_)
      refine J_aload_n (pc := 16) D10_lawLine_16 rfl ?_
      refine J_getf (pc := 17) D10_lawLine_17 fl10_168 rfl rfl ?_
      refine J_bipush (pc := 20) (v := (nI 8)) D10_lawLine_20 (by decide) ?_
      rw [hva]
      refine J_icmp_le (pc := 22) (tgt := 30) D10_lawLine_22 (by decide) (fun h22 => ?_) (fun h22 => absurd (nI_le (by omega) (by omega)) h22)
      refine J_aload_n (pc := 30) D10_lawLine_30 rfl ?_
      refine J_getf (pc := 31) D10_lawLine_31 fl10_168 rfl rfl ?_
      refine J_bipush (pc := 34) (v := (nI 6)) D10_lawLine_34 (by decide) ?_
      rw [hva]
      refine J_isub (pc := 36) D10_lawLine_36 ?_
      refine J_st [.int (nI j)] (by rw [nI_subN (by omega), show 6 + j - 6 = j by omega]) ?_
      refine J_istore_n (pc := 37) D10_lawLine_37 rfl ?_
      refine J_aload_n (pc := 38) D10_lawLine_38 rfl ?_
      refine J_getf (pc := 39) D10_lawLine_39 fl10_193 rfl rfl ?_
      rw [h27]
      refine J_if_ne (pc := 42) (tgt := 65) D10_lawLine_42 (by decide) (fun h42 => absurd rfl h42) (fun h42 => ?_)
      refine J_aload_n (pc := 45) D10_lawLine_45 rfl ?_
      refine J_getf (pc := 46) D10_lawLine_46 fl10_222 rfl rfl ?_
      refine J_bipush (pc := 49) (v := (nI 16)) D10_lawLine_49 (by decide) ?_
      refine J_iload_n (pc := 51) D10_lawLine_51 rfl ?_
      refine J_iadd (pc := 52) D10_lawLine_52 ?_
      rw [nI_add]
      refine J_ishr (pc := 53) D10_lawLine_53 ?_
      refine J_iconst (pc := 54) (v := (nI 1)) D10_lawLine_54 (by decide) ?_
      refine J_iand (pc := 55) D10_lawLine_55 ?_
      refine J_iconst (pc := 56) (v := (nI 1)) D10_lawLine_56 (by decide) ?_
      refine J_icmp_ne (pc := 57) (tgt := 65) D10_lawLine_57 (by decide) (fun h57 => ?_) (fun h57 => absurd h57 (fun q => absurd ht ((hG.2.2.2.2.1.2.2 j hj).mp (by rw [← hbt]; exact hb_1.mp q))))
      refine J_aload_n (pc := 65) D10_lawLine_65 rfl ?_
      refine J_getf (pc := 66) D10_lawLine_66 fl10_193 rfl rfl ?_
      rw [h27]
      refine J_if_eq (pc := 69) (tgt := 73) D10_lawLine_69 (by decide) (fun h69 => ?_) (fun h69 => absurd rfl h69)
      refine J_aload_n (pc := 73) D10_lawLine_73 rfl ?_
      refine J_dup (pc := 74) D10_lawLine_74 rfl ?_
      refine J_getf (pc := 75) D10_lawLine_75 fl10_222 rfl rfl ?_
      refine J_iconst (pc := 78) (v := (nI 1)) D10_lawLine_78 (by decide) ?_
      refine J_bipush (pc := 79) (v := (nI 16)) D10_lawLine_79 (by decide) ?_
      refine J_iload_n (pc := 81) D10_lawLine_81 rfl ?_
      refine J_iadd (pc := 82) D10_lawLine_82 ?_
      rw [nI_add]
      refine J_ishl (pc := 83) D10_lawLine_83 ?_
      refine J_ior (pc := 84) D10_lawLine_84 ?_
      refine J_mput (pc := 85) D10_lawLine_85 fp10_222 ms_20 ?_
      refine J_aload_n (pc := 88) D10_lawLine_88 rfl ?_
      refine J_callVT (pc := 89) (ac := []) D10_lawLine_89 m10_token_v t1435 (tokC_l (d := D - 7) (C := stepC K R.1) hK hTP (s := updI s2 20 (s2 20 ||| bt (16 + j))) (b2.c (fun k _ _ => updI_n (by omega))) h1) (by omega) rfl rfl rfl rfl rfl rfl rfl (fun r w' hq hl => ?_)
      obtain ⟨rfl, s3, rfl, a3, b3⟩ := hq
      refine J_aload_n (pc := 92) D10_lawLine_92 rfl ?_
      refine J_getf (pc := 93) D10_lawLine_93 fl10_52 rfl rfl ?_
      refine J_iconst (pc := 96) (v := (nI 3)) D10_lawLine_96 (by decide) ?_
      refine J_iload_n (pc := 97) D10_lawLine_97 rfl ?_
      refine J_iadd (pc := 98) D10_lawLine_98 ?_
      refine J_aload_n (pc := 99) D10_lawLine_99 rfl ?_
      refine J_iconst (pc := 100) (v := (nI 5)) D10_lawLine_100 (by decide) ?_
      refine J_callVTR (pc := 101) (ac := [.int _]) D10_lawLine_101 m10_fresher_v t1477 (c10_fresher (d := D - 2) (k := 5) (by decide)) (by omega) rfl rfl rfl rfl (fun _ => rfl) rfl rfl rfl ?_
      rw [show A 3 (6 + 5) = nI (lenR R) from hst.2.2.1]
      refine J_mast (pc := 104) D10_lawLine_104 ma_16 (nI_add 3 j) (by omega) rfl ?_
      generalize hA1 : upA A 16 (upd (A 16) (3 + j) (nI (lenR R))) = A1
      have hTP1 : TP K.2.2.1 (A1 1) L := by rw [← hA1]; exact hTP
      refine J_aload_n (pc := 105) D10_lawLine_105 rfl ?_
      refine J_callVT (pc := 106) (ac := []) D10_lawLine_106 m10_expression_v t1512 (c10_expression (D := D - 1) (A := A1) hK hTP1 (R := (stepC K (stepC K R.1), (R.2.1.1, R.2.1.2), (R.2.2.1.1, R.2.2.1.2.1, R.2.2.1.2.2), (R.2.2.2.1.1, R.2.2.2.1.2), (R.2.2.2.2.1.1, R.2.2.2.2.1.2), R.2.2.2.2.2.1, upA R.2.2.2.2.2.2 0 (upd (R.2.2.2.2.2.2 0) j (nI R.2.2.2.2.1.1)))) b3 (fun _ => ⟨(a3 31 (by decide)).trans ((updI_n (by decide)).trans (e31.trans hst.1)), (a3 32 (by decide)).trans ((updI_n (by decide)).trans (e32.trans hst.2.1)), by rw [← hA1]; exact hst.2.2.1, hst.2.2.2⟩) (by omega)) (by omega) rfl rfl rfl rfl rfl rfl rfl (fun r w' hq hl => ?_)
      obtain ⟨rfl, s4, A2, rfl, f4, b4, e4⟩ := hq
      rw [show RL K 63 0 0 (stepC K (stepC K R.1), (R.2.1.1, R.2.1.2), (R.2.2.1.1, R.2.2.1.2.1, R.2.2.1.2.2), (R.2.2.2.1.1, R.2.2.2.1.2), (R.2.2.2.2.1.1, R.2.2.2.2.1.2), R.2.2.2.2.2.1, upA R.2.2.2.2.2.2 0 (upd (R.2.2.2.2.2.2 0) j (nI R.2.2.2.2.1.1))) = lawR1 K j (stepC K (stepC K R.1)) R from rfl] at b4 e4
      generalize eR1 : lawR1 K j (stepC K (stepC K R.1)) R = R1 at b4 e4 e9
      refine J_aload_n (pc := 109) D10_lawLine_109 rfl ?_
      refine J_getf (pc := 110) D10_lawLine_110 fl10_55 rfl rfl ?_
      refine J_iconst (pc := 113) (v := (nI 3)) D10_lawLine_113 (by decide) ?_
      refine J_iload_n (pc := 114) D10_lawLine_114 rfl ?_
      refine J_iadd (pc := 115) D10_lawLine_115 ?_
      refine J_aload_n (pc := 116) D10_lawLine_116 rfl ?_
      refine J_iconst (pc := 117) (v := (nI 5)) D10_lawLine_117 (by decide) ?_
      refine J_callVTR (pc := 118) (ac := [.int _]) D10_lawLine_118 m10_fresher_v t1477 (c10_fresher (d := D - 2) (k := 5) (by decide)) (by omega) rfl rfl rfl rfl (fun _ => rfl) rfl rfl rfl ?_
      refine J_mast (pc := 121) D10_lawLine_121 ma_17 (nI_add 3 j) (by omega) rfl ?_
      refine J_vret (pc := 122) D10_lawLine_122 rfl ?_
      have hFF : FLn s2 A s4 (upA A2 17 (upd (A2 17) (3 + j) (A2 3 (6 + 5)))) := by
        refine (FLn.s21 (k := 20) (x := s2 20 ||| bt (16 + j)) (Or.inl rfl)).tr ((FLn.fs a3).tr (FLn.tr (FLn.up (k := 16) (j := 3 + j) (x := nI (lenR R)) (by decide) (by show 3 ≤ 3 + j; omega)) ?_))
        rw [hA1]
        exact (FLn.fe f4).tr (FLn.up (k := 17) (by decide) (by show 3 ≤ 3 + j; omega))
      have k21 : s4 21 = s2 21 := (f4.1 21 (by decide)).trans ((a3 21 (by decide)).trans (updI_n (by decide)))
      refine ⟨rfl, s4, _, rfl, hFF, k21, by rw [e9]; exact b4, fun q => ?_⟩
      rw [e9] at q ⊢
      have q' : R1.1.2.1 = 0 := q
      have hE := e4 q'
      exact hG.law (RB := (stepC K (stepC K R.1), (R.2.1.1, R.2.1.2), (R.2.2.1.1, R.2.2.1.2.1, R.2.2.1.2.2), (R.2.2.2.1.1, R.2.2.2.1.2), (R.2.2.2.2.1.1, R.2.2.2.2.1.2), R.2.2.2.2.2.1, upA R.2.2.2.2.2.2 0 (upd (R.2.2.2.2.2.2 0) j (nI R.2.2.2.2.1.1)))) hj rfl hE f4 hA1.symm (by rw [show A2 3 (6 + 5) = nI (lenR R1) from hE.2.2.2.1]) rfl ((f4.1 20 (by decide)).trans ((a3 20 (by decide)).trans (updI_s.trans (by rw [e20])))) (hE.2.1.trans ((a3 31 (by decide)).trans ((updI_n (by decide)).trans (e31.trans hst.1)))) hE.2.2.1
    · have e9 := lawR_t hj ekd ht
      refine Tr.intro (by decide) rfl ?_
      refine J_aload_n (pc := 0) D10_lawLine_0 rfl ?_
      refine J_getf (pc := 1) D10_lawLine_1 fl10_158 rfl rfl ?_
      rw [hl.1]
      refine J_if_ne (pc := 4) (tgt := 25) D10_lawLine_4 (by decide) (fun h4 => absurd rfl h4) (fun h4 => ?_)
      refine J_aload_n (pc := 7) D10_lawLine_7 rfl ?_
      refine J_getf (pc := 8) D10_lawLine_8 fl10_168 rfl rfl ?_
      refine J_bipush (pc := 11) (v := (nI 6)) D10_lawLine_11 (by decide) ?_
      rw [hva]
      refine J_icmp_lt (pc := 13) (tgt := 25) D10_lawLine_13 (by decide) (fun h13 => absurd h13 (Int32.not_lt.mpr (nI_le (by omega) (by omega)))) (fun h13 => ?_)
      refine J_aload_n (pc := 16) D10_lawLine_16 rfl ?_
      refine J_getf (pc := 17) D10_lawLine_17 fl10_168 rfl rfl ?_
      refine J_bipush (pc := 20) (v := (nI 8)) D10_lawLine_20 (by decide) ?_
      rw [hva]
      refine J_icmp_le (pc := 22) (tgt := 30) D10_lawLine_22 (by decide) (fun h22 => ?_) (fun h22 => absurd (nI_le (by omega) (by omega)) h22)
      refine J_aload_n (pc := 30) D10_lawLine_30 rfl ?_
      refine J_getf (pc := 31) D10_lawLine_31 fl10_168 rfl rfl ?_
      refine J_bipush (pc := 34) (v := (nI 6)) D10_lawLine_34 (by decide) ?_
      rw [hva]
      refine J_isub (pc := 36) D10_lawLine_36 ?_
      refine J_st [.int (nI j)] (by rw [nI_subN (by omega), show 6 + j - 6 = j by omega]) ?_
      refine J_istore_n (pc := 37) D10_lawLine_37 rfl ?_
      refine J_aload_n (pc := 38) D10_lawLine_38 rfl ?_
      refine J_getf (pc := 39) D10_lawLine_39 fl10_193 rfl rfl ?_
      rw [h27]
      refine J_if_ne (pc := 42) (tgt := 65) D10_lawLine_42 (by decide) (fun h42 => absurd rfl h42) (fun h42 => ?_)
      refine J_aload_n (pc := 45) D10_lawLine_45 rfl ?_
      refine J_getf (pc := 46) D10_lawLine_46 fl10_222 rfl rfl ?_
      refine J_bipush (pc := 49) (v := (nI 16)) D10_lawLine_49 (by decide) ?_
      refine J_iload_n (pc := 51) D10_lawLine_51 rfl ?_
      refine J_iadd (pc := 52) D10_lawLine_52 ?_
      rw [nI_add]
      refine J_ishr (pc := 53) D10_lawLine_53 ?_
      refine J_iconst (pc := 54) (v := (nI 1)) D10_lawLine_54 (by decide) ?_
      refine J_iand (pc := 55) D10_lawLine_55 ?_
      refine J_iconst (pc := 56) (v := (nI 1)) D10_lawLine_56 (by decide) ?_
      refine J_icmp_ne (pc := 57) (tgt := 65) D10_lawLine_57 (by decide) (fun h57 => absurd (hb_1.mpr (by rw [hbt]; exact (hG.2.2.2.2.1.2.2 j hj).mpr ht)) h57) (fun h57 => ?_)
      refine J_aload_n (pc := 60) D10_lawLine_60 rfl ?_
      refine J_iconst (pc := 61) (v := (nI 3)) D10_lawLine_61 (by decide) ?_
      refine J_callVT (pc := 62) (ac := [.int _]) D10_lawLine_62 m10_wrong_v t1469 (c10_wrong (d := D - 2) (C := stepC K R.1) b2 (by decide)) (by omega) rfl rfl rfl rfl rfl rfl rfl (fun r w' hq hl => ?_)
      obtain ⟨rfl, s3, rfl, a3, b3⟩ := hq
      refine J_aload_n (pc := 65) D10_lawLine_65 rfl ?_
      refine J_getf (pc := 66) D10_lawLine_66 fl10_193 rfl rfl ?_
      rw [b3.1]
      refine J_if_eq (pc := 69) (tgt := 73) D10_lawLine_69 (by decide) (fun h69 => absurd h69 (ref_nz h1 (by decide))) (fun h69 => ?_)
      refine J_vret (pc := 72) D10_lawLine_72 rfl ?_
      exact ⟨rfl, s3, A, rfl, FLn.fs a3, a3 21 (by decide), by rw [e9]; exact b3, fun q => absurd q (by rw [e9]; exact ref_nz h1 (by decide))⟩
  · have e9 := lawR_n hk
    have hl : ¬ (s2 25 = nI 0 ∧ (nI 6 ≤ s2 26 ∧ s2 26 ≤ nI 8)) := fun q => hk ((kv_law kvr).mp q)
    refine Tr.intro (by decide) rfl ?_
    refine J_aload_n (pc := 0) D10_lawLine_0 rfl ?_
    refine J_getf (pc := 1) D10_lawLine_1 fl10_158 rfl rfl ?_
    refine J_if_ne (pc := 4) (tgt := 25) D10_lawLine_4 (by decide) (fun h4 => ?_) (fun h4 => ?_)
    · refine J_aload_n (pc := 25) D10_lawLine_25 rfl ?_
      refine J_iconst (pc := 26) (v := (nI 1)) D10_lawLine_26 (by decide) ?_
      refine J_callVT (pc := 27) (ac := [.int _]) D10_lawLine_27 m10_wrong_v t1469 (c10_wrong (d := D - 2) (C := stepC K R.1) b2 (by decide)) (by omega) rfl rfl rfl rfl rfl rfl rfl (fun r w' hq hl => ?_)
      obtain ⟨rfl, s3, rfl, a3, b3⟩ := hq
      refine J_aload_n (pc := 30) D10_lawLine_30 rfl ?_
      refine J_getf (pc := 31) D10_lawLine_31 fl10_168 rfl rfl ?_
      refine J_bipush (pc := 34) (v := (nI 6)) D10_lawLine_34 (by decide) ?_
      refine J_isub (pc := 36) D10_lawLine_36 ?_
      refine J_istore_n (pc := 37) D10_lawLine_37 rfl ?_
      refine J_aload_n (pc := 38) D10_lawLine_38 rfl ?_
      refine J_getf (pc := 39) D10_lawLine_39 fl10_193 rfl rfl ?_
      rw [b3.1]
      refine J_if_ne (pc := 42) (tgt := 65) D10_lawLine_42 (by decide) (fun h42 => ?_) (fun h42 => absurd h42 (ref_nz h1 (by decide)))
      refine J_aload_n (pc := 65) D10_lawLine_65 rfl ?_
      refine J_getf (pc := 66) D10_lawLine_66 fl10_193 rfl rfl ?_
      rw [b3.1]
      refine J_if_eq (pc := 69) (tgt := 73) D10_lawLine_69 (by decide) (fun h69 => absurd h69 (ref_nz h1 (by decide))) (fun h69 => ?_)
      refine J_vret (pc := 72) D10_lawLine_72 rfl ?_
      exact ⟨rfl, s3, A, rfl, FLn.fs a3, a3 21 (by decide), by rw [e9]; exact b3, fun q => absurd q (by rw [e9]; exact ref_nz h1 (by decide))⟩
    · have h4' := eq_true h4
      refine J_aload_n (pc := 7) D10_lawLine_7 rfl ?_
      refine J_getf (pc := 8) D10_lawLine_8 fl10_168 rfl rfl ?_
      refine J_bipush (pc := 11) (v := (nI 6)) D10_lawLine_11 (by decide) ?_
      refine J_icmp_lt (pc := 13) (tgt := 25) D10_lawLine_13 (by decide) (fun h13 => ?_) (fun h13 => ?_)
      · have h13' := Int32.not_le.mpr h13
        refine J_aload_n (pc := 25) D10_lawLine_25 rfl ?_
        refine J_iconst (pc := 26) (v := (nI 1)) D10_lawLine_26 (by decide) ?_
        refine J_callVT (pc := 27) (ac := [.int _]) D10_lawLine_27 m10_wrong_v t1469 (c10_wrong (d := D - 2) (C := stepC K R.1) b2 (by decide)) (by omega) rfl rfl rfl rfl rfl rfl rfl (fun r w' hq hl => ?_)
        obtain ⟨rfl, s3, rfl, a3, b3⟩ := hq
        refine J_aload_n (pc := 30) D10_lawLine_30 rfl ?_
        refine J_getf (pc := 31) D10_lawLine_31 fl10_168 rfl rfl ?_
        refine J_bipush (pc := 34) (v := (nI 6)) D10_lawLine_34 (by decide) ?_
        refine J_isub (pc := 36) D10_lawLine_36 ?_
        refine J_istore_n (pc := 37) D10_lawLine_37 rfl ?_
        refine J_aload_n (pc := 38) D10_lawLine_38 rfl ?_
        refine J_getf (pc := 39) D10_lawLine_39 fl10_193 rfl rfl ?_
        rw [b3.1]
        refine J_if_ne (pc := 42) (tgt := 65) D10_lawLine_42 (by decide) (fun h42 => ?_) (fun h42 => absurd h42 (ref_nz h1 (by decide)))
        refine J_aload_n (pc := 65) D10_lawLine_65 rfl ?_
        refine J_getf (pc := 66) D10_lawLine_66 fl10_193 rfl rfl ?_
        rw [b3.1]
        refine J_if_eq (pc := 69) (tgt := 73) D10_lawLine_69 (by decide) (fun h69 => absurd h69 (ref_nz h1 (by decide))) (fun h69 => ?_)
        refine J_vret (pc := 72) D10_lawLine_72 rfl ?_
        exact ⟨rfl, s3, A, rfl, FLn.fs a3, a3 21 (by decide), by rw [e9]; exact b3, fun q => absurd q (by rw [e9]; exact ref_nz h1 (by decide))⟩
      · have h13' := Int32.not_lt.mp h13
        refine J_aload_n (pc := 16) D10_lawLine_16 rfl ?_
        refine J_getf (pc := 17) D10_lawLine_17 fl10_168 rfl rfl ?_
        refine J_bipush (pc := 20) (v := (nI 8)) D10_lawLine_20 (by decide) ?_
        refine J_icmp_le (pc := 22) (tgt := 30) D10_lawLine_22 (by decide) (fun h22 => absurd h22 (fun q => hl ⟨h4, Int32.not_lt.mp h13, q⟩)) (fun h22 => ?_)
        refine J_aload_n (pc := 25) D10_lawLine_25 rfl ?_
        refine J_iconst (pc := 26) (v := (nI 1)) D10_lawLine_26 (by decide) ?_
        refine J_callVT (pc := 27) (ac := [.int _]) D10_lawLine_27 m10_wrong_v t1469 (c10_wrong (d := D - 2) (C := stepC K R.1) b2 (by decide)) (by omega) rfl rfl rfl rfl rfl rfl rfl (fun r w' hq hl => ?_)
        obtain ⟨rfl, s3, rfl, a3, b3⟩ := hq
        refine J_aload_n (pc := 30) D10_lawLine_30 rfl ?_
        refine J_getf (pc := 31) D10_lawLine_31 fl10_168 rfl rfl ?_
        refine J_bipush (pc := 34) (v := (nI 6)) D10_lawLine_34 (by decide) ?_
        refine J_isub (pc := 36) D10_lawLine_36 ?_
        refine J_istore_n (pc := 37) D10_lawLine_37 rfl ?_
        refine J_aload_n (pc := 38) D10_lawLine_38 rfl ?_
        refine J_getf (pc := 39) D10_lawLine_39 fl10_193 rfl rfl ?_
        rw [b3.1]
        refine J_if_ne (pc := 42) (tgt := 65) D10_lawLine_42 (by decide) (fun h42 => ?_) (fun h42 => absurd h42 (ref_nz h1 (by decide)))
        refine J_aload_n (pc := 65) D10_lawLine_65 rfl ?_
        refine J_getf (pc := 66) D10_lawLine_66 fl10_193 rfl rfl ?_
        rw [b3.1]
        refine J_if_eq (pc := 69) (tgt := 73) D10_lawLine_69 (by decide) (fun h69 => absurd h69 (ref_nz h1 (by decide))) (fun h69 => ?_)
        refine J_vret (pc := 72) D10_lawLine_72 rfl ?_
        exact ⟨rfl, s3, A, rfl, FLn.fs a3, a3 21 (by decide), by rw [e9]; exact b3, fun q => absurd q (by rw [e9]; exact ref_nz h1 (by decide))⟩
theorem L10_lb5 {K : TK} {L cnt : Nat} (hK : KT K L cnt) {L0 : LL} {M : Nat → MR} {D : Nat} {s s2 : Nat → Int32} {A : Nat → Nat → Int32} {R : RS} (hD : 140 ≤ D) (hTP : TP K.2.2.1 (A 1) L) (hG : GIv s A R) (b2 : CRl K L cnt s2 (stepC K R.1)) (h0 : R.1.2.1 = 0) (e20 : s2 20 = s 20 ||| bt 5) (e31 : s2 31 = s 31) (e32 : s2 32 = s 32) (e21 : s2 21 = s 21) (hF2 : FLn s A s2 A) : J m10_line D 0 0 40 320 [(0, .ref 0), (1, .int (nI 5))] [] (modW s2 A L0 M) 0 0 (lnQ K L cnt L0 M s A (paC K (nI 31) (lawR K R))) := by
  have e6 : A 3 6 = nI (npR R) := hG.1.1
  have e7 : A 3 7 = nI (nbR R) := hG.1.2.1
  have e8 : A 3 8 = nI (nnR R) := hG.1.2.2.1
  have hnp : npR R ≤ 5 := hG.2.1.2.2.2.1
  have hnb : nbR R ≤ 10 := hG.2.1.2.2.2.2.1
  have hnn : nnR R ≤ 8 := hG.2.1.2.2.2.2.2.1
  refine J_aload_n (pc := 320) D10_line_320 rfl ?_
  refine J_callVT (pc := 321) (ac := []) D10_line_321 m10_lawLine_v t1508 (c10_lawLine (D := D - 1) hK (by omega) hTP hG b2 h0 e20 e31 e32) (by omega) rfl rfl rfl rfl rfl rfl rfl (fun r w' hq hl => ?_)
  obtain ⟨rfl, s3, A3, rfl, f3, e3, b3, g3⟩ := hq
  refine J_lk [(0, .ref 0)] rfl ?_
  exact L10_ln324 hK (by omega) (hF2.tr f3) (f3.tp hTP) (e3.trans e21) b3 g3
theorem L10_ln5 {K : TK} {L cnt : Nat} (hK : KT K L cnt) {L0 : LL} {M : Nat → MR} {D : Nat} {s : Nat → Int32} {A : Nat → Nat → Int32} {R : RS} (hD : 140 ≤ D) (hTP : TP K.2.2.1 (A 1) L) (h : CRl K L cnt s R.1) (h0 : R.1.2.1 = 0) (hG : GIv s A R) (hk : kdR K R = nI 5) : J m10_line D 0 0 40 0 [(0, .ref 0)] [] (modW s A L0 M) 0 0 (lnQ K L cnt L0 M s A (linR K R)) := by
  have kvr := (h.2.2 h0).2.2.2.1
  have h27 : s 27 = 0 := by rw [h.1]; exact h0
  have hl := (kv_lin kvr).mpr (Or.inr (Or.inr (Or.inr (Or.inr (Or.inr (hk))))))
  have hva : s 26 = nI 5 := (kv_w8 kvr ⟨5, by decide, hk⟩).trans hk
  have e6 : A 3 6 = nI (npR R) := hG.1.1
  have e7 : A 3 7 = nI (nbR R) := hG.1.2.1
  have e8 : A 3 8 = nI (nnR R) := hG.1.2.2.1
  have hnp : npR R ≤ 5 := hG.2.1.2.2.2.1
  have hnb : nbR R ≤ 10 := hG.2.1.2.2.2.2.1
  have hnn : nnR R ≤ 8 := hG.2.1.2.2.2.2.2.1
  have e9 : linR1 K R = lawR K R := by
    unfold linR1
    rw [if_neg (fun q => by rw [show K.2.2.2.1 R.1.1 = nI 5 from hk] at q; exact absurd q (by decide)), if_neg (fun q => by rw [show K.2.2.2.1 R.1.1 = nI 5 from hk] at q; exact absurd q (by decide)), if_neg (fun q => by rw [show K.2.2.2.1 R.1.1 = nI 5 from hk] at q; exact absurd q (by decide)), if_neg (fun q => by rw [show K.2.2.2.1 R.1.1 = nI 5 from hk] at q; exact absurd q (by decide)), if_neg (fun q => by rw [show K.2.2.2.1 R.1.1 = nI 5 from hk] at q; exact absurd q (by decide)), if_pos hk]
  have e9 : linR K R = paC K (nI 31) (lawR K R) := by unfold linR; rw [e9]
  rw [e9]
  refine J_aload_n (pc := 0) D10_line_0 rfl ?_
  refine J_getf (pc := 1) D10_line_1 fl10_158 rfl rfl ?_
  refine J_if_ne (pc := 4) (tgt := 15) D10_line_4 (by decide) (fun h4 => absurd hl.1 h4) (fun h4 => ?_)
  refine J_aload_n (pc := 7) D10_line_7 rfl ?_
  refine J_getf (pc := 8) D10_line_8 fl10_168 rfl rfl ?_
  refine J_iconst (pc := 11) (v := (nI 5)) D10_line_11 (by decide) ?_
  refine J_icmp_le (pc := 12) (tgt := 21) D10_line_12 (by decide) (fun h12 => ?_) (fun h12 => absurd hl.2 h12)
  refine J_aload_n (pc := 21) D10_line_21 rfl ?_
  refine J_getf (pc := 22) D10_line_22 fl10_168 rfl rfl ?_
  rw [hva]
  refine J_istore_n (pc := 25) D10_line_25 rfl ?_
  refine J_aload_n (pc := 26) D10_line_26 rfl ?_
  refine J_iload_n (pc := 27) D10_line_27 rfl ?_
  refine J_callVTR (pc := 28) (ac := [.int _]) D10_line_28 m10_isFull_v t1473 (c10_isFull5 (d := D - 3)) (by omega) rfl rfl rfl rfl (fun _ => rfl) rfl rfl rfl ?_
  refine J_if_eq (pc := 31) (tgt := 42) D10_line_31 (by decide) (fun h31 => ?_) (fun h31 => absurd (i01_f (fun q => q)) h31)
  refine J_iload_n (pc := 42) D10_line_42 rfl ?_
  refine J_iconst (pc := 43) (v := (nI 3)) D10_line_43 (by decide) ?_
  refine J_icmp_eq (pc := 44) (tgt := 52) D10_line_44 (by decide) (fun h44 => absurd h44 (by decide)) (fun h44 => ?_)
  refine J_iload_n (pc := 47) D10_line_47 rfl ?_
  refine J_iconst (pc := 48) (v := (nI 4)) D10_line_48 (by decide) ?_
  refine J_icmp_ne (pc := 49) (tgt := 69) D10_line_49 (by decide) (fun h49 => ?_) (fun h49 => absurd h49 (by decide))
  refine J_aload_n (pc := 69) D10_line_69 rfl ?_
  refine J_getf (pc := 70) D10_line_70 fl10_193 rfl rfl ?_
  rw [h27]
  refine J_if_eq (pc := 73) (tgt := 77) D10_line_73 (by decide) (fun h73 => ?_) (fun h73 => absurd rfl h73)
  refine J_aload_n (pc := 77) D10_line_77 rfl ?_
  refine J_dup (pc := 78) D10_line_78 rfl ?_
  refine J_getf (pc := 79) D10_line_79 fl10_222 rfl rfl ?_
  refine J_iconst (pc := 82) (v := (nI 1)) D10_line_82 (by decide) ?_
  refine J_iload_n (pc := 83) D10_line_83 rfl ?_
  refine J_ishl (pc := 84) D10_line_84 ?_
  refine J_ior (pc := 85) D10_line_85 ?_
  refine J_mput (pc := 86) D10_line_86 fp10_222 ms_20 ?_
  refine J_aload_n (pc := 89) D10_line_89 rfl ?_
  refine J_callVT (pc := 90) (ac := []) D10_line_90 m10_token_v t1435 (tokC_l (d := D - 7) (C := R.1) hK hTP (s := updI s 20 (s 20 ||| bt 5)) (h.c (fun k _ _ => updI_n (by omega))) h0) (by omega) rfl rfl rfl rfl rfl rfl rfl (fun r w' hq hl => ?_)
  obtain ⟨rfl, s2, rfl, a2, b2⟩ := hq
  have e20 : s2 20 = s 20 ||| bt 5 := (a2 20 (by decide)).trans updI_s
  have hF2 : FLn s A s2 A := (FLn.s21 (Or.inl rfl)).tr (FLn.fs a2)
  have e31 : s2 31 = s 31 := (a2 31 (by decide)).trans (updI_n (by decide))
  have e32 : s2 32 = s 32 := (a2 32 (by decide)).trans (updI_n (by decide))
  have e21 : s2 21 = s 21 := (a2 21 (by decide)).trans (updI_n (by decide))
  refine J_iload_n (pc := 93) D10_line_93 rfl ?_
  refine J_tsw (pc := 94) 0 [128, 184, 199, 290, 305] 320 D10_line_94 (by decide) (by decide) rfl (by decide) (by decide) (fun j9 hj9 h94 => ?_) (fun h94 => ?_)
  · have hj5 : j9 < 5 := hj9
    have ej := nI_eqI (by decide) (by omega) h94
    omega
  · exact L10_lb5 hK hD hTP hG b2 h0 e20 e31 e32 e21 hF2
theorem c10_line {K : TK} {L cnt : Nat} (hK : KT K L cnt) {L0 : LL} {M : Nat → MR} {D : Nat} {s : Nat → Int32} {A : Nat → Nat → Int32} {R : RS} (hD : 140 ≤ D) (hTP : TP K.2.2.1 (A 1) L) (h : CRl K L cnt s R.1) (h0 : R.1.2.1 = 0) (hG : GIv s A R) : Tr D 0 0 m10_line [.ref 0] (modW s A L0 M) (lnQ K L cnt L0 M s A (linR K R)) := by
  refine Tr.intro (by decide) rfl ?_
  by_cases k0 : kdR K R = nI 0
  · exact L10_ln0 hK hD hTP h h0 hG k0
  by_cases k1 : kdR K R = nI 1
  · exact L10_ln1 hK hD hTP h h0 hG k1
  by_cases k2 : kdR K R = nI 2
  · exact L10_ln2 hK hD hTP h h0 hG k2
  by_cases k3 : kdR K R = nI 3
  · exact L10_ln3 hK hD hTP h h0 hG k3
  by_cases k4 : kdR K R = nI 4
  · exact L10_ln4 hK hD hTP h h0 hG k4
  by_cases k5 : kdR K R = nI 5
  · exact L10_ln5 hK hD hTP h h0 hG k5
  exact L10_lnN hK (by omega) h h0 (by rintro (z | z | z | z | z | z) <;> contradiction)
