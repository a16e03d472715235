/-! THE LAW'S LOOP (own program mod_s1.py) -/
theorem LOK.w {L : Nat} {xs : Nat → Int32} {i k n k2 n2 : Nat} (h : LOK L xs i k2 n2) (h1 : k ≤ k2) (h2 : n ≤ n2) : LOK L xs i k n := fun _ _ _ _ _ _ _ _ _ _ _ _ _ _ _ _ _ _ _ _ _ hR => L_wide h1 h2 (h _ _ _ _ _ _ _ _ _ _ _ _ _ _ _ _ _ _ _ _ _ hR)
/-- the case of bottle -/
def CS4 (L : Nat) (xs : Nat → Int32) : Prop := ∀ {i k n : Nat} (_ : L ≤ 3072) (_ : i + 6 ≤ L) (_ : k + 1 ≤ 601024) (_ : n + 6 ≤ 7293034) (_ : LOK L xs i (k + 1) (n + 6)) {t np nb nn : Nat} {hi : Int32} {T : TV} {V : CV} {S : SB} {U : UV} {N : NV} {E : EV} {R : Nat → Int32} {I : CV} {K : TK} {G : GV} {X : TV} {s : Nat → Int32} {A : Nat → Nat → Int32} {LL1 : LL} {M : Nat → MR} {f : Nat → Int64} (_ : REL t np nb nn hi T V U N I K G s A M), JL L xs 360 (lsL i) [] (ZW t hi T V S U N E R I K G X s A LL1 M f) k n
theorem len6 {L i : Nat} (hL : L ≤ 3072) (hi : i ≤ 3080) (h : ¬ nI L - nI 6 < nI i) : i + 6 ≤ L := by
  by_cases h6 : 6 ≤ L
  · have e : nI L - nI 6 = nI (L - 6) := by
      have := nI_addN (L - 6) 6
      rw [show L - 6 + 6 = L by omega] at this
      rw [← this, Int32.add_sub_cancel]
    rw [e] at h
    have := Int32.not_lt.mp h
    by_cases h7 : i + 6 ≤ L
    · exact h7
    · exact absurd (nI_lt (show L - 6 < i by omega) (by omega)) h
  · have h8 : nI L - nI 6 < 0 := by
      rcases (show L = 0 ∨ L = 1 ∨ L = 2 ∨ L = 3 ∨ L = 4 ∨ L = 5 by omega) with rfl | rfl | rfl | rfl | rfl | rfl <;> decide
    have h9 : ¬ nI i < 0 := nI_pos (by omega)
    exact absurd (Int32.lt_of_lt_of_le h8 (Int32.not_lt.mp h9)) h
theorem L_switch {L : Nat} {xs : Nat → Int32} {i k n : Nat} (hL : L ≤ 3072) (hi6 : i + 6 ≤ L) (hk : k + 1 ≤ 601024) (hn : n + 6 ≤ 7293034) (h4 : CS4 L xs) (ok : LOK L xs i (k + 1) (n + 6)) {t np nb nn : Nat} {hi : Int32} {T : TV} {V : CV} {S : SB} {U : UV} {N : NV} {E : EV} {R : Nat → Int32} {I : CV} {K : TK} {G : GV} {X : TV} {s : Nat → Int32} {A : Nat → Nat → Int32} {LL1 : LL} {M : Nat → MR} {f : Nat → Int64} (h : REL t np nb nn hi T V U N I K G s A M) : JL L xs 33 (lsL i) [] (ZW t hi T V S U N E R I K G X s A LL1 M f) k n := by
  have ok2 : LOK L xs i k n := ok.w (by omega) (by omega)
  have hk2 : k ≤ 601024 := by omega
  have hn2 : n ≤ 7293034 := by omega
  refine L_aloadS (pc := 33) DL_33 rfl ?_
  refine L_iload (pc := 34) DL_34 rfl ?_
  refine L_sld (pc := 36) (i := i) DL_36 rfl (by omega) (by omega) ?_
  refine L_bipush (pc := 37) (v := nI 63) DL_37 (by decide) ?_
  refine L_iand (pc := 39) DL_39 ?_
  refine L_tsw (pc := 40) 0 [200, 273, 298, 323, 360, 428, 465, 502, 527, 565, 602, 627, 652, 677, 726, 751, 776, 813, 838, 851, 888, 925, 962, 975, 1012, 1061, 1111, 1176, 1201, 1226, 1251, 1300, 1349, 1362, 1375, 1388] 1413 DL_40 rfl rfl rfl (by decide +kernel) (by decide) (fun j hj _ => ?_) (fun _ => ok2 _ _ _ _ _ _ _ _ _ _ _ _ _ _ _ _ _ _ _ _ _ h)
  have hj : j < 36 := hj
  match j, hj with
  | 0, _ => exact cs_0 hL hi6 hk2 hn2 ok2 h
  | 1, _ => exact cs_1 hL hi6 hk2 hn2 ok2 h
  | 2, _ => exact cs_2 hL hi6 hk2 hn2 ok2 h
  | 3, _ => exact cs_3 hL hi6 hk2 hn2 ok2 h
  | 4, _ => exact h4 hL hi6 hk hn ok h
  | 5, _ => exact cs_5 hL hi6 hk2 hn2 ok2 h
  | 6, _ => exact cs_6 hL hi6 hk2 hn2 ok2 h
  | 7, _ => exact cs_7 hL hi6 hk2 hn2 ok2 h
  | 8, _ => exact cs_8 hL hi6 hk2 hn2 ok2 h
  | 9, _ => exact cs_9 hL hi6 hk2 hn2 ok2 h
  | 10, _ => exact cs_10 hL hi6 hk2 hn2 ok2 h
  | 11, _ => exact cs_11 hL hi6 hk2 hn2 ok2 h
  | 12, _ => exact cs_12 hL hi6 hk2 hn2 ok2 h
  | 13, _ => exact cs_13 hL hi6 hk2 hn2 ok2 h
  | 14, _ => exact cs_14 hL hi6 hk2 hn2 ok2 h
  | 15, _ => exact cs_15 hL hi6 hk2 hn2 ok2 h
  | 16, _ => exact cs_16 hL hi6 hk2 hn2 ok2 h
  | 17, _ => exact cs_17 hL hi6 hk2 hn2 ok2 h
  | 18, _ => exact cs_18 hL hi6 hk2 hn2 ok2 h
  | 19, _ => exact cs_19 hL hi6 hk2 hn2 ok2 h
  | 20, _ => exact cs_20 hL hi6 hk2 hn2 ok2 h
  | 21, _ => exact cs_21 hL hi6 hk2 hn2 ok2 h
  | 22, _ => exact cs_22 hL hi6 hk2 hn2 ok2 h
  | 23, _ => exact cs_23 hL hi6 hk2 hn2 ok2 h
  | 24, _ => exact cs_24 hL hi6 hk2 hn2 ok2 h
  | 25, _ => exact cs_25 hL hi6 hk2 hn2 ok2 h
  | 26, _ => exact cs_26 hL hi6 hk2 hn2 ok2 h
  | 27, _ => exact cs_27 hL hi6 hk2 hn2 ok2 h
  | 28, _ => exact cs_28 hL hi6 hk2 hn2 ok2 h
  | 29, _ => exact cs_29 hL hi6 hk2 hn2 ok2 h
  | 30, _ => exact cs_30 hL hi6 hk2 hn2 ok2 h
  | 31, _ => exact cs_31 hL hi6 hk2 hn2 ok2 h
  | 32, _ => exact cs_32 hL hi6 hk2 hn2 ok2 h
  | 33, _ => exact cs_33 hL hi6 hk2 hn2 ok2 h
  | 34, _ => exact cs_34 hL hi6 hk2 hn2 ok2 h
  | 35, _ => exact cs_35 hL hi6 hk2 hn2 ok2 h
  | j + 36, hj => exact absurd hj (by omega)
theorem L_loop {L : Nat} {xs : Nat → Int32} (hL : L ≤ 3072) (h4 : CS4 L xs) : ∀ (g i k n : Nat), L < i + g → i ≤ 3078 → k ≤ 131 + i → n ≤ 16118 + 6 * i → ∀ {t np nb nn : Nat} {hi : Int32} {T : TV} {V : CV} {S : SB} {U : UV} {N : NV} {E : EV} {R : Nat → Int32} {I : CV} {K : TK} {G : GV} {X : TV} {s : Nat → Int32} {A : Nat → Nat → Int32} {LL1 : LL} {M : Nat → MR} {f : Nat → Int64}, REL t np nb nn hi T V U N I K G s A M → JL L xs 23 (lsL i) [] (ZW t hi T V S U N E R I K G X s A LL1 M f) k n := by
  intro g
  induction g with
  | zero =>
      intro i k n hg hi hk hn t np nb nn hi9 T V S U N E R I K G X s A LL1 M f h
      refine L_iload (pc := 23) DL_23 rfl ?_
      refine L_aloadS (pc := 25) DL_25 rfl ?_
      refine L_slen (pc := 26) DL_26 ?_
      refine L_bipush (pc := 27) (v := nI 6) DL_27 (by decide) ?_
      refine L_isub (pc := 29) DL_29 ?_
      refine L_icmp_gt (pc := 30) (tgt := 1419) DL_30 (by decide) (fun _ => ?_) (fun hc => absurd (len6 hL (by omega) hc) (by omega))
      refine L_iconst (pc := 1419) (v := 1) DL_1419 (by decide) ?_
      exact L_ret (pc := 1420) DL_1420 (by omega) (by omega)
  | succ g ih =>
      intro i k n hg hi hk hn t np nb nn hi9 T V S U N E R I K G X s A LL1 M f h
      refine L_iload (pc := 23) DL_23 rfl ?_
      refine L_aloadS (pc := 25) DL_25 rfl ?_
      refine L_slen (pc := 26) DL_26 ?_
      refine L_bipush (pc := 27) (v := nI 6) DL_27 (by decide) ?_
      refine L_isub (pc := 29) DL_29 ?_
      refine L_icmp_gt (pc := 30) (tgt := 1419) DL_30 (by decide) (fun _ => ?_) (fun hc => ?_)
      · refine L_iconst (pc := 1419) (v := 1) DL_1419 (by decide) ?_
        exact L_ret (pc := 1420) DL_1420 (by omega) (by omega)
      · have hi6 := len6 hL (by omega) hc
        refine L_switch hL hi6 (by omega) (by omega) h4 ?_ h
        intro t1 np1 nb1 nn1 hi1 T1 V1 S1 U1 N1 E1 R1 I1 K1 G1 X1 s1 A1 LL2 M1 f1 h1
        refine L_iinc (pc := 1413) (v := nI (i + 6)) DL_1413 rfl (nI_addN i 6) rfl ?_
        refine L_goto (pc := 1416) (tgt := 23) DL_1416 (by decide) ?_
        refine L_lk (lsL (i + 6)) rfl ?_
        exact ih (i + 6) (k + 1) (n + 6) (by omega) (by omega) (by omega) (by omega) h1
