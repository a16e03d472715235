/-! THE MODEL: corks (own program mod_o1.py) -/
/-- which of what is known isn't struck, on both sides -/
def KO (A : Nat → Nat → Int32) (N : NV) (a : Nat → Nat → Int32) (n : Nat) : Prop := (∀ k, k ≠ 6 → k ≠ 7 → a k = N.2.2 k) ∧ ∀ i, i < n → a 7 i = i01 (A 63 i = 0 ∧ N.2.2 5 i = -1)
theorem agB_s {a : Nat → Nat → Int32} {y : Int32} {V : CV} {i : Nat} (h : a 7 i = 0 ∨ ¬ a 2 i = y ∨ a 4 i = i01 (V.2.2.2 3 (a 3 i).toNatClampNeg = nI 2)) : agB a y V i = true := by
  unfold agB
  rcases h with h | h | h
  · rw [decide_eq_true h]; rfl
  · rw [decide_eq_true h]; simp
  · rw [decide_eq_true h]; simp
theorem agF_s {a : Nat → Nat → Int32} {y : Int32} {V : CV} {g i : Nat} (h : agB a y V i = true) : agF a y V (g + 1) i = agF a y V g (i + 1) := by rw [agF, h]; rfl
theorem agF_n {a : Nat → Nat → Int32} {y : Int32} {V : CV} {g i : Nat} (h : agB a y V i = false) : agF a y V (g + 1) i = nI 0 := by rw [agF, h]; rfl
theorem agF_01 {a : Nat → Nat → Int32} {y : Int32} {V : CV} : ∀ g i, agF a y V g i = nI 0 ∨ agF a y V g i = nI 1
  | 0, _ => Or.inr rfl
  | g + 1, i => by
    cases h : agB a y V i with
    | true => rw [agF_s h]; exact agF_01 g (i + 1)
    | false => rw [agF_n h]; exact Or.inl rfl
theorem nar01 {x : Int32} (h : x = nI 0 ∨ x = nI 1) : narrow .boolean (.int x) = .int x := by rcases h with rfl | rfl <;> rfl
theorem L10_isSo {d : Nat} {s : Nat → Int32} {A : Nat → Nat → Int32} {L : LL} {M : Nat → MR} {T : TV} {np nb nn : Nat} (hR : RT A T np nb nn) (hT : WT T np nb nn) {N : NV} {a : Nat → Nat → Int32} {X : CV} {y : Int32} (hN : NR s A N nb) (hO : KO A N a (knN9 N)) (hX : CR False np nb nn (M 1) X) : ∀ (g k : Nat), k + g = knN9 N → J m10_isSo (d + 1) 0 0 40 2 [(0, .ref 0), (1, .int y), (2, .int (nI k))] [] (modW s A L M) 0 0 (fun r w' => w' = modW s A L M ∧ r = some (.int (agF a y X g k))) := by
  have hnb := hT.2.2.2.2.1
  have hnp := hT.2.2.2.1
  have hnn := hT.2.2.2.2.2.1
  have h24 := hN.2.2.1
  have hkn := hN.kn.1
  intro g
  induction g with
  | zero =>
    intro k hk
    refine J_iload_n (pc := 2) D10_isSo_2 rfl ?_
    refine J_aload_n (pc := 3) D10_isSo_3 rfl ?_
    refine J_callVTR (pc := 4) (ac := []) D10_isSo_4 m10_knownMany_v t1856 (c10_knownMany (d := d) hN) (by omega) rfl rfl rfl rfl (fun _ => rfl) rfl rfl rfl ?_
    refine J_icmp_ge (pc := 7) (tgt := 82) D10_isSo_7 (by decide) (fun h7 => ?_) (fun h7 => absurd (nI_le (by omega) (by omega)) h7)
    refine J_iconst (pc := 82) (v := (nI 1)) D10_isSo_82 (by decide) ?_
    refine J_zret (pc := 83) D10_isSo_83 rfl (by decide) ?_
    exact ⟨rfl, rfl⟩
  | succ g ih =>
    intro k hk
    obtain ⟨e62, hcase⟩ := hN.2.2.2.2 k (by omega)
    refine J_iload_n (pc := 2) D10_isSo_2 rfl ?_
    refine J_aload_n (pc := 3) D10_isSo_3 rfl ?_
    refine J_callVTR (pc := 4) (ac := []) D10_isSo_4 m10_knownMany_v t1856 (c10_knownMany (d := d) hN) (by omega) rfl rfl rfl rfl (fun _ => rfl) rfl rfl rfl ?_
    refine J_icmp_ge (pc := 7) (tgt := 82) D10_isSo_7 (by decide) (fun h7 => absurd h7 (nI_ge (by omega) (by omega))) (fun h7 => ?_)
    refine J_aload_n (pc := 10) D10_isSo_10 rfl ?_
    refine J_getf (pc := 11) D10_isSo_11 fl10_133 rfl rfl ?_
    refine J_iload_n (pc := 14) D10_isSo_14 rfl ?_
    refine J_mzld (pc := 15) D10_isSo_15 ma_63 rfl (by omega) rfl ?_
    refine J_if_ne (pc := 16) (tgt := 76) D10_isSo_16 (by decide) (fun h16 => ?_) (fun h16 => ?_)
    · refine J_iinc (pc := 76) D10_isSo_76 rfl (nI_inc _) rfl ?_
      refine J_goto (pc := 79) (tgt := 2) D10_isSo_79 (by decide) ?_
      rw [agF_s (agB_s (Or.inl (by rw [hO.2 k (by omega)]; exact i01_f (fun q => h16 q.1))))]
      exact ih (k + 1) (by omega)
    · have h16' := eq_true h16
      refine J_aload_n (pc := 19) D10_isSo_19 rfl ?_
      refine J_getf (pc := 20) D10_isSo_20 fl10_130 rfl rfl ?_
      refine J_iload_n (pc := 23) D10_isSo_23 rfl ?_
      refine J_mald (pc := 24) D10_isSo_24 ma_62 rfl (by omega) rfl ?_
      refine J_iconst (pc := 25) (v := (-1)) D10_isSo_25 (by decide) ?_
      refine J_icmp_ne (pc := 26) (tgt := 76) D10_isSo_26 (by decide) (fun h26 => ?_) (fun h26 => ?_)
      · refine J_iinc (pc := 76) D10_isSo_76 rfl (nI_inc _) rfl ?_
        refine J_goto (pc := 79) (tgt := 2) D10_isSo_79 (by decide) ?_
        rw [agF_s (agB_s (Or.inl (by rw [hO.2 k (by omega)]; exact i01_f (fun q => h26 (e62.trans q.2)))))]
        exact ih (k + 1) (by omega)
      · have h26' := eq_true h26
        have hc9 : N.2.2 5 k = -1 := e62.symm.trans h26
        have hc8 := hcase.resolve_right (fun ⟨j, hj, ej, _⟩ => nI_nm (b := j) (by omega) (ej.symm.trans hc9))
        obtain ⟨-, q2, q3, q4, -, ⟨b, hb, eb⟩, -⟩ := hc8
        have eoff := hX.off hb
        refine J_aload_n (pc := 29) D10_isSo_29 rfl ?_
        refine J_getf (pc := 30) D10_isSo_30 fl10_120 rfl rfl ?_
        refine J_iload_n (pc := 33) D10_isSo_33 rfl ?_
        refine J_mald (pc := 34) D10_isSo_34 ma_59 rfl (by omega) rfl ?_
        refine J_iload_n (pc := 35) D10_isSo_35 rfl ?_
        refine J_icmp_eq (pc := 36) (tgt := 42) D10_isSo_36 (by decide) (fun h36 => ?_) (fun h36 => ?_)
        · have h36' := eq_true h36
          refine J_aload_n (pc := 42) D10_isSo_42 rfl ?_
          refine J_getf (pc := 43) D10_isSo_43 fl10_96 rfl rfl ?_
          refine J_bipush (pc := 46) (v := (nI 10)) D10_isSo_46 (by decide) ?_
          refine J_aload_n (pc := 48) D10_isSo_48 rfl ?_
          refine J_getf (pc := 49) D10_isSo_49 fl10_123 rfl rfl ?_
          refine J_iload_n (pc := 52) D10_isSo_52 rfl ?_
          refine J_mald (pc := 53) D10_isSo_53 ma_60 rfl (by omega) rfl ?_
          refine J_st (.int (nI b) :: .int (nI 10) :: .ref 28 :: []) (by rw [q3, eb]) ?_
          refine J_iadd (pc := 54) D10_isSo_54 ?_
          refine J_mcld (pc := 55) (stp := 10) D10_isSo_55 mc_3 (ix1 _ _) (by omega) (by omega) rfl ?_
          refine J_iconst (pc := 56) (v := (nI 2)) D10_isSo_56 (by decide) ?_
          refine J_icmp_ne (pc := 57) (tgt := 64) D10_isSo_57 (by decide) (fun h57 => ?_) (fun h57 => ?_)
          · refine J_iconst (pc := 64) (v := (nI 0)) D10_isSo_64 (by decide) ?_
            refine J_aload_n (pc := 65) D10_isSo_65 rfl ?_
            refine J_getf (pc := 66) D10_isSo_66 fl10_126 rfl rfl ?_
            refine J_iload_n (pc := 69) D10_isSo_69 rfl ?_
            refine J_mzld (pc := 70) D10_isSo_70 ma_61 rfl (by omega) rfl ?_
            refine J_icmp_eq (pc := 71) (tgt := 76) D10_isSo_71 (by decide) (fun h71 => ?_) (fun h71 => ?_)
            · have h71' := eq_true h71
              refine J_iinc (pc := 76) D10_isSo_76 rfl (nI_inc _) rfl ?_
              refine J_goto (pc := 79) (tgt := 2) D10_isSo_79 (by decide) ?_
              rw [agF_s (agB_s (Or.inr (Or.inr (by rw [hO.1 4 (by decide) (by decide), hO.1 3 (by decide) (by decide), eb, nI_clamp (by omega), ← q4, i01_f (fun q => h57 (eoff.mpr q))]; exact h71.symm))))]
              exact ih (k + 1) (by omega)
            · refine J_iconst (pc := 74) (v := (nI 0)) D10_isSo_74 (by decide) ?_
              refine J_zret (pc := 75) D10_isSo_75 rfl (by decide) ?_
              exact ⟨rfl, congrArg (fun q => some (Value.int q)) (by
                refine (agF_n ?_).symm
                have a7 : ¬ a 7 k = 0 := by rw [hO.2 k (by omega), i01_t ⟨h16, e62.symm.trans h26⟩]; decide
                have a2 : a 2 k = y := by rw [hO.1 2 (by decide) (by decide), ← q2]; exact h36
                have a4 : ¬ a 4 k = i01 (X.2.2.2 3 (a 3 k).toNatClampNeg = nI 2) := by
                  rw [hO.1 4 (by decide) (by decide), hO.1 3 (by decide) (by decide), eb, nI_clamp (by omega), ← q4, i01_f (fun q => h57 (eoff.mpr q))]
                  exact fun q => h71 q.symm
                unfold agB
                rw [decide_eq_false a7, decide_eq_false (fun q => q a2), decide_eq_false a4]
                rfl)⟩
          · have h57' := eq_true h57
            refine J_iconst (pc := 60) (v := (nI 1)) D10_isSo_60 (by decide) ?_
            refine J_goto (pc := 61) (tgt := 65) D10_isSo_61 (by decide) ?_
            refine J_aload_n (pc := 65) D10_isSo_65 rfl ?_
            refine J_getf (pc := 66) D10_isSo_66 fl10_126 rfl rfl ?_
            refine J_iload_n (pc := 69) D10_isSo_69 rfl ?_
            refine J_mzld (pc := 70) D10_isSo_70 ma_61 rfl (by omega) rfl ?_
            refine J_icmp_eq (pc := 71) (tgt := 76) D10_isSo_71 (by decide) (fun h71 => ?_) (fun h71 => ?_)
            · have h71' := eq_true h71
              refine J_iinc (pc := 76) D10_isSo_76 rfl (nI_inc _) rfl ?_
              refine J_goto (pc := 79) (tgt := 2) D10_isSo_79 (by decide) ?_
              rw [agF_s (agB_s (Or.inr (Or.inr (by rw [hO.1 4 (by decide) (by decide), hO.1 3 (by decide) (by decide), eb, nI_clamp (by omega), ← q4, i01_t (eoff.mp h57)]; exact h71.symm))))]
              exact ih (k + 1) (by omega)
            · refine J_iconst (pc := 74) (v := (nI 0)) D10_isSo_74 (by decide) ?_
              refine J_zret (pc := 75) D10_isSo_75 rfl (by decide) ?_
              exact ⟨rfl, congrArg (fun q => some (Value.int q)) (by
                refine (agF_n ?_).symm
                have a7 : ¬ a 7 k = 0 := by rw [hO.2 k (by omega), i01_t ⟨h16, e62.symm.trans h26⟩]; decide
                have a2 : a 2 k = y := by rw [hO.1 2 (by decide) (by decide), ← q2]; exact h36
                have a4 : ¬ a 4 k = i01 (X.2.2.2 3 (a 3 k).toNatClampNeg = nI 2) := by
                  rw [hO.1 4 (by decide) (by decide), hO.1 3 (by decide) (by decide), eb, nI_clamp (by omega), ← q4, i01_t (eoff.mp h57)]
                  exact fun q => h71 q.symm
                unfold agB
                rw [decide_eq_false a7, decide_eq_false (fun q => q a2), decide_eq_false a4]
                rfl)⟩
        · refine J_goto (pc := 39) (tgt := 76) D10_isSo_39 (by decide) ?_
          refine J_iinc (pc := 76) D10_isSo_76 rfl (nI_inc _) rfl ?_
          refine J_goto (pc := 79) (tgt := 2) D10_isSo_79 (by decide) ?_
          rw [agF_s (agB_s (Or.inr (Or.inl (by rw [hO.1 2 (by decide) (by decide), ← q2]; exact h36))))]
          exact ih (k + 1) (by omega)
theorem c10_isSo {d : Nat} {s : Nat → Int32} {A : Nat → Nat → Int32} {L : LL} {M : Nat → MR} {T : TV} {np nb nn : Nat} (hR : RT A T np nb nn) (hT : WT T np nb nn) {N : NV} {a : Nat → Nat → Int32} {X : CV} {y : Int32} (hN : NR s A N nb) (hO : KO A N a (knN9 N)) (hX : CR False np nb nn (M 1) X) : TR (d + 1) m10_isSo [.ref 0, .int y] (modW s A L M) (.int (agF a y X (knN9 N) 0)) := by
  refine Tr.intro (by decide) rfl ?_
  refine J_iconst (pc := 0) (v := (nI 0)) D10_isSo_0 (by decide) ?_
  refine J_istore_n (pc := 1) D10_isSo_1 rfl ?_
  exact L10_isSo hR hT hN hO hX (knN9 N) 0 (by omega)
def fcQ (s : Nat → Int32) (A : Nat → Nat → Int32) (M : Nat → MR) (v : Int32) : Option Value → List EC → Prop := fun r w' => r = some (.int v) ∧ ∃ s' A' L' M', w' = modW s' A' L' M' ∧ SC s A s' A' ∧ ∀ i, i ≠ 1 → M' i = M i
theorem SC.nr {s s' : Nat → Int32} {A A' : Nat → Nat → Int32} {N : NV} {nb : Nat} (h : SC s A s' A') (hN : NR s A N nb) : NR s' A' N nb := hN.c (h.1 57 (by decide)) (h.1 58 (by decide)) (fun k hk => h.2 k (by omega))
theorem SC.ko {s s' : Nat → Int32} {A A' : Nat → Nat → Int32} {N : NV} {a : Nat → Nat → Int32} {n : Nat} (h : SC s A s' A') (hO : KO A N a n) : KO A' N a n := ⟨hO.1, fun i hi => by rw [h.2 63 (by decide)]; exact hO.2 i hi⟩
theorem L10_fits {d : Nat} {T : TV} {np nb nn : Nat} {s0 : Nat → Int32} {A0 : Nat → Nat → Int32} {M0 : Nat → MR} (hR0 : RT A0 T np nb nn) (hT : WT T np nb nn) (h48 : s0 48 = 0) {N : NV} {a : Nat → Nat → Int32} (hN0 : NR s0 A0 N nb) (hO0 : KO A0 N a (knN9 N)) {L0 b : Nat} {ck : Int32} (hL : L0 ≤ 60) : ∀ (g y : Nat) (X : CV) (s : Nat → Int32) (A : Nat → Nat → Int32) (L : LL) (M : Nat → MR), y + g = L0 + 1 → IV False np nb nn 1 s0 A0 M0 s A M X → J m10_fitsCork (d + 6) 0 0 40 18 [(0, .ref 0), (1, .int (nI b)), (2, .int ck), (3, .int (nI L0)), (4, .int (nI y))] [] (modW s A L M) 0 0 (fcQ s0 A0 M0 (cwL T a (knN9 N) nb nn g y X)) := by
  intro g
  induction g with
  | zero =>
    intro y X s A L M hy hI
    refine J_iload (pc := 18) D10_fitsCork_18 rfl ?_
    refine J_iload_n (pc := 20) D10_fitsCork_20 rfl ?_
    refine J_icmp_gt (pc := 21) (tgt := 47) D10_fitsCork_21 (by decide) (fun h21 => ?_) (fun h21 => absurd (nI_lt (by omega) (by omega)) h21)
    refine J_iconst (pc := 47) (v := (nI 1)) D10_fitsCork_47 (by decide) ?_
    refine J_zret (pc := 48) D10_fitsCork_48 rfl (by decide) ?_
    exact ⟨rfl, s, A, L, M, rfl, hI.1, hI.2.1⟩
  | succ g ih =>
    intro y X s A L M hy hI
    have hR := hI.1.rt hR0
    refine J_iload (pc := 18) D10_fitsCork_18 rfl ?_
    refine J_iload_n (pc := 20) D10_fitsCork_20 rfl ?_
    refine J_icmp_gt (pc := 21) (tgt := 47) D10_fitsCork_21 (by decide) (fun h21 => absurd h21 (Int32.not_lt.mpr (nI_le (by omega) (by omega)))) (fun h21 => ?_)
    refine J_aload_n (pc := 24) D10_fitsCork_24 rfl ?_
    refine J_iconst (pc := 25) (v := (nI 1)) D10_fitsCork_25 (by decide) ?_
    refine J_iconst (pc := 26) (v := (nI 0)) D10_fitsCork_26 (by decide) ?_
    refine J_callVT (pc := 27) (ac := [.int _, .int _]) D10_fitsCork_27 m10_passes_v t1671 (c10_passes (d := d) hR hT (c := 1) (by decide) hI.2.2 (RY.y1 (by rw [hI.1.1 48 (by decide)]; exact h48))) (by omega) rfl rfl rfl rfl rfl rfl rfl (fun r w' hq hl => ?_)
    obtain ⟨rfl, s2, A2, L2, M2, rfl, hs2, hM2, hC2⟩ := hq
    have hR2 := hs2.rt hR
    have hI2 := hI.go hs2 hM2 hC2
    refine J_aload_n (pc := 30) D10_fitsCork_30 rfl ?_
    refine J_iload (pc := 31) D10_fitsCork_31 rfl ?_
    refine J_callVTR (pc := 33) (ac := [.int _]) D10_fitsCork_33 m10_isSo_v t1864 (c10_isSo (d := d + 4) hR2 hT (hI2.1.nr hN0) (hI2.1.ko hO0) hC2) (by omega) rfl rfl rfl rfl (fun _ => rfl) rfl rfl rfl ?_
    refine J_if_ne (pc := 36) (tgt := 41) D10_fitsCork_36 (by decide) (fun h36 => ?_) (fun h36 => ?_)
    · refine J_iinc (pc := 41) D10_fitsCork_41 rfl (nI_inc _) rfl ?_
      refine J_goto (pc := 44) (tgt := 18) D10_fitsCork_44 (by decide) ?_
      rw [cwL, if_neg h36]
      exact ih (y + 1) _ _ _ _ _ (by omega) hI2
    · have h36' := eq_true h36
      refine J_iconst (pc := 39) (v := (nI 0)) D10_fitsCork_39 (by decide) ?_
      refine J_zret (pc := 40) D10_fitsCork_40 rfl (by decide) ?_
      exact ⟨congrArg (fun q => some (Value.int q)) (by rw [cwL, if_pos h36]), s2, A2, L2, M2, rfl, hI2.1, hI2.2.1⟩
theorem c10_fitsCork {d : Nat} {s : Nat → Int32} {A : Nat → Nat → Int32} {L : LL} {M : Nat → MR} {T : TV} {np nb nn : Nat} (hR : RT A T np nb nn) (hT : WT T np nb nn) {N : NV} {a : Nat → Nat → Int32} (hN : NR s A N nb) (hO : KO A N a (knN9 N)) (h48 : s 48 = 0) {L0 b : Nat} {ck : Int32} (hb : b < nb) (hL : L0 ≤ 60) (V0 : CV) : Tr (d + 6) 0 0 m10_fitsCork [.ref 0, .int (nI b), .int ck, .int (nI L0)] (modW s A L M) (fcQ s A M (cwL T a (knN9 N) nb nn L0 1 (coV (layF T nb V0) b ck))) := by
  have hnb := hT.2.2.2.2.1
  have hnp := hT.2.2.2.1
  have hnn := hT.2.2.2.2.2.1
  refine Tr.intro (by decide) rfl ?_
  refine J_aload_n (pc := 0) D10_fitsCork_0 rfl ?_
  refine J_iconst (pc := 1) (v := (nI 1)) D10_fitsCork_1 (by decide) ?_
  refine J_callVT (pc := 2) (ac := [.int _]) D10_fitsCork_2 m10_starts_v t1222 (c10_starts (d := d + 5) (c := 1) (by decide) hnb hR.2.1) (by omega) rfl rfl rfl rfl rfl rfl rfl (fun r w' hq hl => ?_)
  obtain ⟨rfl, M1, rfl, hSI⟩ := hq
  have hC1 : CR False np nb nn (M1 1) (layF T nb V0) := hSI.cr hR hT
  refine J_aload_n (pc := 5) D10_fitsCork_5 rfl ?_
  refine J_getf (pc := 6) D10_fitsCork_6 fl10_90 rfl rfl ?_
  refine J_bipush (pc := 9) (v := (nI 10)) D10_fitsCork_9 (by decide) ?_
  refine J_iload_n (pc := 11) D10_fitsCork_11 rfl ?_
  refine J_iadd (pc := 12) D10_fitsCork_12 ?_
  refine J_iload_n (pc := 13) D10_fitsCork_13 rfl ?_
  refine J_mcst (pc := 14) (stp := 10) D10_fitsCork_14 mc_2 (ix1 _ _) (by omega) (by omega) rfl ?_
  refine J_iconst (pc := 15) (v := (nI 1)) D10_fitsCork_15 (by decide) ?_
  refine J_istore (pc := 16) D10_fitsCork_16 rfl ?_
  exact L10_fits hR hT h48 hN hO hL L0 1 _ _ _ _ _ (by omega) ⟨SC.rf, fun i hi => (upM_n hi).trans (hSI.1 i hi), by rw [upM_s]; exact hC1.val2 b ck⟩
