/-! YEARS: a year (own; walks by program wk.py) -/
theorem i01_z {c : Prop} [Decidable c] (h : i01 c = 0) : ¬ c := fun q => absurd (i01_t q ▸ h) (by decide)
theorem i01_nz {c : Prop} [Decidable c] (h : ¬ i01 c = 0) : c := Decidable.byContradiction fun q => h (i01_f q)
def measF (T : TV) (V : CV) (lw b : Nat) : Int32 := if worthF T V lw b = LMIN then nI 1 else (lmax 0 (lmin (worthF T V lw b) 9)).toInt32
theorem c8_measure {d np nb nn : Nat} {y : Int32 × Int32 × Int32} {q : Nat → Int32} {k : Nat → Int64} {T : TV} {V : CV} {lw b : Nat} (hT : WT T np nb nn) (hV : WV V nb) (hb : b < nb) (hl : lw < 3) : Tr (d + 3) 0 0 m8_measure [.ref 0, .int (nI lw), .int (nI b)] (yrsW y q k T V) (yQ y q T V (.int (measF T V lw b))) := by
  refine Tr.intro (by decide) rfl ?_
  refine J_aload_n (pc := 0) D8_measure_0 rfl ?_
  refine J_iload_n (pc := 1) D8_measure_1 rfl ?_
  refine J_iload_n (pc := 2) D8_measure_2 rfl ?_
  refine J_callVT (pc := 3) (ac := [.int _, .int _]) D8_measure_3 m8_worth_v t841 (c8_worth (d := d) hT hV hb hl) (by omega) rfl rfl rfl rfl rfl rfl rfl (fun r w' hq hl => ?_)
  obtain ⟨rfl, k2, rfl⟩ := hq
  refine J_lstore_n (pc := 6) D8_measure_6 rfl ?_
  refine J_lload_n (pc := 7) D8_measure_7 rfl ?_
  refine J_ldc2_w (pc := 8) (v := LMIN) D8_measure_8 t767 ?_
  refine J_lcmp (pc := 11) D8_measure_11 ?_
  refine J_if_ne (pc := 12) (tgt := 19) D8_measure_12 (by decide) (fun h12 => ?_) (fun h12 => ?_)
  · replace h12 := mt (lg_cmp_eq _ _).mpr h12
    refine J_lconst (pc := 19) (v := 0) D8_measure_19 (by decide) ?_
    refine J_lload_n (pc := 20) D8_measure_20 rfl ?_
    refine J_ldc2_w (pc := 21) D8_measure_21 t842 ?_
    refine J_lmin (pc := 24) D8_measure_24 t843 (by omega) rfl rfl rfl ?_
    refine J_lmax (pc := 27) D8_measure_27 t846 (by omega) rfl rfl rfl ?_
    refine J_l2i (pc := 30) D8_measure_30 ?_
    refine J_iret (pc := 31) D8_measure_31 rfl ?_
    exact ⟨congrArg (fun q => some (Value.int q)) (by unfold measF; simp only [h12, ↓reduceIte]), _, rfl⟩
  · replace h12 := (lg_cmp_eq _ _).mp h12
    have h12' := eq_true h12
    refine J_iconst (pc := 15) (v := (nI 1)) D8_measure_15 (by decide) ?_
    refine J_goto (pc := 16) (tgt := 31) D8_measure_16 (by decide) ?_
    refine J_iret (pc := 31) D8_measure_31 rfl ?_
    exact ⟨congrArg (fun q => some (Value.int q)) (by unfold measF; simp only [h12', ↓reduceIte]), _, rfl⟩
def burF (T : TV) (V : CV) (b : Nat) : Int32 := if worthF T V 2 b = LMIN then i01 (V.2.2.2 2 b ≤ nI 2) else i01 (¬ worthF T V 2 b = 0)
theorem c8_bursts {d np nb nn : Nat} {y : Int32 × Int32 × Int32} {q : Nat → Int32} {k : Nat → Int64} {T : TV} {V : CV} {b : Nat} (hT : WT T np nb nn) (hV : WV V nb) (hb : b < nb) : Tr (d + 3) 0 0 m8_bursts [.ref 0, .int (nI b)] (yrsW y q k T V) (yQ y q T V (.int (burF T V b))) := by
  have hnb := hT.2.2.2.2.1
  refine Tr.intro (by decide) rfl ?_
  refine J_aload_n (pc := 0) D8_bursts_0 rfl ?_
  refine J_iconst (pc := 1) (v := (nI 2)) D8_bursts_1 (by decide) ?_
  refine J_iload_n (pc := 2) D8_bursts_2 rfl ?_
  refine J_callVT (pc := 3) (ac := [.int _, .int _]) D8_bursts_3 m8_worth_v t841 (c8_worth (d := d) (lw := 2) hT hV hb (by decide)) (by omega) rfl rfl rfl rfl rfl rfl rfl (fun r w' hq hl => ?_)
  obtain ⟨rfl, k2, rfl⟩ := hq
  refine J_lstore_n (pc := 6) D8_bursts_6 rfl ?_
  refine J_lload_n (pc := 7) D8_bursts_7 rfl ?_
  refine J_ldc2_w (pc := 8) (v := LMIN) D8_bursts_8 t767 ?_
  refine J_lcmp (pc := 11) D8_bursts_11 ?_
  refine J_if_ne (pc := 12) (tgt := 36) D8_bursts_12 (by decide) (fun h12 => ?_) (fun h12 => ?_)
  · replace h12 := mt (lg_cmp_eq _ _).mpr h12
    refine J_lload_n (pc := 36) D8_bursts_36 rfl ?_
    refine J_lconst (pc := 37) (v := 0) D8_bursts_37 (by decide) ?_
    refine J_lcmp (pc := 38) D8_bursts_38 ?_
    refine J_if_eq (pc := 39) (tgt := 46) D8_bursts_39 (by decide) (fun h39 => ?_) (fun h39 => ?_)
    · replace h39 := (lg_cmp_eq _ _).mp h39
      have h39' := eq_true h39
      refine J_iconst (pc := 46) (v := (nI 0)) D8_bursts_46 (by decide) ?_
      refine J_zret (pc := 47) D8_bursts_47 rfl (by decide) ?_
      exact ⟨congrArg (fun q => some (Value.int q)) (by unfold burF; simp only [i01, h12, h39', not_true_eq_false, not_false_eq_true, ↓reduceIte]; try rfl), _, rfl⟩
    · replace h39 := mt (lg_cmp_eq _ _).mpr h39
      refine J_iconst (pc := 42) (v := (nI 1)) D8_bursts_42 (by decide) ?_
      refine J_goto (pc := 43) (tgt := 47) D8_bursts_43 (by decide) ?_
      refine J_zret (pc := 47) D8_bursts_47 rfl (by decide) ?_
      exact ⟨congrArg (fun q => some (Value.int q)) (by unfold burF; simp only [i01, h12, h39, not_true_eq_false, not_false_eq_true, ↓reduceIte]; try rfl), _, rfl⟩
  · replace h12 := (lg_cmp_eq _ _).mp h12
    have h12' := eq_true h12
    refine J_aload_n (pc := 15) D8_bursts_15 rfl ?_
    refine J_getf (pc := 16) D8_bursts_16 fl8_23 rfl rfl ?_
    refine J_getf (pc := 19) D8_bursts_19 fl8_62 rfl rfl ?_
    refine J_iload_n (pc := 22) D8_bursts_22 rfl ?_
    refine J_iald (pc := 23) D8_bursts_23 rfl rfl (by omega) rfl ?_
    refine J_iconst (pc := 24) (v := (nI 2)) D8_bursts_24 (by decide) ?_
    refine J_icmp_gt (pc := 25) (tgt := 32) D8_bursts_25 (by decide) (fun h25 => ?_) (fun h25 => ?_)
    · have h25' := Int32.not_le.mpr h25
      refine J_iconst (pc := 32) (v := (nI 0)) D8_bursts_32 (by decide) ?_
      refine J_goto (pc := 33) (tgt := 47) D8_bursts_33 (by decide) ?_
      refine J_zret (pc := 47) D8_bursts_47 rfl (by decide) ?_
      exact ⟨congrArg (fun q => some (Value.int q)) (by unfold burF; simp only [i01, h12', h25, h25', not_true_eq_false, not_false_eq_true, ↓reduceIte]; try rfl), _, rfl⟩
    · have h25' := Int32.not_lt.mp h25
      refine J_iconst (pc := 28) (v := (nI 1)) D8_bursts_28 (by decide) ?_
      refine J_goto (pc := 29) (tgt := 47) D8_bursts_29 (by decide) ?_
      refine J_zret (pc := 47) D8_bursts_47 rfl (by decide) ?_
      exact ⟨congrArg (fun q => some (Value.int q)) (by unfold burF; simp only [i01, h12', h25, h25', not_true_eq_false, not_false_eq_true, ↓reduceIte]; try rfl), _, rfl⟩
def ranF (l : Int64) : Int64 := (l * 1103515245 + 12345) &&& 2147483647
def thF (y : Int32 × Int32 × Int32) (T : TV) (V : CV) : Int32 × CV :=
  if y.1 = nI 2 then (0, V) else if y.1 = nI 1 then (i01 (nI 50 ≤ T.1 15), V) else if T.1 15 = 0 ∨ T.1 15 = nI 100 then (i01 (T.1 15 = nI 100), V)
  else (i01 (ranF V.2.1 / 65536 - ranF V.2.1 / 65536 / 100 * 100 < (T.1 15).toInt64), (V.1, ranF V.2.1, V.2.2))
theorem c8_isThundering {d : Nat} {y : Int32 × Int32 × Int32} {q : Nat → Int32} {k : Nat → Int64} {T : TV} {V : CV} : Tr d 0 0 m8_isThundering [.ref 0] (yrsW y q k T V) (fun r w' => r = some (.int (thF y T V).1) ∧ w' = yrsW y q k T (thF y T V).2) := by
  refine Tr.intro (by decide) rfl ?_
  refine J_aload_n (pc := 0) D8_isThundering_0 rfl ?_
  refine J_getf (pc := 1) D8_isThundering_1 fl8_27 rfl rfl ?_
  refine J_iconst (pc := 4) (v := (nI 2)) D8_isThundering_4 (by decide) ?_
  refine J_icmp_ne (pc := 5) (tgt := 10) D8_isThundering_5 (by decide) (fun h5 => ?_) (fun h5 => ?_)
  · refine J_aload_n (pc := 10) D8_isThundering_10 rfl ?_
    refine J_getf (pc := 11) D8_isThundering_11 fl8_27 rfl rfl ?_
    refine J_iconst (pc := 14) (v := (nI 1)) D8_isThundering_14 (by decide) ?_
    refine J_icmp_ne (pc := 15) (tgt := 36) D8_isThundering_15 (by decide) (fun h15 => ?_) (fun h15 => ?_)
    · refine J_aload_n (pc := 36) D8_isThundering_36 rfl ?_
      refine J_getf (pc := 37) D8_isThundering_37 fl8_19 rfl rfl ?_
      refine J_getf (pc := 40) D8_isThundering_40 fl8_81 rfl rfl ?_
      refine J_if_eq (pc := 43) (tgt := 58) D8_isThundering_43 (by decide) (fun h43 => ?_) (fun h43 => ?_)
      · have h43' := eq_true h43
        refine J_aload_n (pc := 58) D8_isThundering_58 rfl ?_
        refine J_getf (pc := 59) D8_isThundering_59 fl8_19 rfl rfl ?_
        refine J_getf (pc := 62) D8_isThundering_62 fl8_81 rfl rfl ?_
        refine J_bipush (pc := 65) (v := (nI 100)) D8_isThundering_65 (by decide) ?_
        refine J_icmp_ne (pc := 67) (tgt := 74) D8_isThundering_67 (by decide) (fun h67 => ?_) (fun h67 => absurd h67 (by rw [h43]; decide))
        refine J_iconst (pc := 74) (v := (nI 0)) D8_isThundering_74 (by decide) ?_
        refine J_zret (pc := 75) D8_isThundering_75 rfl (by decide) ?_
        exact ⟨congrArg (fun q => some (Value.int q)) (by unfold thF; simp only [i01, h5, h15, h43', h67, true_or, or_true, or_self, or_false, ↓reduceIte]; try rfl), Eq.trans (b := yrsW y q k T V) rfl (congrArg (yrsW y q k T) (by unfold thF; simp only [i01, h5, h15, h43', h67, true_or, or_true, or_self, or_false, ↓reduceIte]; try rfl))⟩
      · refine J_aload_n (pc := 46) D8_isThundering_46 rfl ?_
        refine J_getf (pc := 47) D8_isThundering_47 fl8_19 rfl rfl ?_
        refine J_getf (pc := 50) D8_isThundering_50 fl8_81 rfl rfl ?_
        refine J_bipush (pc := 53) (v := (nI 100)) D8_isThundering_53 (by decide) ?_
        refine J_icmp_ne (pc := 55) (tgt := 76) D8_isThundering_55 (by decide) (fun h55 => ?_) (fun h55 => ?_)
        · refine J_aload_n (pc := 76) D8_isThundering_76 rfl ?_
          refine J_getf (pc := 77) D8_isThundering_77 fl8_23 rfl rfl ?_
          refine J_aload_n (pc := 80) D8_isThundering_80 rfl ?_
          refine J_getf (pc := 81) D8_isThundering_81 fl8_23 rfl rfl ?_
          refine J_getf (pc := 84) D8_isThundering_84 fl8_84 rfl rfl ?_
          refine J_ldc2_w (pc := 87) D8_isThundering_87 t827 ?_
          refine J_lmul (pc := 90) D8_isThundering_90 ?_
          refine J_ldc2_w (pc := 91) D8_isThundering_91 t828 ?_
          refine J_ladd (pc := 94) D8_isThundering_94 ?_
          refine J_ldc2_w (pc := 95) D8_isThundering_95 t829 ?_
          refine J_land (pc := 98) D8_isThundering_98 ?_
          refine J_genl (fun rr hr0 => ?_)
          have hrr : rr = ranF V.2.1 := hr0
          clear hr0
          refine J_putf (pc := 99) D8_isThundering_99 fp8_84 rfl Fit.long rfl ?_
          refine J_aload_n (pc := 102) D8_isThundering_102 rfl ?_
          refine J_getf (pc := 103) D8_isThundering_103 fl8_23 rfl rfl ?_
          refine J_getf (pc := 106) D8_isThundering_106 fl8_84 rfl rfl ?_
          refine J_ldc2_w (pc := 109) D8_isThundering_109 t830 ?_
          refine J_ldiv (pc := 112) D8_isThundering_112 (by decide) ?_
          refine J_ldc2_w (pc := 113) D8_isThundering_113 t831 ?_
          refine J_lrem (pc := 116) D8_isThundering_116 (by decide) ?_
          refine J_aload_n (pc := 117) D8_isThundering_117 rfl ?_
          refine J_getf (pc := 118) D8_isThundering_118 fl8_19 rfl rfl ?_
          refine J_getf (pc := 121) D8_isThundering_121 fl8_81 rfl rfl ?_
          refine J_i2l (pc := 124) D8_isThundering_124 ?_
          refine J_lcmp (pc := 125) D8_isThundering_125 ?_
          refine J_if_ge (pc := 126) (tgt := 133) D8_isThundering_126 (by decide) (fun h126 => ?_) (fun h126 => ?_)
          · replace h126 := (lg_cmp_ge _ _).mp h126
            have h126' := Int64.not_lt.mpr h126
            refine J_iconst (pc := 133) (v := (nI 0)) D8_isThundering_133 (by decide) ?_
            refine J_zret (pc := 134) D8_isThundering_134 rfl (by decide) ?_
            exact ⟨congrArg (fun q => some (Value.int q)) (by unfold thF; simp only [i01, ← hrr, h5, h15, h43, h55, h126, h126', true_or, or_true, or_self, or_false, ↓reduceIte]; try rfl), Eq.trans (b := yrsW y q k T (V.1, rr, V.2.2)) rfl (congrArg (yrsW y q k T) (by unfold thF; simp only [i01, ← hrr, h5, h15, h43, h55, h126, h126', true_or, or_true, or_self, or_false, ↓reduceIte]; try rfl))⟩
          · replace h126 := mt (lg_cmp_ge _ _).mpr h126
            have h126' := Int64.not_le.mp h126
            refine J_iconst (pc := 129) (v := (nI 1)) D8_isThundering_129 (by decide) ?_
            refine J_goto (pc := 130) (tgt := 134) D8_isThundering_130 (by decide) ?_
            refine J_zret (pc := 134) D8_isThundering_134 rfl (by decide) ?_
            exact ⟨congrArg (fun q => some (Value.int q)) (by unfold thF; simp only [i01, ← hrr, h5, h15, h43, h55, h126, h126', true_or, or_true, or_self, or_false, ↓reduceIte]; try rfl), Eq.trans (b := yrsW y q k T (V.1, rr, V.2.2)) rfl (congrArg (yrsW y q k T) (by unfold thF; simp only [i01, ← hrr, h5, h15, h43, h55, h126, h126', true_or, or_true, or_self, or_false, ↓reduceIte]; try rfl))⟩
        · have h55' := eq_true h55
          refine J_aload_n (pc := 58) D8_isThundering_58 rfl ?_
          refine J_getf (pc := 59) D8_isThundering_59 fl8_19 rfl rfl ?_
          refine J_getf (pc := 62) D8_isThundering_62 fl8_81 rfl rfl ?_
          refine J_bipush (pc := 65) (v := (nI 100)) D8_isThundering_65 (by decide) ?_
          refine J_icmp_ne (pc := 67) (tgt := 74) D8_isThundering_67 (by decide) (fun h67 => absurd h55 h67) (fun h67 => ?_)
          refine J_iconst (pc := 70) (v := (nI 1)) D8_isThundering_70 (by decide) ?_
          refine J_goto (pc := 71) (tgt := 75) D8_isThundering_71 (by decide) ?_
          refine J_zret (pc := 75) D8_isThundering_75 rfl (by decide) ?_
          exact ⟨congrArg (fun q => some (Value.int q)) (by unfold thF; simp only [i01, h5, h15, h43, h55', true_or, or_true, or_self, or_false, ↓reduceIte]; try rfl), Eq.trans (b := yrsW y q k T V) rfl (congrArg (yrsW y q k T) (by unfold thF; simp only [i01, h5, h15, h43, h55', true_or, or_true, or_self, or_false, ↓reduceIte]; try rfl))⟩
    · have h15' := eq_true h15
      refine J_aload_n (pc := 18) D8_isThundering_18 rfl ?_
      refine J_getf (pc := 19) D8_isThundering_19 fl8_19 rfl rfl ?_
      refine J_getf (pc := 22) D8_isThundering_22 fl8_81 rfl rfl ?_
      refine J_bipush (pc := 25) (v := (nI 50)) D8_isThundering_25 (by decide) ?_
      refine J_icmp_lt (pc := 27) (tgt := 34) D8_isThundering_27 (by decide) (fun h27 => ?_) (fun h27 => ?_)
      · have h27' := Int32.not_le.mpr h27
        refine J_iconst (pc := 34) (v := (nI 0)) D8_isThundering_34 (by decide) ?_
        refine J_zret (pc := 35) D8_isThundering_35 rfl (by decide) ?_
        exact ⟨congrArg (fun q => some (Value.int q)) (by unfold thF; simp only [i01, h5, h15', h27, h27', true_or, or_true, or_self, or_false, ↓reduceIte]; try rfl), Eq.trans (b := yrsW y q k T V) rfl (congrArg (yrsW y q k T) (by unfold thF; simp only [i01, h5, h15', h27, h27', true_or, or_true, or_self, or_false, ↓reduceIte]; try rfl))⟩
      · have h27' := Int32.not_lt.mp h27
        refine J_iconst (pc := 30) (v := (nI 1)) D8_isThundering_30 (by decide) ?_
        refine J_goto (pc := 31) (tgt := 35) D8_isThundering_31 (by decide) ?_
        refine J_zret (pc := 35) D8_isThundering_35 rfl (by decide) ?_
        exact ⟨congrArg (fun q => some (Value.int q)) (by unfold thF; simp only [i01, h5, h15', h27, h27', true_or, or_true, or_self, or_false, ↓reduceIte]; try rfl), Eq.trans (b := yrsW y q k T V) rfl (congrArg (yrsW y q k T) (by unfold thF; simp only [i01, h5, h15', h27, h27', true_or, or_true, or_self, or_false, ↓reduceIte]; try rfl))⟩
  · have h5' := eq_true h5
    refine J_iconst (pc := 8) (v := (nI 0)) D8_isThundering_8 (by decide) ?_
    refine J_zret (pc := 9) D8_isThundering_9 rfl (by decide) ?_
    exact ⟨congrArg (fun q => some (Value.int q)) (by unfold thF; simp only [i01, h5', true_or, or_true, or_self, or_false, ↓reduceIte]; try rfl), Eq.trans (b := yrsW y q k T V) rfl (congrArg (yrsW y q k T) (by unfold thF; simp only [i01, h5', true_or, or_true, or_self, or_false, ↓reduceIte]; try rfl))⟩
def crS (T : TV) (V : CV) (b : Nat) : CV := if V.2.2.2 3 b = 0 then (V.1, V.2.1, V.2.2.1, upA V.2.2.2 2 (upd (V.2.2.2 2) b (imax (V.2.2.2 2 b - measF T V 1 b) (nI 0)))) else V
def crL (T : TV) : Nat → Nat → CV → CV
  | 0, _, V => V
  | g + 1, b, V => crL T g (b + 1) (crS T V b)
theorem crS_V {T : TV} {V : CV} {b nb : Nat} (h : WV V nb) : WV (crS T V b) nb := by
  unfold crS
  by_cases q : V.2.2.2 3 b = 0
  · rw [if_pos q]; exact h
  · rw [if_neg q]; exact h
theorem L8_creep {d np nb nn : Nat} {y : Int32 × Int32 × Int32} {q : Nat → Int32} {T : TV} (hT : WT T np nb nn) : ∀ (g b : Nat) (k : Nat → Int64) (V : CV), b + g = nb → WV V nb →
    J m8_creep (d + 4) 0 0 31 15 [(0, .ref 0), (1, .int (nI b))] [] (yrsW y q k T V) 0 0 (fun r w' => r = none ∧ ∃ k', w' = yrsW y q k' T (crL T g b V)) := by
  obtain ⟨-, eb, -, -, hnb, -⟩ := id hT
  intro g
  induction g with
  | zero =>
    intro b k V hb hV
    refine J_iload_n (pc := 15) D8_creep_15 rfl ?_
    refine J_aload_n (pc := 16) D8_creep_16 rfl ?_
    refine J_getf (pc := 17) D8_creep_17 fl8_19 rfl rfl ?_
    refine J_getf (pc := 20) D8_creep_20 fl8_51 rfl rfl ?_
    refine J_icmp_ge (pc := 23) (tgt := 72) D8_creep_23 (by decide) (fun h23 => ?_) (fun h23 => absurd (by rw [eb]; exact nI_le (by omega) (by omega)) h23)
    refine J_vret (pc := 72) D8_creep_72 rfl ?_
    exact ⟨rfl, k, rfl⟩
  | succ g ih =>
    intro b k V hb hV
    refine J_iload_n (pc := 15) D8_creep_15 rfl ?_
    refine J_aload_n (pc := 16) D8_creep_16 rfl ?_
    refine J_getf (pc := 17) D8_creep_17 fl8_19 rfl rfl ?_
    refine J_getf (pc := 20) D8_creep_20 fl8_51 rfl rfl ?_
    refine J_icmp_ge (pc := 23) (tgt := 72) D8_creep_23 (by decide) (fun h23 => absurd h23 (by rw [eb]; exact nI_ge (by omega) (by omega))) (fun h23 => ?_)
    refine J_aload_n (pc := 26) D8_creep_26 rfl ?_
    refine J_getf (pc := 27) D8_creep_27 fl8_23 rfl rfl ?_
    refine J_iload_n (pc := 30) D8_creep_30 rfl ?_
    refine J_callVR (pc := 31) (ι := [21, 22, 23, 24, 25, 26, 27, 28, 29, 30]) (ac := [.int _]) D8_creep_31 m0_isLying_v t836 (c0_isLying (d := d + 3) (V := V) (by omega)) (by omega) rfl rfl ⟨rfl, rfl⟩ rfl rfl (fun _ => rfl) rfl rfl rfl ?_
    refine J_if_eq (pc := 34) (tgt := 66) D8_creep_34 (by decide) (fun h34 => ?_) (fun h34 => ?_)
    · have h34' := eq_true h34
      replace h34 := i01_z h34
      refine J_iinc (pc := 66) D8_creep_66 rfl (nI_inc _) rfl ?_
      refine J_goto (pc := 69) (tgt := 15) D8_creep_69 (by decide) ?_
      refine J_w (w2 := yrsW y q k T (crS T V b)) (by rw [crS, if_neg h34]; try rfl) ?_
      exact ih (b + 1) _ _ (by omega) (crS_V hV)
    · replace h34 := i01_nz h34
      refine J_aload_n (pc := 37) D8_creep_37 rfl ?_
      refine J_getf (pc := 38) D8_creep_38 fl8_23 rfl rfl ?_
      refine J_getf (pc := 41) D8_creep_41 fl8_62 rfl rfl ?_
      refine J_iload_n (pc := 44) D8_creep_44 rfl ?_
      refine J_aload_n (pc := 45) D8_creep_45 rfl ?_
      refine J_getf (pc := 46) D8_creep_46 fl8_23 rfl rfl ?_
      refine J_getf (pc := 49) D8_creep_49 fl8_62 rfl rfl ?_
      refine J_iload_n (pc := 52) D8_creep_52 rfl ?_
      refine J_iald (pc := 53) D8_creep_53 rfl rfl (by omega) rfl ?_
      refine J_aload_n (pc := 54) D8_creep_54 rfl ?_
      refine J_iconst (pc := 55) (v := (nI 1)) D8_creep_55 (by decide) ?_
      refine J_iload_n (pc := 56) D8_creep_56 rfl ?_
      refine J_callVT (pc := 57) (ac := [.int _, .int _]) (rest := [_, _, _]) D8_creep_57 m8_measure_v t837 (c8_measure (d := d) (lw := 1) hT hV (by omega) (by decide)) (by omega) rfl rfl rfl rfl rfl rfl rfl (fun r w' hq hl => ?_)
      obtain ⟨rfl, k2, rfl⟩ := hq
      refine J_isub (pc := 60) D8_creep_60 ?_
      refine J_iconst (pc := 61) (v := (nI 0)) D8_creep_61 (by decide) ?_
      refine J_max (pc := 62) D8_creep_62 t849 (by omega) rfl rfl rfl ?_
      refine J_iast (pc := 65) D8_creep_65 rfl rfl (by omega) rfl ?_
      refine J_iinc (pc := 66) D8_creep_66 rfl (nI_inc _) rfl ?_
      refine J_goto (pc := 69) (tgt := 15) D8_creep_69 (by decide) ?_
      refine J_w (w2 := yrsW y q k2 T (crS T V b)) (by rw [crS, if_pos h34]; try rfl) ?_
      exact ih (b + 1) _ _ (by omega) (crS_V hV)
def agS (T : TV) (V : CV) (b : Nat) : CV := if V.2.2.2 3 b = 0 then (V.1, V.2.1, V.2.2.1, upA V.2.2.2 1 (upd (V.2.2.2 1) b (imin (V.2.2.2 1 b + measF T V 0 b) (nI 199)))) else V
def agL (T : TV) : Nat → Nat → CV → CV
  | 0, _, V => V
  | g + 1, b, V => agL T g (b + 1) (agS T V b)
theorem agS_V {T : TV} {V : CV} {b nb : Nat} (h : WV V nb) : WV (agS T V b) nb := by
  unfold agS
  by_cases q : V.2.2.2 3 b = 0
  · rw [if_pos q]; exact h
  · rw [if_neg q]; exact h
theorem L8_age {d np nb nn : Nat} {y : Int32 × Int32 × Int32} {q : Nat → Int32} {T : TV} (hT : WT T np nb nn) : ∀ (g b : Nat) (k : Nat → Int64) (V : CV), b + g = nb → WV V nb →
    J m8_age (d + 4) 0 0 31 2 [(0, .ref 0), (1, .int (nI b))] [] (yrsW y q k T V) 0 0 (fun r w' => r = none ∧ ∃ k', w' = yrsW y q k' T (agL T g b V)) := by
  obtain ⟨-, eb, -, -, hnb, -⟩ := id hT
  intro g
  induction g with
  | zero =>
    intro b k V hb hV
    refine J_iload_n (pc := 2) D8_age_2 rfl ?_
    refine J_aload_n (pc := 3) D8_age_3 rfl ?_
    refine J_getf (pc := 4) D8_age_4 fl8_19 rfl rfl ?_
    refine J_getf (pc := 7) D8_age_7 fl8_51 rfl rfl ?_
    refine J_icmp_ge (pc := 10) (tgt := 61) D8_age_10 (by decide) (fun h10 => ?_) (fun h10 => absurd (by rw [eb]; exact nI_le (by omega) (by omega)) h10)
    refine J_vret (pc := 61) D8_age_61 rfl ?_
    exact ⟨rfl, k, rfl⟩
  | succ g ih =>
    intro b k V hb hV
    refine J_iload_n (pc := 2) D8_age_2 rfl ?_
    refine J_aload_n (pc := 3) D8_age_3 rfl ?_
    refine J_getf (pc := 4) D8_age_4 fl8_19 rfl rfl ?_
    refine J_getf (pc := 7) D8_age_7 fl8_51 rfl rfl ?_
    refine J_icmp_ge (pc := 10) (tgt := 61) D8_age_10 (by decide) (fun h10 => absurd h10 (by rw [eb]; exact nI_ge (by omega) (by omega))) (fun h10 => ?_)
    refine J_aload_n (pc := 13) D8_age_13 rfl ?_
    refine J_getf (pc := 14) D8_age_14 fl8_23 rfl rfl ?_
    refine J_iload_n (pc := 17) D8_age_17 rfl ?_
    refine J_callVR (pc := 18) (ι := [21, 22, 23, 24, 25, 26, 27, 28, 29, 30]) (ac := [.int _]) D8_age_18 m0_isLying_v t836 (c0_isLying (d := d + 3) (V := V) (by omega)) (by omega) rfl rfl ⟨rfl, rfl⟩ rfl rfl (fun _ => rfl) rfl rfl rfl ?_
    refine J_if_eq (pc := 21) (tgt := 55) D8_age_21 (by decide) (fun h21 => ?_) (fun h21 => ?_)
    · have h21' := eq_true h21
      replace h21 := i01_z h21
      refine J_iinc (pc := 55) D8_age_55 rfl (nI_inc _) rfl ?_
      refine J_goto (pc := 58) (tgt := 2) D8_age_58 (by decide) ?_
      refine J_w (w2 := yrsW y q k T (agS T V b)) (by rw [agS, if_neg h21]; try rfl) ?_
      exact ih (b + 1) _ _ (by omega) (agS_V hV)
    · replace h21 := i01_nz h21
      refine J_aload_n (pc := 24) D8_age_24 rfl ?_
      refine J_getf (pc := 25) D8_age_25 fl8_23 rfl rfl ?_
      refine J_getf (pc := 28) D8_age_28 fl8_110 rfl rfl ?_
      refine J_iload_n (pc := 31) D8_age_31 rfl ?_
      refine J_aload_n (pc := 32) D8_age_32 rfl ?_
      refine J_getf (pc := 33) D8_age_33 fl8_23 rfl rfl ?_
      refine J_getf (pc := 36) D8_age_36 fl8_110 rfl rfl ?_
      refine J_iload_n (pc := 39) D8_age_39 rfl ?_
      refine J_iald (pc := 40) D8_age_40 rfl rfl (by omega) rfl ?_
      refine J_aload_n (pc := 41) D8_age_41 rfl ?_
      refine J_iconst (pc := 42) (v := (nI 0)) D8_age_42 (by decide) ?_
      refine J_iload_n (pc := 43) D8_age_43 rfl ?_
      refine J_callVT (pc := 44) (ac := [.int _, .int _]) (rest := [_, _, _]) D8_age_44 m8_measure_v t837 (c8_measure (d := d) (lw := 0) hT hV (by omega) (by decide)) (by omega) rfl rfl rfl rfl rfl rfl rfl (fun r w' hq hl => ?_)
      obtain ⟨rfl, k2, rfl⟩ := hq
      refine J_iadd (pc := 47) D8_age_47 ?_
      refine J_sipush (pc := 48) (v := (nI 199)) D8_age_48 (by decide) ?_
      refine J_min (pc := 51) D8_age_51 t856 (by omega) rfl rfl rfl ?_
      refine J_iast (pc := 54) D8_age_54 rfl rfl (by omega) rfl ?_
      refine J_iinc (pc := 55) D8_age_55 rfl (nI_inc _) rfl ?_
      refine J_goto (pc := 58) (tgt := 2) D8_age_58 (by decide) ?_
      refine J_w (w2 := yrsW y q k2 T (agS T V b)) (by rw [agS, if_pos h21]; try rfl) ?_
      exact ih (b + 1) _ _ (by omega) (agS_V hV)
theorem c8_age {d np nb nn : Nat} {y : Int32 × Int32 × Int32} {q : Nat → Int32} {k : Nat → Int64} {T : TV} {V : CV} (hT : WT T np nb nn) (hV : WV V nb) : Tr (d + 4) 0 0 m8_age [.ref 0] (yrsW y q k T V) (fun r w' => r = none ∧ ∃ k', w' = yrsW y q k' T (agL T nb 0 V)) := by
  refine Tr.intro (by decide) rfl ?_
  refine J_iconst (pc := 0) (v := (nI 0)) D8_age_0 (by decide) ?_
  refine J_istore_n (pc := 1) D8_age_1 rfl ?_
  exact L8_age hT nb 0 k V (by omega) hV
def creepF (T : TV) (nb : Nat) (V : CV) : CV := crL T nb 0 (V.1, V.2.1, V.2.2.1 + nI 1, V.2.2.2)
theorem c8_creep {d np nb nn : Nat} {y : Int32 × Int32 × Int32} {q : Nat → Int32} {k : Nat → Int64} {T : TV} {V : CV} (hT : WT T np nb nn) (hV : WV V nb) : Tr (d + 4) 0 0 m8_creep [.ref 0] (yrsW y q k T V) (fun r w' => r = none ∧ ∃ k', w' = yrsW y q k' T (creepF T nb V)) := by
  refine Tr.intro (by decide) rfl ?_
  refine J_aload_n (pc := 0) D8_creep_0 rfl ?_
  refine J_getf (pc := 1) D8_creep_1 fl8_23 rfl rfl ?_
  refine J_dup (pc := 4) D8_creep_4 rfl ?_
  refine J_getf (pc := 5) D8_creep_5 fl8_98 rfl rfl ?_
  refine J_iconst (pc := 8) (v := (nI 1)) D8_creep_8 (by decide) ?_
  refine J_iadd (pc := 9) D8_creep_9 ?_
  refine J_putf (pc := 10) D8_creep_10 fp8_98 rfl Fit.int rfl ?_
  refine J_iconst (pc := 13) (v := (nI 0)) D8_creep_13 (by decide) ?_
  refine J_istore_n (pc := 14) D8_creep_14 rfl ?_
  exact L8_creep hT nb 0 k (V.1, V.2.1, V.2.2.1 + nI 1, V.2.2.2) (by omega) hV
