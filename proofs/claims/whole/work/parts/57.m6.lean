/-! THE MODEL: a year (own program mod_m6.py) -/
theorem imax_c (x y : Int32) : imax x y = imax y x := by
  unfold imax
  by_cases h : x < y
  · rw [if_pos h, if_neg (fun z => Int32.lt_irrefl (Int32.lt_trans h z))]
  · rw [if_neg h]
    by_cases z : y < x
    · rw [if_pos z]
    · rw [if_neg z]; exact Int32.le_antisymm (Int32.not_lt.mp z) (Int32.not_lt.mp h)
theorem imin_c (x y : Int32) : imin x y = imin y x := by
  unfold imin
  by_cases h : y < x
  · rw [if_pos h, if_neg (fun z => Int32.lt_irrefl (Int32.lt_trans h z))]
  · rw [if_neg h]
    by_cases z : x < y
    · rw [if_pos z]
    · rw [if_neg z]; exact Int32.le_antisymm (Int32.not_lt.mp h) (Int32.not_lt.mp z)
theorem lmx (x : Int64) : ∃ f, f ≤ 9 ∧ (lmax 0 (lmin x 9)).toInt32 = nI f := by
  have h : 0 ≤ (lmax 0 (lmin x 9)).toInt ∧ (lmax 0 (lmin x 9)).toInt ≤ 9 := by
    unfold lmax lmin
    have e9 : (9 : Int64).toInt = 9 := rfl
    have e0 : (0 : Int64).toInt = 0 := rfl
    by_cases h1 : 9 < x
    · rw [if_pos h1, if_neg (by decide), e9]; omega
    · rw [if_neg h1]
      by_cases h2 : x < 0
      · rw [if_pos h2, e0]; omega
      · rw [if_neg h2]
        rw [Int64.lt_iff_toInt_lt, e9] at h1
        rw [Int64.lt_iff_toInt_lt, e0] at h2
        omega
  refine ⟨(lmax 0 (lmin x 9)).toInt.toNat, by omega, ?_⟩
  apply Int32.toInt_inj.mp
  rw [Int64.toInt_toInt32, nI_toInt (by omega), Int.bmod_eq_of_le (by omega) (by omega)]
  omega
theorem measF_b (T : TV) (V : CV) (lw b : Nat) : ∃ f, f ≤ 9 ∧ measF T V lw b = nI f := by
  unfold measF
  split
  · exact ⟨1, by omega, rfl⟩
  · exact lmx _
theorem imin_b {x y : Int32} (hx : ∃ f, f ≤ 199 ∧ x = nI f) (hy : ∃ f, f ≤ 9 ∧ y = nI f) : ∃ f, f ≤ 199 ∧ imin (nI 199) (x + y) = nI f := by
  obtain ⟨f, hf, rfl⟩ := hx
  obtain ⟨g, hg, rfl⟩ := hy
  rw [nI_add]
  unfold imin
  by_cases h : nI (f + g) < nI 199
  · rw [if_pos h]; exact ⟨f + g, by have := (nI_ltI (by omega) (by omega)).mp h; omega, rfl⟩
  · rw [if_neg h]; exact ⟨199, Nat.le_refl _, rfl⟩
theorem crS_p {T : TV} {V : CV} {b : Nat} (h : V.2.2.2 3 b = 0) : crS T V b = (V.1, V.2.1, V.2.2.1, upA V.2.2.2 2 (upd (V.2.2.2 2) b (imax (V.2.2.2 2 b - measF T V 1 b) (nI 0)))) := if_pos h
theorem agS_p {T : TV} {V : CV} {b : Nat} (h : V.2.2.2 3 b = 0) : agS T V b = (V.1, V.2.1, V.2.2.1, upA V.2.2.2 1 (upd (V.2.2.2 1) b (imin (V.2.2.2 1 b + measF T V 0 b) (nI 199)))) := if_pos h
theorem L10_creeps {d : Nat} {T : TV} {np nb nn c : Nat} {σ : Prop} {s0 : Nat → Int32} {A0 : Nat → Nat → Int32} {M0 : Nat → MR} (hR0 : RT A0 T np nb nn) (hT : WT T np nb nn) (hc : c < 23) : ∀ (g b : Nat) (V : CV) (s : Nat → Int32) (A : Nat → Nat → Int32) (L : LL) (M : Nat → MR), b + g = nb → IV σ np nb nn c s0 A0 M0 s A M V → J m10_creeps (d + 4) 0 0 40 12 [(0, .ref 0), (1, .int (nI c)), (2, .int (nI b))] [] (modW s A L M) 0 0 (mQ c s0 A0 M0 (fun m => CR σ np nb nn m (crL T g b V))) := by
  have hnb := hT.2.2.2.2.1
  have hnp := hT.2.2.2.1
  have hnn := hT.2.2.2.2.2.1
  intro g
  induction g with
  | zero =>
    intro b V s A L M hb hI
    have hR := hI.1.rt hR0
    refine J_iload_n (pc := 12) D10_creeps_12 rfl ?_
    refine J_aload_n (pc := 13) D10_creeps_13 rfl ?_
    refine J_getf (pc := 14) D10_creeps_14 fl10_13 rfl rfl ?_
    refine J_iconst (pc := 17) (v := (nI 1)) D10_creeps_17 (by decide) ?_
    refine J_mald (pc := 18) D10_creeps_18 ma_3 rfl (by omega) rfl ?_
    refine J_st [.int (nI nb), .int (nI b)] (by rw [← hR.2.1]) ?_
    refine J_icmp_ge (pc := 19) (tgt := 76) D10_creeps_19 (by decide) (fun h19 => ?_) (fun h19 => absurd (nI_le (by omega) (by omega)) h19)
    refine J_vret (pc := 76) D10_creeps_76 rfl ?_
    exact hI.q
  | succ g ih =>
    intro b V s A L M hb hI
    have hR := hI.1.rt hR0
    have ely := hI.2.2.ly (b := b) (by omega)
    have e2 := (hI.2.2.2.2.2.1 b (by omega)).2.2.1
    refine J_iload_n (pc := 12) D10_creeps_12 rfl ?_
    refine J_aload_n (pc := 13) D10_creeps_13 rfl ?_
    refine J_getf (pc := 14) D10_creeps_14 fl10_13 rfl rfl ?_
    refine J_iconst (pc := 17) (v := (nI 1)) D10_creeps_17 (by decide) ?_
    refine J_mald (pc := 18) D10_creeps_18 ma_3 rfl (by omega) rfl ?_
    refine J_st [.int (nI nb), .int (nI b)] (by rw [← hR.2.1]) ?_
    refine J_icmp_ge (pc := 19) (tgt := 76) D10_creeps_19 (by decide) (fun h19 => absurd h19 (nI_ge (by omega) (by omega))) (fun h19 => ?_)
    refine J_aload_n (pc := 22) D10_creeps_22 rfl ?_
    refine J_iload_n (pc := 23) D10_creeps_23 rfl ?_
    refine J_iload_n (pc := 24) D10_creeps_24 rfl ?_
    refine J_callVTR (pc := 25) (ac := [.int _, .int _]) D10_creeps_25 m10_isLying_v t1583 (c10_isLying (d := d + 3) (c := c) (b := b) hc (by omega)) (by omega) rfl rfl rfl rfl (fun _ => rfl) rfl rfl rfl ?_
    refine J_if_ne (pc := 28) (tgt := 34) D10_creeps_28 (by decide) (fun h28 => ?_) (fun h28 => ?_)
    · replace h28 := i01_nz h28
      refine J_aload_n (pc := 34) D10_creeps_34 rfl ?_
      refine J_iload_n (pc := 35) D10_creeps_35 rfl ?_
      refine J_iload_n (pc := 36) D10_creeps_36 rfl ?_
      refine J_callVT (pc := 37) (ac := [.int _, .int _]) D10_creeps_37 m10_calls_v t1619 (c10_calls (d := d + 1) hR hT hc hI.2.2 (b := b) (by omega)) (by omega) rfl rfl rfl rfl rfl rfl rfl (fun r w' hq hl => ?_)
      obtain ⟨rfl, N, rfl, hN⟩ := hq
      refine J_bipush (pc := 40) (v := (nI 10)) D10_creeps_40 (by decide) ?_
      refine J_iload_n (pc := 42) D10_creeps_42 rfl ?_
      refine J_imul (pc := 43) D10_creeps_43 ?_
      refine J_iload_n (pc := 44) D10_creeps_44 rfl ?_
      refine J_iadd (pc := 45) D10_creeps_45 ?_
      refine J_istore_n (pc := 46) D10_creeps_46 rfl ?_
      refine J_lk [(0, .ref 0), (1, .int (nI c)), (2, .int (nI b)), (3, .int (nI (10 * c + b)))] (by rw [← ixm]; rfl) ?_
      refine J_aload_n (pc := 47) D10_creeps_47 rfl ?_
      refine J_getf (pc := 48) D10_creeps_48 fl10_90 rfl rfl ?_
      refine J_iload_n (pc := 51) D10_creeps_51 rfl ?_
      refine J_iconst (pc := 52) (v := (nI 0)) D10_creeps_52 (by decide) ?_
      refine J_aload_n (pc := 53) D10_creeps_53 rfl ?_
      refine J_getf (pc := 54) D10_creeps_54 fl10_90 rfl rfl ?_
      refine J_iload_n (pc := 57) D10_creeps_57 rfl ?_
      refine J_mcld (pc := 58) (stp := 10) D10_creeps_58 mc_2 rfl (by omega) (by omega) rfl ?_
      refine J_aload_n (pc := 59) D10_creeps_59 rfl ?_
      refine J_iconst (pc := 60) (v := (nI 1)) D10_creeps_60 (by decide) ?_
      refine J_iconst (pc := 61) (v := (nI 1)) D10_creeps_61 (by decide) ?_
      refine J_callVT (pc := 62) (ac := [.int _, .int _]) D10_creeps_62 m10_within_v t1685 (c10_within (d := d) (L := (N, L.2)) hR hT (lw := 1) (by decide) hN) (by omega) rfl rfl rfl rfl rfl rfl rfl (fun r w' hq hl => ?_)
      obtain ⟨rfl, x', k', rfl⟩ := hq
      refine J_isub (pc := 65) D10_creeps_65 ?_
      rw [e2]
      refine J_max (pc := 66) D10_creeps_66 t1692 (by omega) rfl rfl rfl ?_
      refine J_mcst (pc := 69) (stp := 10) D10_creeps_69 mc_2 rfl (by omega) (by omega) rfl ?_
      refine J_iinc (pc := 70) D10_creeps_70 rfl (nI_inc _) rfl ?_
      refine J_goto (pc := 73) (tgt := 12) D10_creeps_73 (by decide) ?_
      have e9 := crS_p (T := T) (ely.mp h28)
      refine J_lk [(0, .ref 0), (1, .int (nI c)), (2, .int (nI (b + 1)))] rfl ?_
      rw [show crL T (g + 1) b V = crL T g (b + 1) (crS T V b) from rfl]
      refine ih (b + 1) _ _ _ _ _ (by omega) ?_
      rw [e9, imax_c]
      exact (hI.sc SC.s35).put (hI.2.2.val2 b _)
    · have h28' := eq_true h28
      replace h28 := i01_z h28
      refine J_goto (pc := 31) (tgt := 70) D10_creeps_31 (by decide) ?_
      refine J_iinc (pc := 70) D10_creeps_70 rfl (nI_inc _) rfl ?_
      refine J_goto (pc := 73) (tgt := 12) D10_creeps_73 (by decide) ?_
      have e9 : crS T V b = V := if_neg (fun q => h28 (ely.mpr q))
      refine J_lk [(0, .ref 0), (1, .int (nI c)), (2, .int (nI (b + 1)))] rfl ?_
      rw [show crL T (g + 1) b V = crL T g (b + 1) V from congrArg (crL T g (b + 1)) e9]
      exact ih (b + 1) V s A L M (by omega) hI
theorem c10_creeps {d : Nat} {s : Nat → Int32} {A : Nat → Nat → Int32} {L : LL} {M : Nat → MR} {T : TV} {np nb nn : Nat} (hR : RT A T np nb nn) (hT : WT T np nb nn) {σ : Prop} {V : CV} {c : Nat} (hc : c < 23) (hC : CR σ np nb nn (M c) V) : Tr (d + 4) 0 0 m10_creeps [.ref 0, .int (nI c)] (modW s A L M) (mQ c s A M (fun m => CR σ np nb nn m (creepF T nb V))) := by
  refine Tr.intro (by decide) rfl ?_
  refine J_aload_n (pc := 0) D10_creeps_0 rfl ?_
  refine J_getf (pc := 1) D10_creeps_1 fl10_81 rfl rfl ?_
  refine J_iload_n (pc := 4) D10_creeps_4 rfl ?_
  refine J_dup2 (pc := 5) D10_creeps_5 rfl rfl ?_
  refine J_msld (pc := 6) D10_creeps_6 mq_thunders rfl (by omega) ?_
  refine J_iconst (pc := 7) (v := (nI 1)) D10_creeps_7 (by decide) ?_
  refine J_iadd (pc := 8) D10_creeps_8 ?_
  refine J_msst (pc := 9) D10_creeps_9 mq_thunders rfl (by omega) ?_
  refine J_iconst (pc := 10) (v := (nI 0)) D10_creeps_10 (by decide) ?_
  refine J_istore_n (pc := 11) D10_creeps_11 rfl ?_
  exact L10_creeps hR hT hc nb 0 _ _ _ _ _ (by omega) (IV.put (M := M) (V := V) ⟨SC.rf, fun _ _ => rfl, hC⟩ hC.thu)
theorem L10_weakest {d : Nat} {s : Nat → Int32} {A : Nat → Nat → Int32} {L : LL} {M : Nat → MR} {T : TV} {np nb nn : Nat} (hR : RT A T np nb nn) (hT : WT T np nb nn) {σ : Prop} {V : CV} {c n : Nat} {ow : Int32} (hc : c < 23) (hC : CR σ np nb nn (M c) V) (hn : n < nn) : ∀ (g b : Nat) (ac : Option Nat), b + g = nb → (∀ w, ac = some w → w < nb) → J m10_weakest (d + 1) 0 0 40 6 [(0, .ref 0), (1, .int (nI c)), (2, .int (nI n)), (3, .int ow), (4, .int (wkI ac)), (5, .int (nI b))] [] (modW s A L M) 0 0 (fun r w' => w' = modW s A L M ∧ r = some (.int (wkI (wkL T V n ow g b ac)))) := by
  have hnb := hT.2.2.2.2.1
  have hnp := hT.2.2.2.1
  have hnn := hT.2.2.2.2.2.1
  obtain ⟨n12, -, n14, n15⟩ := hR.2.2.2.2.2.2.2.2.1 n hn
  intro g
  induction g with
  | zero =>
    intro b ac hb hac
    refine J_iload (pc := 6) D10_weakest_6 rfl ?_
    refine J_aload_n (pc := 8) D10_weakest_8 rfl ?_
    refine J_getf (pc := 9) D10_weakest_9 fl10_13 rfl rfl ?_
    refine J_iconst (pc := 12) (v := (nI 1)) D10_weakest_12 (by decide) ?_
    refine J_mald (pc := 13) D10_weakest_13 ma_3 rfl (by omega) rfl ?_
    refine J_st [.int (nI nb), .int (nI b)] (by rw [← hR.2.1]) ?_
    refine J_icmp_ge (pc := 14) (tgt := 124) D10_weakest_14 (by decide) (fun h14 => ?_) (fun h14 => absurd (nI_le (by omega) (by omega)) h14)
    refine J_iload (pc := 124) D10_weakest_124 rfl ?_
    refine J_iret (pc := 126) D10_weakest_126 rfl ?_
    exact ⟨rfl, rfl⟩
  | succ g ih =>
    intro b ac hb hac
    have ely := hC.ly (b := b) (by omega)
    have e1 := (hC.2.2.2.1 b (by omega)).2.1
    have e7 := (hR.2.2.2.2.2.2.2.1 b (by omega)).2.1
    refine J_iload (pc := 6) D10_weakest_6 rfl ?_
    refine J_aload_n (pc := 8) D10_weakest_8 rfl ?_
    refine J_getf (pc := 9) D10_weakest_9 fl10_13 rfl rfl ?_
    refine J_iconst (pc := 12) (v := (nI 1)) D10_weakest_12 (by decide) ?_
    refine J_mald (pc := 13) D10_weakest_13 ma_3 rfl (by omega) rfl ?_
    refine J_st [.int (nI nb), .int (nI b)] (by rw [← hR.2.1]) ?_
    refine J_icmp_ge (pc := 14) (tgt := 124) D10_weakest_14 (by decide) (fun h14 => absurd h14 (nI_ge (by omega) (by omega))) (fun h14 => ?_)
    refine J_aload_n (pc := 17) D10_weakest_17 rfl ?_
    refine J_getf (pc := 18) D10_weakest_18 fl10_87 rfl rfl ?_
    refine J_bipush (pc := 21) (v := (nI 10)) D10_weakest_21 (by decide) ?_
    refine J_iload_n (pc := 23) D10_weakest_23 rfl ?_
    refine J_imul (pc := 24) D10_weakest_24 ?_
    refine J_iload (pc := 25) D10_weakest_25 rfl ?_
    refine J_iadd (pc := 27) D10_weakest_27 ?_
    refine J_mcld (pc := 28) (stp := 10) D10_weakest_28 mc_1 (ixm _ _ _) (by omega) (by omega) rfl ?_
    rw [e1]
    refine J_istore (pc := 29) D10_weakest_29 rfl ?_
    refine J_aload_n (pc := 31) D10_weakest_31 rfl ?_
    refine J_iload_n (pc := 32) D10_weakest_32 rfl ?_
    refine J_iload (pc := 33) D10_weakest_33 rfl ?_
    refine J_callVTR (pc := 35) (ac := [.int _, .int _]) D10_weakest_35 m10_isLying_v t1583 (c10_isLying (d := d) (c := c) (b := b) hc (by omega)) (by omega) rfl rfl rfl rfl (fun _ => rfl) rfl rfl rfl ?_
    refine J_if_eq (pc := 38) (tgt := 118) D10_weakest_38 (by decide) (fun h38 => ?_) (fun h38 => ?_)
    · have h38' := eq_true h38
      replace h38 := i01_z h38
      refine J_iinc (pc := 118) D10_weakest_118 rfl (nI_inc _) rfl ?_
      refine J_goto (pc := 121) (tgt := 6) D10_weakest_121 (by decide) ?_
      have e9 : wkS T V n ow b ac = ac := if_neg (fun q => h38 (ely.mpr q.1))
      refine J_lk [(0, .ref 0), (1, .int (nI c)), (2, .int (nI n)), (3, .int ow), (4, .int (wkI ac)), (5, .int (nI (b + 1)))] rfl ?_
      rw [show wkL T V n ow (g + 1) b ac = wkL T V n ow g (b + 1) ac from congrArg (wkL T V n ow g (b + 1)) e9]
      exact ih (b + 1) ac (by omega) hac
    · replace h38 := i01_nz h38
      refine J_aload_n (pc := 41) D10_weakest_41 rfl ?_
      refine J_getf (pc := 42) D10_weakest_42 fl10_25 rfl rfl ?_
      refine J_iload (pc := 45) D10_weakest_45 rfl ?_
      refine J_mald (pc := 47) D10_weakest_47 ma_7 rfl (by omega) rfl ?_
      refine J_aload_n (pc := 48) D10_weakest_48 rfl ?_
      refine J_getf (pc := 49) D10_weakest_49 fl10_40 rfl rfl ?_
      refine J_iload_n (pc := 52) D10_weakest_52 rfl ?_
      refine J_mald (pc := 53) D10_weakest_53 ma_12 rfl (by omega) rfl ?_
      rw [e7, n12]
      refine J_icmp_ne (pc := 54) (tgt := 61) D10_weakest_54 (by decide) (fun h54 => ?_) (fun h54 => ?_)
      · refine J_iconst (pc := 61) (v := (nI 0)) D10_weakest_61 (by decide) ?_
        refine J_st (.int (i01 (T.2.1 5 b = T.2.1 11 n)) :: []) (by rw [i01_f h54]; rfl) ?_
        refine J_iload_n (pc := 62) D10_weakest_62 rfl ?_
        refine J_icmp_ne (pc := 63) (tgt := 118) D10_weakest_63 (by decide) (fun h63 => ?_) (fun h63 => ?_)
        · refine J_iinc (pc := 118) D10_weakest_118 rfl (nI_inc _) rfl ?_
          refine J_goto (pc := 121) (tgt := 6) D10_weakest_121 (by decide) ?_
          have e9 : wkS T V n ow b ac = ac := if_neg (fun q => h63 q.2.1)
          refine J_lk [(0, .ref 0), (1, .int (nI c)), (2, .int (nI n)), (3, .int ow), (4, .int (wkI ac)), (5, .int (nI (b + 1)))] rfl ?_
          rw [show wkL T V n ow (g + 1) b ac = wkL T V n ow g (b + 1) ac from congrArg (wkL T V n ow g (b + 1)) e9]
          exact ih (b + 1) ac (by omega) hac
        · have h63' := eq_true h63
          refine J_iload (pc := 66) D10_weakest_66 rfl ?_
          refine J_aload_n (pc := 68) D10_weakest_68 rfl ?_
          refine J_getf (pc := 69) D10_weakest_69 fl10_46 rfl rfl ?_
          refine J_iload_n (pc := 72) D10_weakest_72 rfl ?_
          refine J_mald (pc := 73) D10_weakest_73 ma_14 rfl (by omega) rfl ?_
          rw [n14]
          refine J_icmp_lt (pc := 74) (tgt := 118) D10_weakest_74 (by decide) (fun h74 => ?_) (fun h74 => ?_)
          · have h74' := Int32.not_le.mpr h74
            refine J_iinc (pc := 118) D10_weakest_118 rfl (nI_inc _) rfl ?_
            refine J_goto (pc := 121) (tgt := 6) D10_weakest_121 (by decide) ?_
            have e9 : wkS T V n ow b ac = ac := if_neg (fun q => absurd q.2.2.1.1 (Int32.not_le.mpr h74))
            refine J_lk [(0, .ref 0), (1, .int (nI c)), (2, .int (nI n)), (3, .int ow), (4, .int (wkI ac)), (5, .int (nI (b + 1)))] rfl ?_
            rw [show wkL T V n ow (g + 1) b ac = wkL T V n ow g (b + 1) ac from congrArg (wkL T V n ow g (b + 1)) e9]
            exact ih (b + 1) ac (by omega) hac
          · have h74' := Int32.not_lt.mp h74
            refine J_iload (pc := 77) D10_weakest_77 rfl ?_
            refine J_aload_n (pc := 79) D10_weakest_79 rfl ?_
            refine J_getf (pc := 80) D10_weakest_80 fl10_49 rfl rfl ?_
            refine J_iload_n (pc := 83) D10_weakest_83 rfl ?_
            refine J_mald (pc := 84) D10_weakest_84 ma_15 rfl (by omega) rfl ?_
            rw [n15]
            refine J_icmp_le (pc := 85) (tgt := 91) D10_weakest_85 (by decide) (fun h85 => ?_) (fun h85 => ?_)
            · have h85' := Int32.not_lt.mpr h85
              refine J_iload (pc := 91) D10_weakest_91 rfl ?_
              refine J_iconst (pc := 93) (v := (-1)) D10_weakest_93 (by decide) ?_
              refine J_icmp_eq (pc := 94) (tgt := 114) D10_weakest_94 (by decide) (fun h94 => ?_) (fun h94 => ?_)
              · have h94' := eq_true h94
                refine J_iload (pc := 114) D10_weakest_114 rfl ?_
                refine J_istore (pc := 116) D10_weakest_116 rfl ?_
                refine J_iinc (pc := 118) D10_weakest_118 rfl (nI_inc _) rfl ?_
                refine J_goto (pc := 121) (tgt := 6) D10_weakest_121 (by decide) ?_
                have e9 : wkS T V n ow b ac = some b := if_pos ⟨ely.mp h38, h63, ⟨Int32.not_lt.mp h74, h85⟩, fun w hw => by rw [wkI_n h94 (fun w hw => by have := hac w hw; omega)] at hw; cases hw⟩
                refine J_lk [(0, .ref 0), (1, .int (nI c)), (2, .int (nI n)), (3, .int ow), (4, .int (wkI (some b))), (5, .int (nI (b + 1)))] rfl ?_
                rw [show wkL T V n ow (g + 1) b ac = wkL T V n ow g (b + 1) (some b) from congrArg (wkL T V n ow g (b + 1)) e9]
                exact ih (b + 1) (some b) (by omega) (fun w hw => by cases hw; omega)
              · obtain ⟨w, rfl⟩ := wkI_s h94
                have hwl := hac w rfl
                have ew := (hC.2.2.2.1 w (by omega)).2.1
                refine J_iload (pc := 97) D10_weakest_97 rfl ?_
                refine J_aload_n (pc := 99) D10_weakest_99 rfl ?_
                refine J_getf (pc := 100) D10_weakest_100 fl10_87 rfl rfl ?_
                refine J_bipush (pc := 103) (v := (nI 10)) D10_weakest_103 (by decide) ?_
                refine J_iload_n (pc := 105) D10_weakest_105 rfl ?_
                refine J_imul (pc := 106) D10_weakest_106 ?_
                refine J_iload (pc := 107) D10_weakest_107 rfl ?_
                refine J_iadd (pc := 109) D10_weakest_109 ?_
                refine J_mcld (pc := 110) (stp := 10) D10_weakest_110 mc_1 (ixm _ _ _) (by omega) (by omega) rfl ?_
                rw [ew]
                refine J_icmp_ge (pc := 111) (tgt := 118) D10_weakest_111 (by decide) (fun h111 => ?_) (fun h111 => ?_)
                · have h111' := Int32.not_lt.mpr h111
                  refine J_iinc (pc := 118) D10_weakest_118 rfl (nI_inc _) rfl ?_
                  refine J_goto (pc := 121) (tgt := 6) D10_weakest_121 (by decide) ?_
                  have e9 : wkS T V n ow b (some w) = some w := if_neg (fun q => absurd (q.2.2.2 w rfl) (Int32.not_lt.mpr h111))
                  refine J_lk [(0, .ref 0), (1, .int (nI c)), (2, .int (nI n)), (3, .int ow), (4, .int (wkI (some w))), (5, .int (nI (b + 1)))] rfl ?_
                  rw [show wkL T V n ow (g + 1) b (some w) = wkL T V n ow g (b + 1) (some w) from congrArg (wkL T V n ow g (b + 1)) e9]
                  exact ih (b + 1) (some w) (by omega) hac
                · have h111' := Int32.not_le.mp h111
                  refine J_iload (pc := 114) D10_weakest_114 rfl ?_
                  refine J_istore (pc := 116) D10_weakest_116 rfl ?_
                  refine J_iinc (pc := 118) D10_weakest_118 rfl (nI_inc _) rfl ?_
                  refine J_goto (pc := 121) (tgt := 6) D10_weakest_121 (by decide) ?_
                  have e9 : wkS T V n ow b (some w) = some b := if_pos ⟨ely.mp h38, h63, ⟨Int32.not_lt.mp h74, h85⟩, fun w9 hw => by cases hw; exact Int32.not_le.mp h111⟩
                  refine J_lk [(0, .ref 0), (1, .int (nI c)), (2, .int (nI n)), (3, .int ow), (4, .int (wkI (some b))), (5, .int (nI (b + 1)))] rfl ?_
                  rw [show wkL T V n ow (g + 1) b (some w) = wkL T V n ow g (b + 1) (some b) from congrArg (wkL T V n ow g (b + 1)) e9]
                  exact ih (b + 1) (some b) (by omega) (fun w hw => by cases hw; omega)
            · have h85' := Int32.not_le.mp h85
              refine J_goto (pc := 88) (tgt := 118) D10_weakest_88 (by decide) ?_
              refine J_iinc (pc := 118) D10_weakest_118 rfl (nI_inc _) rfl ?_
              refine J_goto (pc := 121) (tgt := 6) D10_weakest_121 (by decide) ?_
              have e9 : wkS T V n ow b ac = ac := if_neg (fun q => h85 q.2.2.1.2)
              refine J_lk [(0, .ref 0), (1, .int (nI c)), (2, .int (nI n)), (3, .int ow), (4, .int (wkI ac)), (5, .int (nI (b + 1)))] rfl ?_
              rw [show wkL T V n ow (g + 1) b ac = wkL T V n ow g (b + 1) ac from congrArg (wkL T V n ow g (b + 1)) e9]
              exact ih (b + 1) ac (by omega) hac
      · have h54' := eq_true h54
        refine J_iconst (pc := 57) (v := (nI 1)) D10_weakest_57 (by decide) ?_
        refine J_goto (pc := 58) (tgt := 62) D10_weakest_58 (by decide) ?_
        refine J_st (.int (i01 (T.2.1 5 b = T.2.1 11 n)) :: []) (by rw [i01_t h54]; rfl) ?_
        refine J_iload_n (pc := 62) D10_weakest_62 rfl ?_
        refine J_icmp_ne (pc := 63) (tgt := 118) D10_weakest_63 (by decide) (fun h63 => ?_) (fun h63 => ?_)
        · refine J_iinc (pc := 118) D10_weakest_118 rfl (nI_inc _) rfl ?_
          refine J_goto (pc := 121) (tgt := 6) D10_weakest_121 (by decide) ?_
          have e9 : wkS T V n ow b ac = ac := if_neg (fun q => h63 q.2.1)
          refine J_lk [(0, .ref 0), (1, .int (nI c)), (2, .int (nI n)), (3, .int ow), (4, .int (wkI ac)), (5, .int (nI (b + 1)))] rfl ?_
          rw [show wkL T V n ow (g + 1) b ac = wkL T V n ow g (b + 1) ac from congrArg (wkL T V n ow g (b + 1)) e9]
          exact ih (b + 1) ac (by omega) hac
        · have h63' := eq_true h63
          refine J_iload (pc := 66) D10_weakest_66 rfl ?_
          refine J_aload_n (pc := 68) D10_weakest_68 rfl ?_
          refine J_getf (pc := 69) D10_weakest_69 fl10_46 rfl rfl ?_
          refine J_iload_n (pc := 72) D10_weakest_72 rfl ?_
          refine J_mald (pc := 73) D10_weakest_73 ma_14 rfl (by omega) rfl ?_
          rw [n14]
          refine J_icmp_lt (pc := 74) (tgt := 118) D10_weakest_74 (by decide) (fun h74 => ?_) (fun h74 => ?_)
          · have h74' := Int32.not_le.mpr h74
            refine J_iinc (pc := 118) D10_weakest_118 rfl (nI_inc _) rfl ?_
            refine J_goto (pc := 121) (tgt := 6) D10_weakest_121 (by decide) ?_
            have e9 : wkS T V n ow b ac = ac := if_neg (fun q => absurd q.2.2.1.1 (Int32.not_le.mpr h74))
            refine J_lk [(0, .ref 0), (1, .int (nI c)), (2, .int (nI n)), (3, .int ow), (4, .int (wkI ac)), (5, .int (nI (b + 1)))] rfl ?_
            rw [show wkL T V n ow (g + 1) b ac = wkL T V n ow g (b + 1) ac from congrArg (wkL T V n ow g (b + 1)) e9]
            exact ih (b + 1) ac (by omega) hac
          · have h74' := Int32.not_lt.mp h74
            refine J_iload (pc := 77) D10_weakest_77 rfl ?_
            refine J_aload_n (pc := 79) D10_weakest_79 rfl ?_
            refine J_getf (pc := 80) D10_weakest_80 fl10_49 rfl rfl ?_
            refine J_iload_n (pc := 83) D10_weakest_83 rfl ?_
            refine J_mald (pc := 84) D10_weakest_84 ma_15 rfl (by omega) rfl ?_
            rw [n15]
            refine J_icmp_le (pc := 85) (tgt := 91) D10_weakest_85 (by decide) (fun h85 => ?_) (fun h85 => ?_)
            · have h85' := Int32.not_lt.mpr h85
              refine J_iload (pc := 91) D10_weakest_91 rfl ?_
              refine J_iconst (pc := 93) (v := (-1)) D10_weakest_93 (by decide) ?_
              refine J_icmp_eq (pc := 94) (tgt := 114) D10_weakest_94 (by decide) (fun h94 => ?_) (fun h94 => ?_)
              · have h94' := eq_true h94
                refine J_iload (pc := 114) D10_weakest_114 rfl ?_
                refine J_istore (pc := 116) D10_weakest_116 rfl ?_
                refine J_iinc (pc := 118) D10_weakest_118 rfl (nI_inc _) rfl ?_
                refine J_goto (pc := 121) (tgt := 6) D10_weakest_121 (by decide) ?_
                have e9 : wkS T V n ow b ac = some b := if_pos ⟨ely.mp h38, h63, ⟨Int32.not_lt.mp h74, h85⟩, fun w hw => by rw [wkI_n h94 (fun w hw => by have := hac w hw; omega)] at hw; cases hw⟩
                refine J_lk [(0, .ref 0), (1, .int (nI c)), (2, .int (nI n)), (3, .int ow), (4, .int (wkI (some b))), (5, .int (nI (b + 1)))] rfl ?_
                rw [show wkL T V n ow (g + 1) b ac = wkL T V n ow g (b + 1) (some b) from congrArg (wkL T V n ow g (b + 1)) e9]
                exact ih (b + 1) (some b) (by omega) (fun w hw => by cases hw; omega)
              · obtain ⟨w, rfl⟩ := wkI_s h94
                have hwl := hac w rfl
                have ew := (hC.2.2.2.1 w (by omega)).2.1
                refine J_iload (pc := 97) D10_weakest_97 rfl ?_
                refine J_aload_n (pc := 99) D10_weakest_99 rfl ?_
                refine J_getf (pc := 100) D10_weakest_100 fl10_87 rfl rfl ?_
                refine J_bipush (pc := 103) (v := (nI 10)) D10_weakest_103 (by decide) ?_
                refine J_iload_n (pc := 105) D10_weakest_105 rfl ?_
                refine J_imul (pc := 106) D10_weakest_106 ?_
                refine J_iload (pc := 107) D10_weakest_107 rfl ?_
                refine J_iadd (pc := 109) D10_weakest_109 ?_
                refine J_mcld (pc := 110) (stp := 10) D10_weakest_110 mc_1 (ixm _ _ _) (by omega) (by omega) rfl ?_
                rw [ew]
                refine J_icmp_ge (pc := 111) (tgt := 118) D10_weakest_111 (by decide) (fun h111 => ?_) (fun h111 => ?_)
                · have h111' := Int32.not_lt.mpr h111
                  refine J_iinc (pc := 118) D10_weakest_118 rfl (nI_inc _) rfl ?_
                  refine J_goto (pc := 121) (tgt := 6) D10_weakest_121 (by decide) ?_
                  have e9 : wkS T V n ow b (some w) = some w := if_neg (fun q => absurd (q.2.2.2 w rfl) (Int32.not_lt.mpr h111))
                  refine J_lk [(0, .ref 0), (1, .int (nI c)), (2, .int (nI n)), (3, .int ow), (4, .int (wkI (some w))), (5, .int (nI (b + 1)))] rfl ?_
                  rw [show wkL T V n ow (g + 1) b (some w) = wkL T V n ow g (b + 1) (some w) from congrArg (wkL T V n ow g (b + 1)) e9]
                  exact ih (b + 1) (some w) (by omega) hac
                · have h111' := Int32.not_le.mp h111
                  refine J_iload (pc := 114) D10_weakest_114 rfl ?_
                  refine J_istore (pc := 116) D10_weakest_116 rfl ?_
                  refine J_iinc (pc := 118) D10_weakest_118 rfl (nI_inc _) rfl ?_
                  refine J_goto (pc := 121) (tgt := 6) D10_weakest_121 (by decide) ?_
                  have e9 : wkS T V n ow b (some w) = some b := if_pos ⟨ely.mp h38, h63, ⟨Int32.not_lt.mp h74, h85⟩, fun w9 hw => by cases hw; exact Int32.not_le.mp h111⟩
                  refine J_lk [(0, .ref 0), (1, .int (nI c)), (2, .int (nI n)), (3, .int ow), (4, .int (wkI (some b))), (5, .int (nI (b + 1)))] rfl ?_
                  rw [show wkL T V n ow (g + 1) b (some w) = wkL T V n ow g (b + 1) (some b) from congrArg (wkL T V n ow g (b + 1)) e9]
                  exact ih (b + 1) (some b) (by omega) (fun w hw => by cases hw; omega)
            · have h85' := Int32.not_le.mp h85
              refine J_goto (pc := 88) (tgt := 118) D10_weakest_88 (by decide) ?_
              refine J_iinc (pc := 118) D10_weakest_118 rfl (nI_inc _) rfl ?_
              refine J_goto (pc := 121) (tgt := 6) D10_weakest_121 (by decide) ?_
              have e9 : wkS T V n ow b ac = ac := if_neg (fun q => h85 q.2.2.1.2)
              refine J_lk [(0, .ref 0), (1, .int (nI c)), (2, .int (nI n)), (3, .int ow), (4, .int (wkI ac)), (5, .int (nI (b + 1)))] rfl ?_
              rw [show wkL T V n ow (g + 1) b ac = wkL T V n ow g (b + 1) ac from congrArg (wkL T V n ow g (b + 1)) e9]
              exact ih (b + 1) ac (by omega) hac
theorem c10_weakest {d : Nat} {s : Nat → Int32} {A : Nat → Nat → Int32} {L : LL} {M : Nat → MR} {T : TV} {np nb nn : Nat} (hR : RT A T np nb nn) (hT : WT T np nb nn) {σ : Prop} {V : CV} {c n : Nat} {ow : Int32} (hc : c < 23) (hC : CR σ np nb nn (M c) V) (hn : n < nn) : TR (d + 1) m10_weakest [.ref 0, .int (nI c), .int (nI n), .int ow] (modW s A L M) (.int (wkI (weF T nb V n ow))) := by
  refine Tr.intro (by decide) rfl ?_
  refine J_iconst (pc := 0) (v := (-1)) D10_weakest_0 (by decide) ?_
  refine J_istore (pc := 1) D10_weakest_1 rfl ?_
  refine J_iconst (pc := 3) (v := (nI 0)) D10_weakest_3 (by decide) ?_
  refine J_istore (pc := 4) D10_weakest_4 rfl ?_
  exact L10_weakest hR hT hc hC hn nb 0 none (by omega) (fun w hw => by cases hw)
theorem CR.V_ext {σ : Prop} {np nb nn : Nat} {m : MR} {V V' : CV} (h : CR σ np nb nn m V) (e1 : V'.1 = V.1) (e2 : V'.2.1 = V.2.1) (e3 : V'.2.2.1 = V.2.2.1) (e4 : ∀ k, k < 9 → V'.2.2.2 k = V.2.2.2 k) : CR σ np nb nn m V' := by
  have hW : WV V' nb := fun b hb => by rw [e4 0 (by decide)]; exact h.2.2.2.2.2.2.2.2.2.2.1 b hb
  obtain ⟨h1, h2, h3, h4, h5, h6, h7, h8, h9, h10, h11, h12⟩ := h
  unfold CR
  rw [e1, e2, e3, e4 0 (by decide), e4 1 (by decide), e4 2 (by decide), e4 3 (by decide), e4 4 (by decide), e4 5 (by decide), e4 6 (by decide), e4 7 (by decide), e4 8 (by decide)]
  exact ⟨h1, h2, h3, h4, h5, h6, h7, h8, h9, h10, hW, h12⟩
theorem wkL_ly {T : TV} {V : CV} {n : Nat} {ow : Int32} : ∀ (g b : Nat) (ac : Option Nat), (∀ w, ac = some w → V.2.2.2 3 w = 0) → ∀ w, wkL T V n ow g b ac = some w → V.2.2.2 3 w = 0
  | 0, _, ac, h => h
  | g + 1, b, ac, h => wkL_ly g (b + 1) _ (fun w hw => by
    unfold wkS at hw
    split at hw
    · next q => cases hw; exact q.1
    · exact h w hw)
theorem weF_ly {T : TV} {V : CV} {n nb w : Nat} {ow : Int32} (h : weF T nb V n ow = some w) : V.2.2.2 3 w = 0 := wkL_ly nb 0 none (fun _ h => by cases h) w h
theorem c10_comes {d : Nat} {s : Nat → Int32} {A : Nat → Nat → Int32} {L : LL} {M : Nat → MR} {T : TV} {np nb nn : Nat} (hR : RT A T np nb nn) (hT : WT T np nb nn) {σ : Prop} {V : CV} {c n : Nat} (hc : c < 23) (hC : CR σ np nb nn (M c) V) (hn : n < nn) : Tr (d + 2) 0 0 m10_comes [.ref 0, .int (nI c), .int (nI n)] (modW s A L M) (mQ c s A M (fun m => CR σ np nb nn m (meetF T nb V n))) := by
  have hnb := hT.2.2.2.2.1
  have hnp := hT.2.2.2.1
  have hnn := hT.2.2.2.2.2.1
  obtain ⟨n12, -, n14, n15⟩ := hR.2.2.2.2.2.2.2.2.1 n hn
  obtain ⟨p, hp, ep⟩ := hT.2.2.2.2.2.2.2.2.1 n hn
  refine Tr.intro (by decide) rfl ?_
  refine J_aload_n (pc := 0) D10_comes_0 rfl ?_
  refine J_iload_n (pc := 1) D10_comes_1 rfl ?_
  refine J_iload_n (pc := 2) D10_comes_2 rfl ?_
  refine J_iconst (pc := 3) (v := (nI 1)) D10_comes_3 (by decide) ?_
  refine J_callVTR (pc := 4) (ac := [.int _, .int _, .int _]) D10_comes_4 m10_weakest_v t1706 (c10_weakest (d := d) (ow := nI 1) hR hT hc hC hn) (by omega) rfl rfl rfl rfl (fun _ => rfl) rfl rfl rfl ?_
  refine J_istore_n (pc := 7) D10_comes_7 rfl ?_
  refine J_iload_n (pc := 8) D10_comes_8 rfl ?_
  refine J_iconst (pc := 9) (v := (-1)) D10_comes_9 (by decide) ?_
  refine J_icmp_eq (pc := 10) (tgt := 17) D10_comes_10 (by decide) (fun h10 => ?_) (fun h10 => ?_)
  · have h10' := eq_true h10
    have e1 := wkI_n h10 (fun w hw => by have := weF_lt hw; omega)
    refine J_aload_n (pc := 17) D10_comes_17 rfl ?_
    refine J_iload_n (pc := 18) D10_comes_18 rfl ?_
    refine J_iload_n (pc := 19) D10_comes_19 rfl ?_
    refine J_iconst (pc := 20) (v := (nI 0)) D10_comes_20 (by decide) ?_
    refine J_callVTR (pc := 21) (ac := [.int _, .int _, .int _]) D10_comes_21 m10_weakest_v t1706 (c10_weakest (d := d) (ow := nI 0) hR hT hc hC hn) (by omega) rfl rfl rfl rfl (fun _ => rfl) rfl rfl rfl ?_
    refine J_istore (pc := 24) D10_comes_24 rfl ?_
    rcases e2 : weF T nb V n (nI 0) with _ | b2
    · refine J_lk [(0, .ref 0), (1, .int (nI c)), (2, .int (nI n)), (3, .int (-1)), (4, .int (-1))] (by rw [e1]; rfl) ?_
      refine J_aload_n (pc := 26) D10_comes_26 rfl ?_
      refine J_getf (pc := 27) D10_comes_27 fl10_102 rfl rfl ?_
      refine J_bipush (pc := 30) (v := (nI 8)) D10_comes_30 (by decide) ?_
      refine J_iload_n (pc := 32) D10_comes_32 rfl ?_
      refine J_imul (pc := 33) D10_comes_33 ?_
      refine J_iload_n (pc := 34) D10_comes_34 rfl ?_
      refine J_iadd (pc := 35) D10_comes_35 ?_
      refine J_iload_n (pc := 36) D10_comes_36 rfl ?_
      refine J_iconst (pc := 37) (v := (-1)) D10_comes_37 (by decide) ?_
      refine J_icmp_eq (pc := 38) (tgt := 45) D10_comes_38 (by decide) (fun h38 => ?_) (fun h38 => absurd rfl h38)
      refine J_iload (pc := 45) D10_comes_45 rfl ?_
      refine J_iconst (pc := 47) (v := (-1)) D10_comes_47 (by decide) ?_
      refine J_icmp_eq (pc := 48) (tgt := 55) D10_comes_48 (by decide) (fun h48 => ?_) (fun h48 => absurd rfl h48)
      refine J_iconst (pc := 55) (v := (nI 0)) D10_comes_55 (by decide) ?_
      refine J_mcst (pc := 56) (stp := 8) D10_comes_56 mc_5 (ixm _ _ _) (by omega) (by omega) rfl ?_
      refine J_iload (pc := 57) D10_comes_57 rfl ?_
      refine J_iconst (pc := 59) (v := (-1)) D10_comes_59 (by decide) ?_
      refine J_icmp_ne (pc := 60) (tgt := 64) D10_comes_60 (by decide) (fun h60 => absurd rfl h60) (fun h60 => ?_)
      refine J_vret (pc := 63) D10_comes_63 rfl ?_
      rw [meetF_3 e1 e2]
      exact (IV.put (M := M) (V := V) (A := A) ⟨SC.rf, fun _ _ => rfl, hC⟩ (hC.met hn _ (Or.inr (Or.inl rfl)))).q
    · have hb2 := weF_lt e2
      obtain ⟨q1, hq1, eq1⟩ := hT.2.2.2.2.2.2.2.1 b2 hb2
      have e8 := (hR.2.2.2.2.2.2.2.1 b2 hb2).2.2.1
      refine J_lk [(0, .ref 0), (1, .int (nI c)), (2, .int (nI n)), (3, .int (-1)), (4, .int (nI b2))] (by rw [e1]; rfl) ?_
      refine J_aload_n (pc := 26) D10_comes_26 rfl ?_
      refine J_getf (pc := 27) D10_comes_27 fl10_102 rfl rfl ?_
      refine J_bipush (pc := 30) (v := (nI 8)) D10_comes_30 (by decide) ?_
      refine J_iload_n (pc := 32) D10_comes_32 rfl ?_
      refine J_imul (pc := 33) D10_comes_33 ?_
      refine J_iload_n (pc := 34) D10_comes_34 rfl ?_
      refine J_iadd (pc := 35) D10_comes_35 ?_
      refine J_iload_n (pc := 36) D10_comes_36 rfl ?_
      refine J_iconst (pc := 37) (v := (-1)) D10_comes_37 (by decide) ?_
      refine J_icmp_eq (pc := 38) (tgt := 45) D10_comes_38 (by decide) (fun h38 => ?_) (fun h38 => absurd rfl h38)
      refine J_iload (pc := 45) D10_comes_45 rfl ?_
      refine J_iconst (pc := 47) (v := (-1)) D10_comes_47 (by decide) ?_
      refine J_icmp_eq (pc := 48) (tgt := 55) D10_comes_48 (by decide) (fun h48 => absurd h48 (nI_ne1 (b := b2) (by omega))) (fun h48 => ?_)
      refine J_iconst (pc := 51) (v := (nI 2)) D10_comes_51 (by decide) ?_
      refine J_goto (pc := 52) (tgt := 56) D10_comes_52 (by decide) ?_
      refine J_mcst (pc := 56) (stp := 8) D10_comes_56 mc_5 (ixm _ _ _) (by omega) (by omega) rfl ?_
      refine J_iload (pc := 57) D10_comes_57 rfl ?_
      refine J_iconst (pc := 59) (v := (-1)) D10_comes_59 (by decide) ?_
      refine J_icmp_ne (pc := 60) (tgt := 64) D10_comes_60 (by decide) (fun h60 => ?_) (fun h60 => absurd h60 (nI_ne1 (b := b2) (by omega)))
      refine J_aload_n (pc := 64) D10_comes_64 rfl ?_
      refine J_getf (pc := 65) D10_comes_65 fl10_96 rfl rfl ?_
      refine J_bipush (pc := 68) (v := (nI 10)) D10_comes_68 (by decide) ?_
      refine J_iload_n (pc := 70) D10_comes_70 rfl ?_
      refine J_imul (pc := 71) D10_comes_71 ?_
      refine J_iload (pc := 72) D10_comes_72 rfl ?_
      refine J_iadd (pc := 74) D10_comes_74 ?_
      refine J_iconst (pc := 75) (v := (nI 1)) D10_comes_75 (by decide) ?_
      refine J_mcst (pc := 76) (stp := 10) D10_comes_76 mc_3 (ixm _ _ _) (by omega) (by omega) rfl ?_
      refine J_aload_n (pc := 77) D10_comes_77 rfl ?_
      refine J_getf (pc := 78) D10_comes_78 fl10_99 rfl rfl ?_
      refine J_bipush (pc := 81) (v := (nI 10)) D10_comes_81 (by decide) ?_
      refine J_iload_n (pc := 83) D10_comes_83 rfl ?_
      refine J_imul (pc := 84) D10_comes_84 ?_
      refine J_iload (pc := 85) D10_comes_85 rfl ?_
      refine J_iadd (pc := 87) D10_comes_87 ?_
      refine J_aload_n (pc := 88) D10_comes_88 rfl ?_
      refine J_getf (pc := 89) D10_comes_89 fl10_40 rfl rfl ?_
      refine J_iload_n (pc := 92) D10_comes_92 rfl ?_
      refine J_mald (pc := 93) D10_comes_93 ma_12 rfl (by omega) rfl ?_
      refine J_st (.int (nI p) :: .int (nI 10 * nI c + nI b2) :: .ref 29 :: []) (by rw [n12, ep]) ?_
      refine J_mcst (pc := 94) (stp := 10) D10_comes_94 mc_4 (ixm _ _ _) (by omega) (by omega) rfl ?_
      refine J_iload_n (pc := 95) D10_comes_95 rfl ?_
      refine J_iconst (pc := 96) (v := (-1)) D10_comes_96 (by decide) ?_
      refine J_icmp_ne (pc := 97) (tgt := 127) D10_comes_97 (by decide) (fun h97 => absurd rfl h97) (fun h97 => ?_)
      refine J_aload_n (pc := 100) D10_comes_100 rfl ?_
      refine J_getf (pc := 101) D10_comes_101 fl10_84 rfl rfl ?_
      refine J_iconst (pc := 104) (v := (nI 5)) D10_comes_104 (by decide) ?_
      refine J_iload_n (pc := 105) D10_comes_105 rfl ?_
      refine J_imul (pc := 106) D10_comes_106 ?_
      refine J_aload_n (pc := 107) D10_comes_107 rfl ?_
      refine J_getf (pc := 108) D10_comes_108 fl10_40 rfl rfl ?_
      refine J_iload_n (pc := 111) D10_comes_111 rfl ?_
      refine J_mald (pc := 112) D10_comes_112 ma_12 rfl (by omega) rfl ?_
      refine J_st (.int (nI p) :: .int (nI 5 * nI c) :: .ref 24 :: []) (by rw [n12, ep]) ?_
      refine J_iadd (pc := 113) D10_comes_113 ?_
      refine J_dup2 (pc := 114) D10_comes_114 rfl rfl ?_
      refine J_mcld (pc := 115) (stp := 5) D10_comes_115 mc_6 (ixm _ _ _) (by omega) (by omega) rfl ?_
      refine J_iconst (pc := 116) (v := (nI 1)) D10_comes_116 (by decide) ?_
      refine J_aload_n (pc := 117) D10_comes_117 rfl ?_
      refine J_getf (pc := 118) D10_comes_118 fl10_28 rfl rfl ?_
      refine J_iload (pc := 121) D10_comes_121 rfl ?_
      refine J_mald (pc := 123) D10_comes_123 ma_8 rfl (by omega) rfl ?_
      refine J_st (.int (nI q1) :: .int (nI 1) :: .int _ :: .int (nI 5 * nI c + nI p) :: .ref 24 :: []) (by rw [e8, eq1]) ?_
      refine J_ishl (pc := 124) D10_comes_124 ?_
      refine J_ior (pc := 125) D10_comes_125 ?_
      refine J_mcst (pc := 126) (stp := 5) D10_comes_126 mc_6 (ixm _ _ _) (by omega) (by omega) rfl ?_
      refine J_vret (pc := 127) D10_comes_127 rfl ?_
      rw [meetF_2 e1 e2, ep, eq1, nI_clamp (by omega), nI_clamp (by omega)]
      have hl2 := weF_ly e2
      have c1 := hC.met hn (nI 2) (Or.inr (Or.inr (Or.inr rfl)))
      have c2 := c1.leave hb2 hl2 (x := nI 1) (by decide)
      have c3 := c2.val4 b2 (nI p)
      have c3' : CR σ np nb nn _ (V.1, V.2.1, V.2.2.1, meM V.2.2.2 b2 (nI p) n (nI 2)) := c3.V_ext rfl rfl rfl (fun k hk => by
        have hk9 : k = 0 ∨ k = 1 ∨ k = 2 ∨ k = 3 ∨ k = 4 ∨ k = 5 ∨ k = 6 ∨ k = 7 ∨ k = 8 := by omega
        rcases hk9 with rfl | rfl | rfl | rfl | rfl | rfl | rfl | rfl | rfl <;> rfl)
      have c4 := c3'.hate (p := p) (q := q1) hp (by omega) (by omega)
      refine IV.q (V := _) (σ := σ) (np := np) (nb := nb) (nn := nn) ⟨SC.rf, fun i hi => ?_, ?_⟩
      · rw [upM_n hi, upM_n hi, upM_n hi, upM_n hi]
      · simp only [upM_s]
        exact c4
  · obtain ⟨b1, e1⟩ := wkI_s h10
    have hb1 := weF_lt e1
    rw [e1]
    refine J_iload_n (pc := 13) D10_comes_13 rfl ?_
    refine J_goto (pc := 14) (tgt := 24) D10_comes_14 (by decide) ?_
    refine J_istore (pc := 24) D10_comes_24 rfl ?_
    refine J_lk [(0, .ref 0), (1, .int (nI c)), (2, .int (nI n)), (3, .int (nI b1)), (4, .int (nI b1))] (by rfl) ?_
    refine J_aload_n (pc := 26) D10_comes_26 rfl ?_
    refine J_getf (pc := 27) D10_comes_27 fl10_102 rfl rfl ?_
    refine J_bipush (pc := 30) (v := (nI 8)) D10_comes_30 (by decide) ?_
    refine J_iload_n (pc := 32) D10_comes_32 rfl ?_
    refine J_imul (pc := 33) D10_comes_33 ?_
    refine J_iload_n (pc := 34) D10_comes_34 rfl ?_
    refine J_iadd (pc := 35) D10_comes_35 ?_
    refine J_iload_n (pc := 36) D10_comes_36 rfl ?_
    refine J_iconst (pc := 37) (v := (-1)) D10_comes_37 (by decide) ?_
    refine J_icmp_eq (pc := 38) (tgt := 45) D10_comes_38 (by decide) (fun h38 => absurd h38 (nI_ne1 (b := b1) (by omega))) (fun h38 => ?_)
    refine J_iconst (pc := 41) (v := (nI 1)) D10_comes_41 (by decide) ?_
    refine J_goto (pc := 42) (tgt := 56) D10_comes_42 (by decide) ?_
    refine J_mcst (pc := 56) (stp := 8) D10_comes_56 mc_5 (ixm _ _ _) (by omega) (by omega) rfl ?_
    refine J_iload (pc := 57) D10_comes_57 rfl ?_
    refine J_iconst (pc := 59) (v := (-1)) D10_comes_59 (by decide) ?_
    refine J_icmp_ne (pc := 60) (tgt := 64) D10_comes_60 (by decide) (fun h60 => ?_) (fun h60 => absurd h60 (nI_ne1 (b := b1) (by omega)))
    refine J_aload_n (pc := 64) D10_comes_64 rfl ?_
    refine J_getf (pc := 65) D10_comes_65 fl10_96 rfl rfl ?_
    refine J_bipush (pc := 68) (v := (nI 10)) D10_comes_68 (by decide) ?_
    refine J_iload_n (pc := 70) D10_comes_70 rfl ?_
    refine J_imul (pc := 71) D10_comes_71 ?_
    refine J_iload (pc := 72) D10_comes_72 rfl ?_
    refine J_iadd (pc := 74) D10_comes_74 ?_
    refine J_iconst (pc := 75) (v := (nI 1)) D10_comes_75 (by decide) ?_
    refine J_mcst (pc := 76) (stp := 10) D10_comes_76 mc_3 (ixm _ _ _) (by omega) (by omega) rfl ?_
    refine J_aload_n (pc := 77) D10_comes_77 rfl ?_
    refine J_getf (pc := 78) D10_comes_78 fl10_99 rfl rfl ?_
    refine J_bipush (pc := 81) (v := (nI 10)) D10_comes_81 (by decide) ?_
    refine J_iload_n (pc := 83) D10_comes_83 rfl ?_
    refine J_imul (pc := 84) D10_comes_84 ?_
    refine J_iload (pc := 85) D10_comes_85 rfl ?_
    refine J_iadd (pc := 87) D10_comes_87 ?_
    refine J_aload_n (pc := 88) D10_comes_88 rfl ?_
    refine J_getf (pc := 89) D10_comes_89 fl10_40 rfl rfl ?_
    refine J_iload_n (pc := 92) D10_comes_92 rfl ?_
    refine J_mald (pc := 93) D10_comes_93 ma_12 rfl (by omega) rfl ?_
    refine J_st (.int (nI p) :: .int (nI 10 * nI c + nI b1) :: .ref 29 :: []) (by rw [n12, ep]) ?_
    refine J_mcst (pc := 94) (stp := 10) D10_comes_94 mc_4 (ixm _ _ _) (by omega) (by omega) rfl ?_
    refine J_iload_n (pc := 95) D10_comes_95 rfl ?_
    refine J_iconst (pc := 96) (v := (-1)) D10_comes_96 (by decide) ?_
    refine J_icmp_ne (pc := 97) (tgt := 127) D10_comes_97 (by decide) (fun h97 => ?_) (fun h97 => absurd h97 (nI_ne1 (b := b1) (by omega)))
    refine J_vret (pc := 127) D10_comes_127 rfl ?_
    rw [meetF_1 e1, ep]
    have hl2 := weF_ly e1
    have c1 := hC.met hn (nI 1) (Or.inr (Or.inr (Or.inl rfl)))
    have c2 := c1.leave hb1 hl2 (x := nI 1) (by decide)
    have c3 := c2.val4 b1 (nI p)
    refine IV.q (V := _) (σ := σ) (np := np) (nb := nb) (nn := nn) ⟨SC.rf, fun i hi => ?_, ?_⟩
    · rw [upM_n hi, upM_n hi, upM_n hi]
    · simp only [upM_s]
      exact c3.V_ext rfl rfl rfl (fun k hk => by
        have hk9 : k = 0 ∨ k = 1 ∨ k = 2 ∨ k = 3 ∨ k = 4 ∨ k = 5 ∨ k = 6 ∨ k = 7 ∨ k = 8 := by omega
        rcases hk9 with rfl | rfl | rfl | rfl | rfl | rfl | rfl | rfl | rfl <;> rfl)
