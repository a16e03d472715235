/-! THE MODEL: a year (own program mod_m5.py) -/
/-- what is tried, on both sides -/
def RY (t z : Int32) (y : Int32 × Int32 × Int32) : Prop := (t = 0 ∧ z = nI 1 ∧ y = y0) ∨ (z = nI 0 ∧ y = trY t)
theorem RY.o {t z : Int32} {y : Int32 × Int32 × Int32} (h : RY t z y) : (y.2.1 = 0 ↔ t = nI 3) ∧ (y.2.2 = 0 ↔ t = nI 4) := by
  rcases h with ⟨rfl, -, rfl⟩ | ⟨-, rfl⟩
  · decide
  · unfold trY
    constructor
    · by_cases e : t = nI 3
      · rw [if_pos e]; exact ⟨fun _ => e, fun _ => rfl⟩
      · rw [if_neg e]; exact ⟨fun q => absurd q (show ¬ nI 1 = 0 by decide), fun q => absurd q e⟩
    · by_cases e : t = nI 4
      · rw [if_pos e]; exact ⟨fun _ => e, fun _ => rfl⟩
      · rw [if_neg e]; exact ⟨fun q => absurd q (show ¬ nI 1 = 0 by decide), fun q => absurd q e⟩
/-- the random numbers -/
theorem ran_i (a : Nat) : nI a * 1103515245 + nI 12345 &&& 2147483647 = nI ((a * 1103515245 + 12345) % 2147483648) := by
  apply Int32.toBitVec_inj.mp
  apply BitVec.eq_of_toNat_eq
  show ((BitVec.ofNat 32 a * BitVec.ofNat 32 1103515245 + BitVec.ofNat 32 12345) &&& BitVec.ofNat 32 2147483647).toNat = (BitVec.ofNat 32 ((a * 1103515245 + 12345) % 2147483648)).toNat
  rw [BitVec.toNat_and, BitVec.toNat_add, BitVec.toNat_mul, BitVec.toNat_ofNat, BitVec.toNat_ofNat, BitVec.toNat_ofNat, BitVec.toNat_ofNat, BitVec.toNat_ofNat, show 2147483647 % 2 ^ 32 = 2 ^ 31 - 1 from rfl, Nat.and_two_pow_sub_one_eq_mod, ← Nat.mul_mod, ← Nat.add_mod, Nat.mod_mod_of_dvd _ (by decide)]
  exact (Nat.mod_eq_of_lt (Nat.lt_trans (Nat.mod_lt _ (by decide)) (by decide))).symm
theorem ran_l (a : Nat) : ranF (Int64.ofNat a) = Int64.ofNat ((a * 1103515245 + 12345) % 2147483648) := by
  apply Int64.toBitVec_inj.mp
  apply BitVec.eq_of_toNat_eq
  show ((BitVec.ofNat 64 a * BitVec.ofNat 64 1103515245 + BitVec.ofNat 64 12345) &&& BitVec.ofNat 64 2147483647).toNat = (BitVec.ofNat 64 ((a * 1103515245 + 12345) % 2147483648)).toNat
  rw [BitVec.toNat_and, BitVec.toNat_add, BitVec.toNat_mul, BitVec.toNat_ofNat, BitVec.toNat_ofNat, BitVec.toNat_ofNat, BitVec.toNat_ofNat, BitVec.toNat_ofNat, show 2147483647 % 2 ^ 64 = 2 ^ 31 - 1 from rfl, Nat.and_two_pow_sub_one_eq_mod, ← Nat.mul_mod, ← Nat.add_mod, Nat.mod_mod_of_dvd _ (by decide)]
  exact (Nat.mod_eq_of_lt (Nat.lt_trans (Nat.mod_lt _ (by decide)) (by decide))).symm
theorem nI_64 {a : Nat} (h : a < 2147483648) : (nI a).toInt64 = Int64.ofNat a := Int32.toInt64_ofNat' (by rw [Int32.toInt_maxValue]; omega)
theorem ran_r {x : Int32} (h : 0 ≤ x) : (x * 1103515245 + nI 12345 &&& 2147483647).toInt64 = ranF x.toInt64 ∧ 0 ≤ x * 1103515245 + nI 12345 &&& 2147483647 := by
  obtain ⟨a, ha, rfl⟩ := nI_of (Int32.not_lt.mpr h)
  rw [ran_i, nI_64 (by omega), nI_64 (by omega), ran_l]
  exact ⟨rfl, nI_pos' (by omega)⟩
theorem o64_i {n : Nat} (h : n < 2147483648) : (Int64.ofNat n).toInt = n := by rw [← nI_64 h, Int32.toInt_toInt64, nI_toInt (by omega)]
theorem ran_c {x y : Int32} (h : 0 ≤ x) : ((x >>> (nI 16 &&& 31)) - (x >>> (nI 16 &&& 31)) / nI 100 * nI 100 < y) ↔ (x.toInt64 / 65536 - x.toInt64 / 65536 / 100 * 100 < y.toInt64) := by
  obtain ⟨a, ha, rfl⟩ := nI_of (Int32.not_lt.mpr h)
  rw [pk_shrN ha _ 16 (by decide), nI_64 (by omega)]
  have e1 : Int64.ofNat a / 65536 = Int64.ofNat (a / 65536) := by
    apply Int64.toInt_inj.mp
    rw [Int64.toInt_div_of_ne_right _ _ (by decide), o64_i (by omega), o64_i (by omega), show (65536 : Int64).toInt = ((65536 : Nat) : Int) from rfl, Int.tdiv_eq_ediv_of_nonneg (by omega)]
    omega
  have e2 : Int64.ofNat (a / 65536) / 100 = Int64.ofNat (a / 65536 / 100) := by
    apply Int64.toInt_inj.mp
    rw [Int64.toInt_div_of_ne_right _ _ (by decide), o64_i (by omega), o64_i (by omega), show (100 : Int64).toInt = ((100 : Nat) : Int) from rfl, Int.tdiv_eq_ediv_of_nonneg (by omega)]
    omega
  have e3 : nI (a / 2 ^ 16) / nI 100 = nI (a / 65536 / 100) := by
    apply Int32.toInt_inj.mp
    rw [Int32.toInt_div_of_ne_right _ _ (by decide), nI_toInt (by omega), nI_toInt (by omega), nI_toInt (by omega), Int.tdiv_eq_ediv_of_nonneg (by omega)]
    omega
  rw [e1, e2, e3]
  generalize hq : a / 65536 = q
  have hq' : q < 32768 := by omega
  have e4 : nI q - nI (q / 100) * nI 100 = nI (q % 100) := by
    rw [nI_mulE]
    apply Int32.toInt_inj.mp
    rw [Int32.toInt_sub, nI_toInt (by omega), nI_toInt (by omega), nI_toInt (by omega), Int.bmod_eq_of_le (by omega) (by omega)]
    omega
  have e5 : Int64.ofNat q - Int64.ofNat (q / 100) * 100 = Int64.ofNat (q % 100) := by
    rw [show (100 : Int64) = Int64.ofNat 100 from rfl, ← Int64.ofNat_mul]
    apply Int64.toInt_inj.mp
    rw [Int64.toInt_sub, o64_i (by omega), o64_i (by omega), o64_i (by omega), bm64 (by omega) (by omega)]
    omega
  rw [e4, e5, ← nI_64 (by omega), Int32.toInt64_lt]
theorem c10_doesThunder {d : Nat} {s : Nat → Int32} {A : Nat → Nat → Int32} {L : LL} {M : Nat → MR} {T : TV} {np nb nn : Nat} (hR : RT A T np nb nn) (hT : WT T np nb nn) {σ : Prop} {V : CV} {c : Nat} {z : Int32} {y : Int32 × Int32 × Int32} (hc : c < 23) (hC : CR σ np nb nn (M c) V) (hY : RY (s 48) z y) : Tr d 0 0 m10_doesThunder [.ref 0, .int (nI c), .int z] (modW s A L M) (fun r w' => ∃ M', w' = modW s A L M' ∧ (∀ i, i ≠ c → M' i = M i) ∧ CR σ np nb nn (M' c) (thF y T V).2 ∧ r = some (.int (thF y T V).1)) := by
  have e3 := hR.2.2.2.1
  rcases hY with ⟨ht, rfl, rfl⟩ | ⟨rfl, rfl⟩
  · refine Tr.intro (by decide) rfl ?_
    refine J_aload_n (pc := 0) D10_doesThunder_0 rfl ?_
    refine J_getf (pc := 1) D10_doesThunder_1 fl10_356 rfl rfl ?_
    refine J_iconst (pc := 4) (v := (nI 1)) D10_doesThunder_4 (by decide) ?_
    refine J_icmp_ne (pc := 5) (tgt := 12) D10_doesThunder_5 (by decide) (fun h5 => ?_) (fun h5 => absurd h5 (by rw [ht]; decide))
    refine J_aload_n (pc := 12) D10_doesThunder_12 rfl ?_
    refine J_getf (pc := 13) D10_doesThunder_13 fl10_13 rfl rfl ?_
    refine J_iconst (pc := 16) (v := (nI 3)) D10_doesThunder_16 (by decide) ?_
    refine J_mald (pc := 17) D10_doesThunder_17 ma_3 rfl (by omega) rfl ?_
    rw [e3]
    refine J_istore_n (pc := 18) D10_doesThunder_18 rfl ?_
    refine J_iload_n (pc := 19) D10_doesThunder_19 rfl ?_
    refine J_if_eq (pc := 20) (tgt := 33) D10_doesThunder_20 (by decide) (fun h20 => absurd h20 (by decide)) (fun h20 => ?_)
    refine J_iload_n (pc := 23) D10_doesThunder_23 rfl ?_
    refine J_if_eq (pc := 24) (tgt := 33) D10_doesThunder_24 (by decide) (fun h24 => ?_) (fun h24 => ?_)
    · have h24' := eq_true h24
      refine J_iload_n (pc := 33) D10_doesThunder_33 rfl ?_
      refine J_bipush (pc := 34) (v := (nI 50)) D10_doesThunder_34 (by decide) ?_
      refine J_icmp_lt (pc := 36) (tgt := 43) D10_doesThunder_36 (by decide) (fun h36 => ?_) (fun h36 => ?_)
      · have h36' := Int32.not_le.mpr h36
        refine J_iconst (pc := 43) (v := (nI 0)) D10_doesThunder_43 (by decide) ?_
        refine J_zret (pc := 44) D10_doesThunder_44 rfl (by decide) ?_
        rw [show thF y0 T V = (i01 (T.1 15 = nI 100), V) from if_pos (Or.inl h24)]
        exact ⟨M, rfl, fun _ _ => rfl, hC, congrArg (fun q => some (Value.int q)) (i01_f (fun q => absurd (h24.symm.trans q) (by decide))).symm⟩
      · have h36' := Int32.not_lt.mp h36
        refine J_iconst (pc := 39) (v := (nI 1)) D10_doesThunder_39 (by decide) ?_
        refine J_goto (pc := 40) (tgt := 44) D10_doesThunder_40 (by decide) ?_
        refine J_zret (pc := 44) D10_doesThunder_44 rfl (by decide) ?_
        exact absurd (Int32.not_lt.mp h36) (by rw [h24]; decide)
    · refine J_iload_n (pc := 27) D10_doesThunder_27 rfl ?_
      refine J_bipush (pc := 28) (v := (nI 100)) D10_doesThunder_28 (by decide) ?_
      refine J_icmp_ne (pc := 30) (tgt := 45) D10_doesThunder_30 (by decide) (fun h30 => ?_) (fun h30 => ?_)
      · refine J_aload_n (pc := 45) D10_doesThunder_45 rfl ?_
        refine J_getf (pc := 46) D10_doesThunder_46 fl10_78 rfl rfl ?_
        refine J_iload_n (pc := 49) D10_doesThunder_49 rfl ?_
        refine J_aload_n (pc := 50) D10_doesThunder_50 rfl ?_
        refine J_getf (pc := 51) D10_doesThunder_51 fl10_78 rfl rfl ?_
        refine J_iload_n (pc := 54) D10_doesThunder_54 rfl ?_
        refine J_msld (pc := 55) D10_doesThunder_55 mq_drawn rfl (by omega) ?_
        refine J_ldc_w (pc := 56) D10_doesThunder_56 t1679 ?_
        refine J_imul (pc := 59) D10_doesThunder_59 ?_
        refine J_sipush (pc := 60) (v := (nI 12345)) D10_doesThunder_60 (by decide) ?_
        refine J_iadd (pc := 63) D10_doesThunder_63 ?_
        refine J_ldc_w (pc := 64) D10_doesThunder_64 t1680 ?_
        refine J_iand (pc := 67) D10_doesThunder_67 ?_
        refine J_msst (pc := 68) D10_doesThunder_68 mq_drawn rfl (by omega) ?_
        refine J_aload_n (pc := 69) D10_doesThunder_69 rfl ?_
        refine J_getf (pc := 70) D10_doesThunder_70 fl10_78 rfl rfl ?_
        refine J_iload_n (pc := 73) D10_doesThunder_73 rfl ?_
        refine J_msld (pc := 74) D10_doesThunder_74 mq_drawn rfl (by omega) ?_
        refine J_st (.int ((M c).2.1 * 1103515245 + nI 12345 &&& 2147483647) :: []) (by rw [upM_s]; rfl) ?_
        refine J_bipush (pc := 75) (v := (nI 16)) D10_doesThunder_75 (by decide) ?_
        refine J_ishr (pc := 77) D10_doesThunder_77 ?_
        refine J_bipush (pc := 78) (v := (nI 100)) D10_doesThunder_78 (by decide) ?_
        refine J_irem (pc := 80) D10_doesThunder_80 (by decide) ?_
        refine J_iload_n (pc := 81) D10_doesThunder_81 rfl ?_
        refine J_icmp_ge (pc := 82) (tgt := 89) D10_doesThunder_82 (by decide) (fun h82 => ?_) (fun h82 => ?_)
        · have h82' := Int32.not_lt.mpr h82
          refine J_iconst (pc := 89) (v := (nI 0)) D10_doesThunder_89 (by decide) ?_
          refine J_zret (pc := 90) D10_doesThunder_90 rfl (by decide) ?_
          rw [show thF y0 T V = (i01 (ranF V.2.1 / 65536 - ranF V.2.1 / 65536 / 100 * 100 < (T.1 15).toInt64), (V.1, ranF V.2.1, V.2.2)) from by unfold thF; rw [if_neg (by decide), if_neg (by decide), if_neg (fun q => q.elim h24 h30)]]
          have hr := ran_r hC.2.1.2
          have hr1 := hr.1
          rw [hC.2.1.1] at hr1
          refine ⟨_, rfl, fun i hi => upM_n hi, by rw [upM_s]; exact hC.drw hr1 hr.2, congrArg (fun q => some (Value.int q)) ?_⟩
          rw [← hr1]
          exact (i01_f (fun q => absurd ((ran_c hr.2).mpr q) (Int32.not_lt.mpr h82))).symm
        · have h82' := Int32.not_le.mp h82
          refine J_iconst (pc := 85) (v := (nI 1)) D10_doesThunder_85 (by decide) ?_
          refine J_goto (pc := 86) (tgt := 90) D10_doesThunder_86 (by decide) ?_
          refine J_zret (pc := 90) D10_doesThunder_90 rfl (by decide) ?_
          rw [show thF y0 T V = (i01 (ranF V.2.1 / 65536 - ranF V.2.1 / 65536 / 100 * 100 < (T.1 15).toInt64), (V.1, ranF V.2.1, V.2.2)) from by unfold thF; rw [if_neg (by decide), if_neg (by decide), if_neg (fun q => q.elim h24 h30)]]
          have hr := ran_r hC.2.1.2
          have hr1 := hr.1
          rw [hC.2.1.1] at hr1
          refine ⟨_, rfl, fun i hi => upM_n hi, by rw [upM_s]; exact hC.drw hr1 hr.2, congrArg (fun q => some (Value.int q)) ?_⟩
          rw [← hr1]
          exact (i01_t ((ran_c hr.2).mp (Int32.not_le.mp h82))).symm
      · have h30' := eq_true h30
        refine J_iload_n (pc := 33) D10_doesThunder_33 rfl ?_
        refine J_bipush (pc := 34) (v := (nI 50)) D10_doesThunder_34 (by decide) ?_
        refine J_icmp_lt (pc := 36) (tgt := 43) D10_doesThunder_36 (by decide) (fun h36 => ?_) (fun h36 => ?_)
        · have h36' := Int32.not_le.mpr h36
          refine J_iconst (pc := 43) (v := (nI 0)) D10_doesThunder_43 (by decide) ?_
          refine J_zret (pc := 44) D10_doesThunder_44 rfl (by decide) ?_
          exact absurd h36 (by rw [h30]; decide)
        · have h36' := Int32.not_lt.mp h36
          refine J_iconst (pc := 39) (v := (nI 1)) D10_doesThunder_39 (by decide) ?_
          refine J_goto (pc := 40) (tgt := 44) D10_doesThunder_40 (by decide) ?_
          refine J_zret (pc := 44) D10_doesThunder_44 rfl (by decide) ?_
          rw [show thF y0 T V = (i01 (T.1 15 = nI 100), V) from if_pos (Or.inr h30)]
          exact ⟨M, rfl, fun _ _ => rfl, hC, congrArg (fun q => some (Value.int q)) (i01_t h30).symm⟩
  · refine Tr.intro (by decide) rfl ?_
    refine J_aload_n (pc := 0) D10_doesThunder_0 rfl ?_
    refine J_getf (pc := 1) D10_doesThunder_1 fl10_356 rfl rfl ?_
    refine J_iconst (pc := 4) (v := (nI 1)) D10_doesThunder_4 (by decide) ?_
    refine J_icmp_ne (pc := 5) (tgt := 12) D10_doesThunder_5 (by decide) (fun h5 => ?_) (fun h5 => ?_)
    · refine J_aload_n (pc := 12) D10_doesThunder_12 rfl ?_
      refine J_getf (pc := 13) D10_doesThunder_13 fl10_13 rfl rfl ?_
      refine J_iconst (pc := 16) (v := (nI 3)) D10_doesThunder_16 (by decide) ?_
      refine J_mald (pc := 17) D10_doesThunder_17 ma_3 rfl (by omega) rfl ?_
      rw [e3]
      refine J_istore_n (pc := 18) D10_doesThunder_18 rfl ?_
      refine J_iload_n (pc := 19) D10_doesThunder_19 rfl ?_
      refine J_if_eq (pc := 20) (tgt := 33) D10_doesThunder_20 (by decide) (fun h20 => ?_) (fun h20 => absurd rfl h20)
      refine J_iload_n (pc := 33) D10_doesThunder_33 rfl ?_
      refine J_bipush (pc := 34) (v := (nI 50)) D10_doesThunder_34 (by decide) ?_
      refine J_icmp_lt (pc := 36) (tgt := 43) D10_doesThunder_36 (by decide) (fun h36 => ?_) (fun h36 => ?_)
      · have h36' := Int32.not_le.mpr h36
        refine J_iconst (pc := 43) (v := (nI 0)) D10_doesThunder_43 (by decide) ?_
        refine J_zret (pc := 44) D10_doesThunder_44 rfl (by decide) ?_
        rw [show thF (trY (s 48)) T V = (i01 (nI 50 ≤ T.1 15), V) from by unfold thF trY; rw [if_neg h5]; rfl]
        exact ⟨M, rfl, fun _ _ => rfl, hC, congrArg (fun q => some (Value.int q)) (i01_f (Int32.not_le.mpr h36)).symm⟩
      · have h36' := Int32.not_lt.mp h36
        refine J_iconst (pc := 39) (v := (nI 1)) D10_doesThunder_39 (by decide) ?_
        refine J_goto (pc := 40) (tgt := 44) D10_doesThunder_40 (by decide) ?_
        refine J_zret (pc := 44) D10_doesThunder_44 rfl (by decide) ?_
        rw [show thF (trY (s 48)) T V = (i01 (nI 50 ≤ T.1 15), V) from by unfold thF trY; rw [if_neg h5]; rfl]
        exact ⟨M, rfl, fun _ _ => rfl, hC, congrArg (fun q => some (Value.int q)) (i01_t (Int32.not_lt.mp h36)).symm⟩
    · have h5' := eq_true h5
      refine J_iconst (pc := 8) (v := (nI 0)) D10_doesThunder_8 (by decide) ?_
      refine J_goto (pc := 9) (tgt := 18) D10_doesThunder_9 (by decide) ?_
      refine J_istore_n (pc := 18) D10_doesThunder_18 rfl ?_
      refine J_iload_n (pc := 19) D10_doesThunder_19 rfl ?_
      refine J_if_eq (pc := 20) (tgt := 33) D10_doesThunder_20 (by decide) (fun h20 => ?_) (fun h20 => absurd rfl h20)
      refine J_iload_n (pc := 33) D10_doesThunder_33 rfl ?_
      refine J_bipush (pc := 34) (v := (nI 50)) D10_doesThunder_34 (by decide) ?_
      refine J_icmp_lt (pc := 36) (tgt := 43) D10_doesThunder_36 (by decide) (fun h36 => ?_) (fun h36 => ?_)
      · have h36' := Int32.not_le.mpr h36
        refine J_iconst (pc := 43) (v := (nI 0)) D10_doesThunder_43 (by decide) ?_
        refine J_zret (pc := 44) D10_doesThunder_44 rfl (by decide) ?_
        rw [show thF (trY (s 48)) T V = (0, V) from if_pos (if_pos h5)]
        exact ⟨M, rfl, fun _ _ => rfl, hC, rfl⟩
      · have h36' := Int32.not_lt.mp h36
        refine J_iconst (pc := 39) (v := (nI 1)) D10_doesThunder_39 (by decide) ?_
        refine J_goto (pc := 40) (tgt := 44) D10_doesThunder_40 (by decide) ?_
        refine J_zret (pc := 44) D10_doesThunder_44 rfl (by decide) ?_
        exact absurd (Int32.not_lt.mp h36) (by decide)
def GI (σ : Prop) (np nb nn c : Nat) (s0 : Nat → Int32) (A0 : Nat → Nat → Int32) (M0 : Nat → MR) (s : Nat → Int32) (A : Nat → Nat → Int32) (M : Nat → MR) (S : GS) : Prop := IV σ np nb nn c s0 A0 M0 s A M S.1 ∧ QW S.2.1 S.2.2 nb ∧ (∀ j, j < S.2.2 → A 49 j = S.2.1 j) ∧ S.2.2 + lyN (M c) nb ≤ nb
theorem goS_p {T : TV} {bin : Int32} {b : Nat} {S : GS} (h1 : S.1.2.2.2 3 b = 0) (h2 : S.1.2.2.2 0 b = bin) (h3 : S.2.2 < 10) (h4 : ¬ burF T S.1 b = 0) : goS T bin b S = (lvV S.1 b (nI 2), upd S.2.1 S.2.2 (nI b), S.2.2 + 1) := if_pos ⟨h1, h2, h3, h4⟩
theorem GI.step {σ : Prop} {np nb nn c : Nat} {s0 s s' : Nat → Int32} {A0 A : Nat → Nat → Int32} {M0 M : Nat → MR} {S : GS} {b : Nat} (h : GI σ np nb nn c s0 A0 M0 s A M S) (hs : SC s A s' A) (hb : b < nb) (hnb : nb ≤ 10) (hl : S.1.2.2.2 3 b = 0) : GI σ np nb nn c s0 A0 M0 s' (upA A 49 (upd (A 49) S.2.2 (nI b))) (upM M c (setm (M c) 3 b (nI 2))) (lvV S.1 b (nI 2), upd S.2.1 S.2.2 (nI b), S.2.2 + 1) := by
  obtain ⟨h1, h2, h3, h4⟩ := h
  have hm := (h1.2.2.ly hb).mpr hl
  have hp := lyN_pos hm nb hb
  refine ⟨((h1.sc hs).sc SC.a49).put (h1.2.2.leave hb hl (by decide)), h2.push (by omega) hb, fun j hj => ?_, ?_⟩
  · show upA A 49 (upd (A 49) S.2.2 (nI b)) 49 j = upd S.2.1 S.2.2 (nI b) j
    rw [upA_s]
    by_cases e : j = S.2.2
    · rw [e, pk_us, pk_us]
    · rw [pk_un e, pk_un e]
      have : j < S.2.2 + 1 := hj
      exact h3 j (by omega)
  · rw [upM_s]
    have := lyN_leave (x := nI 2) hm (by decide) nb hb
    show S.2.2 + 1 + _ ≤ nb
    omega
theorem L10_goI {d : Nat} {T : TV} {np nb nn c : Nat} {σ : Prop} {s0 : Nat → Int32} {A0 : Nat → Nat → Int32} {M0 : Nat → MR} (hR0 : RT A0 T np nb nn) (hT : WT T np nb nn) (hc : c < 23) {b0 bin : Int32} {x : Nat} {Q : Option Value → List EC → Prop} : ∀ (g b : Nat) (S : GS) (s : Nat → Int32) (A : Nat → Nat → Int32) (L : LL) (M : Nat → MR), b + g = nb → GI σ np nb nn c s0 A0 M0 s A M S →
    (∀ s A L M, GI σ np nb nn c s0 A0 M0 s A M (goI T bin g b S) → J m10_goesOff (d + 4) 0 0 40 141 [(0, .ref 0), (1, .int (nI c)), (2, .int b0), (3, .int (nI (goI T bin g b S).2.2)), (4, .int (nI x))] [] (modW s A L M) 0 0 Q) →
    J m10_goesOff (d + 4) 0 0 40 60 [(0, .ref 0), (1, .int (nI c)), (2, .int b0), (3, .int (nI S.2.2)), (4, .int (nI x)), (5, .int bin), (6, .int (nI b))] [] (modW s A L M) 0 0 Q := by
  have hnb := hT.2.2.2.2.1
  have hnp := hT.2.2.2.1
  have hnn := hT.2.2.2.2.2.1
  intro g
  induction g with
  | zero =>
    intro b S s A L M hb hG K
    have hR := hG.1.1.rt hR0
    refine J_iload (pc := 60) D10_goesOff_60 rfl ?_
    refine J_aload_n (pc := 62) D10_goesOff_62 rfl ?_
    refine J_getf (pc := 63) D10_goesOff_63 fl10_13 rfl rfl ?_
    refine J_iconst (pc := 66) (v := (nI 1)) D10_goesOff_66 (by decide) ?_
    refine J_mald (pc := 67) D10_goesOff_67 ma_3 rfl (by omega) rfl ?_
    refine J_st [.int (nI nb), .int (nI b)] (by rw [← hR.2.1]) ?_
    refine J_icmp_ge (pc := 68) (tgt := 141) D10_goesOff_68 (by decide) (fun h68 => ?_) (fun h68 => absurd (nI_le (by omega) (by omega)) h68)
    refine J_lk [(0, .ref 0), (1, .int (nI c)), (2, .int b0), (3, .int (nI S.2.2)), (4, .int (nI x))] rfl ?_
    exact K s A L M hG
  | succ g ih =>
    intro b S s A L M hb hG K
    have hR := hG.1.1.rt hR0
    have e0 := (hG.1.2.2.2.2.2.1 b (by omega)).1
    have ely := hG.1.2.2.ly (b := b) (by omega)
    refine J_iload (pc := 60) D10_goesOff_60 rfl ?_
    refine J_aload_n (pc := 62) D10_goesOff_62 rfl ?_
    refine J_getf (pc := 63) D10_goesOff_63 fl10_13 rfl rfl ?_
    refine J_iconst (pc := 66) (v := (nI 1)) D10_goesOff_66 (by decide) ?_
    refine J_mald (pc := 67) D10_goesOff_67 ma_3 rfl (by omega) rfl ?_
    refine J_st [.int (nI nb), .int (nI b)] (by rw [← hR.2.1]) ?_
    refine J_icmp_ge (pc := 68) (tgt := 141) D10_goesOff_68 (by decide) (fun h68 => absurd h68 (nI_ge (by omega) (by omega))) (fun h68 => ?_)
    refine J_aload_n (pc := 71) D10_goesOff_71 rfl ?_
    refine J_iload_n (pc := 72) D10_goesOff_72 rfl ?_
    refine J_iload (pc := 73) D10_goesOff_73 rfl ?_
    refine J_callVTR (pc := 75) (ac := [.int _, .int _]) D10_goesOff_75 m10_isLying_v t1583 (c10_isLying (d := d + 3) (c := c) (b := b) hc (by omega)) (by omega) rfl rfl rfl rfl (fun _ => rfl) rfl rfl rfl ?_
    refine J_if_eq (pc := 78) (tgt := 135) D10_goesOff_78 (by decide) (fun h78 => ?_) (fun h78 => ?_)
    · have h78' := eq_true h78
      replace h78 := i01_z h78
      refine J_iinc (pc := 135) D10_goesOff_135 rfl (nI_inc _) rfl ?_
      refine J_goto (pc := 138) (tgt := 60) D10_goesOff_138 (by decide) ?_
      have e9 : goS T bin b S = S := if_neg (fun q => h78 (ely.mpr q.1))
      refine J_lk [(0, .ref 0), (1, .int (nI c)), (2, .int b0), (3, .int (nI S.2.2)), (4, .int (nI x)), (5, .int bin), (6, .int (nI (b + 1)))] rfl ?_
      exact ih (b + 1) S s A L M (by omega) hG (by rw [show goI T bin (g + 1) b S = goI T bin g (b + 1) S from congrArg (goI T bin g (b + 1)) e9] at K; exact K)
    · replace h78 := i01_nz h78
      refine J_aload_n (pc := 81) D10_goesOff_81 rfl ?_
      refine J_getf (pc := 82) D10_goesOff_82 fl10_93 rfl rfl ?_
      refine J_bipush (pc := 85) (v := (nI 10)) D10_goesOff_85 (by decide) ?_
      refine J_iload_n (pc := 87) D10_goesOff_87 rfl ?_
      refine J_imul (pc := 88) D10_goesOff_88 ?_
      refine J_iload (pc := 89) D10_goesOff_89 rfl ?_
      refine J_iadd (pc := 91) D10_goesOff_91 ?_
      refine J_mcld (pc := 92) (stp := 10) D10_goesOff_92 mc_0 (ixm _ _ _) (by omega) (by omega) rfl ?_
      refine J_iload (pc := 93) D10_goesOff_93 rfl ?_
      refine J_icmp_ne (pc := 95) (tgt := 135) D10_goesOff_95 (by decide) (fun h95 => ?_) (fun h95 => ?_)
      · refine J_iinc (pc := 135) D10_goesOff_135 rfl (nI_inc _) rfl ?_
        refine J_goto (pc := 138) (tgt := 60) D10_goesOff_138 (by decide) ?_
        have e9 : goS T bin b S = S := if_neg (fun q => h95 (e0.trans q.2.1))
        refine J_lk [(0, .ref 0), (1, .int (nI c)), (2, .int b0), (3, .int (nI S.2.2)), (4, .int (nI x)), (5, .int bin), (6, .int (nI (b + 1)))] rfl ?_
        exact ih (b + 1) S s A L M (by omega) hG (by rw [show goI T bin (g + 1) b S = goI T bin g (b + 1) S from congrArg (goI T bin g (b + 1)) e9] at K; exact K)
      · have h95' := eq_true h95
        refine J_aload_n (pc := 98) D10_goesOff_98 rfl ?_
        refine J_iload_n (pc := 99) D10_goesOff_99 rfl ?_
        refine J_iload (pc := 100) D10_goesOff_100 rfl ?_
        refine J_callVT (pc := 102) (ac := [.int _, .int _]) D10_goesOff_102 m10_isSetOff_v t1698 (c10_isSetOff (d := d) hR hT hc hG.1.2.2 (b := b) (by omega)) (by omega) rfl rfl rfl rfl rfl rfl rfl (fun r w' hq hl => ?_)
        obtain ⟨rfl, x', L', rfl⟩ := hq
        refine J_if_ne (pc := 105) (tgt := 111) D10_goesOff_105 (by decide) (fun h105 => ?_) (fun h105 => ?_)
        · refine J_aload_n (pc := 111) D10_goesOff_111 rfl ?_
          refine J_getf (pc := 112) D10_goesOff_112 fl10_96 rfl rfl ?_
          refine J_bipush (pc := 115) (v := (nI 10)) D10_goesOff_115 (by decide) ?_
          refine J_iload_n (pc := 117) D10_goesOff_117 rfl ?_
          refine J_imul (pc := 118) D10_goesOff_118 ?_
          refine J_iload (pc := 119) D10_goesOff_119 rfl ?_
          refine J_iadd (pc := 121) D10_goesOff_121 ?_
          refine J_iconst (pc := 122) (v := (nI 2)) D10_goesOff_122 (by decide) ?_
          refine J_mcst (pc := 123) (stp := 10) D10_goesOff_123 mc_3 (ixm _ _ _) (by omega) (by omega) rfl ?_
          refine J_aload_n (pc := 124) D10_goesOff_124 rfl ?_
          refine J_getf (pc := 125) D10_goesOff_125 fl10_105 rfl rfl ?_
          refine J_iload_n (pc := 128) D10_goesOff_128 rfl ?_
          refine J_iload (pc := 129) D10_goesOff_129 rfl ?_
          refine J_mast (pc := 131) D10_goesOff_131 ma_49 rfl (by have hl9 := lyN_pos h78 nb (by omega); have hq9 := hG.2.2.2; omega) rfl ?_
          refine J_iinc (pc := 132) D10_goesOff_132 rfl (nI_inc _) rfl ?_
          refine J_iinc (pc := 135) D10_goesOff_135 rfl (nI_inc _) rfl ?_
          refine J_goto (pc := 138) (tgt := 60) D10_goesOff_138 (by decide) ?_
          have hl9 := ely.mp h78
          have hp9 := lyN_pos h78 nb (by omega)
          have hq9 := hG.2.2.2
          have e9 := goS_p (T := T) (bin := bin) hl9 (e0.symm.trans h95) (by omega) h105
          refine J_lk [(0, .ref 0), (1, .int (nI c)), (2, .int b0), (3, .int (nI (goS T bin b S).2.2)), (4, .int (nI x)), (5, .int bin), (6, .int (nI (b + 1)))] (by rw [e9]; rfl) ?_
          exact ih (b + 1) (goS T bin b S) _ _ _ _ (by omega) (by rw [e9]; exact hG.step SC.s35 (by omega) (by omega) hl9) K
        · have h105' := eq_true h105
          refine J_goto (pc := 108) (tgt := 135) D10_goesOff_108 (by decide) ?_
          refine J_iinc (pc := 135) D10_goesOff_135 rfl (nI_inc _) rfl ?_
          refine J_goto (pc := 138) (tgt := 60) D10_goesOff_138 (by decide) ?_
          have e9 : goS T bin b S = S := if_neg (fun q => q.2.2.2 h105)
          refine J_lk [(0, .ref 0), (1, .int (nI c)), (2, .int b0), (3, .int (nI S.2.2)), (4, .int (nI x)), (5, .int bin), (6, .int (nI (b + 1)))] rfl ?_
          exact ih (b + 1) S _ A _ M (by omega) ⟨hG.1.sc SC.s35, hG.2⟩ (by rw [show goI T bin (g + 1) b S = goI T bin g (b + 1) S from congrArg (goI T bin g (b + 1)) e9] at K; exact K)
theorem L10_goO {d : Nat} {T : TV} {np nb nn c : Nat} {σ : Prop} {s0 : Nat → Int32} {A0 : Nat → Nat → Int32} {M0 : Nat → MR} (hR0 : RT A0 T np nb nn) (hT : WT T np nb nn) (hc : c < 23) {b0 : Int32} (ht : ¬ s0 48 = nI 3) : ∀ (g x : Nat) (S : GS) (s : Nat → Int32) (A : Nat → Nat → Int32) (L : LL) (M : Nat → MR), x + g = 10 → GI σ np nb nn c s0 A0 M0 s A M S → J m10_goesOff (d + 4) 0 0 40 24 [(0, .ref 0), (1, .int (nI c)), (2, .int b0), (3, .int (nI S.2.2)), (4, .int (nI x))] [] (modW s A L M) 0 0 (mQ c s0 A0 M0 (fun m => CR σ np nb nn m (goO T nb g x S).1)) := by
  have hnb := hT.2.2.2.2.1
  have hnp := hT.2.2.2.1
  have hnn := hT.2.2.2.2.2.1
  intro g
  induction g with
  | zero =>
    intro x S s A L M hx hG
    have hcl := hG.2.1.1
    refine J_iload (pc := 24) D10_goesOff_24 rfl ?_
    refine J_iload_n (pc := 26) D10_goesOff_26 rfl ?_
    refine J_icmp_ge (pc := 27) (tgt := 147) D10_goesOff_27 (by decide) (fun h27 => ?_) (fun h27 => absurd (nI_le (by omega) (by omega)) h27)
    refine J_vret (pc := 147) D10_goesOff_147 rfl ?_
    exact hG.1.q
  | succ g ih =>
    intro x S s A L M hx hG
    have hcl := hG.2.1.1
    have es : s 48 = s0 48 := hG.1.1.1 48 (by decide)
    by_cases hxc : x < S.2.2
    · obtain ⟨b1, hb1, eb1⟩ := hG.2.1.2 x hxc
      have e49 := hG.2.2.1 x hxc
      have e0 := (hG.1.2.2.2.2.2.1 b1 hb1).1
      have eg : goO T nb (g + 1) x S = goO T nb g (x + 1) (goI T (S.1.2.2.2 0 b1) nb 0 S) := by
        rw [goO, if_pos ⟨hxc, by omega⟩, eb1, nI_clamp (by omega)]
      rw [eg]
      refine J_iload (pc := 24) D10_goesOff_24 rfl ?_
      refine J_iload_n (pc := 26) D10_goesOff_26 rfl ?_
      refine J_icmp_ge (pc := 27) (tgt := 147) D10_goesOff_27 (by decide) (fun h27 => absurd h27 (nI_ge (by omega) (by omega))) (fun h27 => ?_)
      refine J_aload_n (pc := 30) D10_goesOff_30 rfl ?_
      refine J_getf (pc := 31) D10_goesOff_31 fl10_356 rfl rfl ?_
      refine J_iconst (pc := 34) (v := (nI 3)) D10_goesOff_34 (by decide) ?_
      refine J_icmp_eq (pc := 35) (tgt := 147) D10_goesOff_35 (by decide) (fun h35 => absurd h35 (by rw [es]; exact ht)) (fun h35 => ?_)
      refine J_aload_n (pc := 38) D10_goesOff_38 rfl ?_
      refine J_getf (pc := 39) D10_goesOff_39 fl10_93 rfl rfl ?_
      refine J_bipush (pc := 42) (v := (nI 10)) D10_goesOff_42 (by decide) ?_
      refine J_iload_n (pc := 44) D10_goesOff_44 rfl ?_
      refine J_imul (pc := 45) D10_goesOff_45 ?_
      refine J_aload_n (pc := 46) D10_goesOff_46 rfl ?_
      refine J_getf (pc := 47) D10_goesOff_47 fl10_105 rfl rfl ?_
      refine J_iload (pc := 50) D10_goesOff_50 rfl ?_
      refine J_mald (pc := 52) D10_goesOff_52 ma_49 rfl (by omega) rfl ?_
      refine J_st (.int (nI b1) :: .int (nI 10 * nI c) :: .ref 27 :: []) (by rw [e49, eb1]) ?_
      refine J_iadd (pc := 53) D10_goesOff_53 ?_
      refine J_mcld (pc := 54) (stp := 10) D10_goesOff_54 mc_0 (ixm _ _ _) (by omega) (by omega) rfl ?_
      rw [e0]
      refine J_istore (pc := 55) D10_goesOff_55 rfl ?_
      refine J_iconst (pc := 57) (v := (nI 0)) D10_goesOff_57 (by decide) ?_
      refine J_istore (pc := 58) D10_goesOff_58 rfl ?_
      refine L10_goI hR0 hT hc nb 0 S s A L M (by omega) hG (fun s2 A2 L2 M2 hG2 => ?_)
      refine J_iinc (pc := 141) D10_goesOff_141 rfl (nI_inc _) rfl ?_
      refine J_goto (pc := 144) (tgt := 24) D10_goesOff_144 (by decide) ?_
      exact ih (x + 1) _ s2 A2 L2 M2 (by omega) hG2
    · rw [show goO T nb (g + 1) x S = S from by rw [goO, if_neg (fun q => hxc q.1)]]
      refine J_iload (pc := 24) D10_goesOff_24 rfl ?_
      refine J_iload_n (pc := 26) D10_goesOff_26 rfl ?_
      refine J_icmp_ge (pc := 27) (tgt := 147) D10_goesOff_27 (by decide) (fun h27 => ?_) (fun h27 => absurd (nI_le (by omega) (by omega)) h27)
      refine J_vret (pc := 147) D10_goesOff_147 rfl ?_
      exact hG.1.q
theorem c10_goesOff {d : Nat} {s : Nat → Int32} {A : Nat → Nat → Int32} {L : LL} {M : Nat → MR} {T : TV} {np nb nn : Nat} (hR : RT A T np nb nn) (hT : WT T np nb nn) {σ : Prop} {V : CV} {c b : Nat} {z : Int32} {y : Int32 × Int32 × Int32} (hc : c < 23) (hC : CR σ np nb nn (M c) V) (hY : RY (s 48) z y) (hb : b < nb) (hl : V.2.2.2 3 b = 0) : Tr (d + 4) 0 0 m10_goesOff [.ref 0, .int (nI c), .int (nI b)] (modW s A L M) (mQ c s A M (fun m => CR σ np nb nn m (goOffF T y nb V b))) := by
  have hnb := hT.2.2.2.2.1
  have hnp := hT.2.2.2.1
  have hnn := hT.2.2.2.2.2.1
  have hI : IV σ np nb nn c s A M s (upA A 49 (upd (A 49) 0 (nI b))) (upM M c (setm (M c) 3 b (nI 2))) (lvV V b (nI 2)) := (IV.sc (A := A) ⟨SC.rf, fun _ _ => rfl, hC⟩ SC.a49).put (hC.leave hb hl (by decide))
  have hm := (hC.ly hb).mpr hl
  by_cases ht : s 48 = nI 3
  · rw [show goOffF T y nb V b = lvV V b (nI 2) from if_pos (hY.o.1.mpr ht)]
    refine Tr.intro (by decide) rfl ?_
    refine J_aload_n (pc := 0) D10_goesOff_0 rfl ?_
    refine J_getf (pc := 1) D10_goesOff_1 fl10_96 rfl rfl ?_
    refine J_bipush (pc := 4) (v := (nI 10)) D10_goesOff_4 (by decide) ?_
    refine J_iload_n (pc := 6) D10_goesOff_6 rfl ?_
    refine J_imul (pc := 7) D10_goesOff_7 ?_
    refine J_iload_n (pc := 8) D10_goesOff_8 rfl ?_
    refine J_iadd (pc := 9) D10_goesOff_9 ?_
    refine J_iconst (pc := 10) (v := (nI 2)) D10_goesOff_10 (by decide) ?_
    refine J_mcst (pc := 11) (stp := 10) D10_goesOff_11 mc_3 (ixm _ _ _) (by omega) (by omega) rfl ?_
    refine J_aload_n (pc := 12) D10_goesOff_12 rfl ?_
    refine J_getf (pc := 13) D10_goesOff_13 fl10_105 rfl rfl ?_
    refine J_iconst (pc := 16) (v := (nI 0)) D10_goesOff_16 (by decide) ?_
    refine J_iload_n (pc := 17) D10_goesOff_17 rfl ?_
    refine J_mast (pc := 18) D10_goesOff_18 ma_49 rfl (by omega) rfl ?_
    refine J_iconst (pc := 19) (v := (nI 1)) D10_goesOff_19 (by decide) ?_
    refine J_istore_n (pc := 20) D10_goesOff_20 rfl ?_
    refine J_iconst (pc := 21) (v := (nI 0)) D10_goesOff_21 (by decide) ?_
    refine J_istore (pc := 22) D10_goesOff_22 rfl ?_
    refine J_iload (pc := 24) D10_goesOff_24 rfl ?_
    refine J_iload_n (pc := 26) D10_goesOff_26 rfl ?_
    refine J_icmp_ge (pc := 27) (tgt := 147) D10_goesOff_27 (by decide) (fun h27 => absurd h27 (by decide)) (fun h27 => ?_)
    refine J_aload_n (pc := 30) D10_goesOff_30 rfl ?_
    refine J_getf (pc := 31) D10_goesOff_31 fl10_356 rfl rfl ?_
    refine J_iconst (pc := 34) (v := (nI 3)) D10_goesOff_34 (by decide) ?_
    refine J_icmp_eq (pc := 35) (tgt := 147) D10_goesOff_35 (by decide) (fun h35 => ?_) (fun h35 => absurd ht h35)
    refine J_vret (pc := 147) D10_goesOff_147 rfl ?_
    exact hI.q
  · rw [show goOffF T y nb V b = (goO T nb 10 0 (lvV V b (nI 2), upd (fun _ => 0) 0 (nI b), 1)).1 from if_neg (fun q => ht (hY.o.1.mp q))]
    refine Tr.intro (by decide) rfl ?_
    refine J_aload_n (pc := 0) D10_goesOff_0 rfl ?_
    refine J_getf (pc := 1) D10_goesOff_1 fl10_96 rfl rfl ?_
    refine J_bipush (pc := 4) (v := (nI 10)) D10_goesOff_4 (by decide) ?_
    refine J_iload_n (pc := 6) D10_goesOff_6 rfl ?_
    refine J_imul (pc := 7) D10_goesOff_7 ?_
    refine J_iload_n (pc := 8) D10_goesOff_8 rfl ?_
    refine J_iadd (pc := 9) D10_goesOff_9 ?_
    refine J_iconst (pc := 10) (v := (nI 2)) D10_goesOff_10 (by decide) ?_
    refine J_mcst (pc := 11) (stp := 10) D10_goesOff_11 mc_3 (ixm _ _ _) (by omega) (by omega) rfl ?_
    refine J_aload_n (pc := 12) D10_goesOff_12 rfl ?_
    refine J_getf (pc := 13) D10_goesOff_13 fl10_105 rfl rfl ?_
    refine J_iconst (pc := 16) (v := (nI 0)) D10_goesOff_16 (by decide) ?_
    refine J_iload_n (pc := 17) D10_goesOff_17 rfl ?_
    refine J_mast (pc := 18) D10_goesOff_18 ma_49 rfl (by omega) rfl ?_
    refine J_iconst (pc := 19) (v := (nI 1)) D10_goesOff_19 (by decide) ?_
    refine J_istore_n (pc := 20) D10_goesOff_20 rfl ?_
    refine J_iconst (pc := 21) (v := (nI 0)) D10_goesOff_21 (by decide) ?_
    refine J_istore (pc := 22) D10_goesOff_22 rfl ?_
    exact L10_goO hR hT hc ht 10 0 (lvV V b (nI 2), upd (fun _ => 0) 0 (nI b), 1) _ _ _ _ (by omega) ⟨hI, ⟨by show 1 ≤ 10; omega, fun j hj => ⟨b, hb, by
      have : j = 0 := by have : j < 1 := hj; omega
      rw [this]; show upd (fun _ => (0 : Int32)) 0 (nI b) 0 = nI b; exact pk_us⟩⟩, fun j hj => by
      have : j = 0 := by have : j < 1 := hj; omega
      rw [this, upA_s, pk_us]; show nI b = upd (fun _ => (0 : Int32)) 0 (nI b) 0; exact pk_us.symm, by
      rw [upM_s]
      have h1 := lyN_leave (x := nI 2) hm (by decide) nb hb
      have h2 := lyN_le (m := M c) nb
      show 1 + _ ≤ nb
      omega⟩
