/-! THE MODEL: deeds (own program mod_o4.py) -/
theorem KN.put {c : Nat} {M M' : Nat → MR} {m : MR} (h : KN c M M') : ∀ i, i ≠ 0 → upM M' 0 m i = M' i := fun i hi => upM_n hi
theorem UR.put {s : Nat → Int32} {M : Nat → MR} {U : UV} {V : CV} {np nb nn : Nat} {m : MR} (h : UR s M U V np nb nn) : UR s (upM M 0 m) U V np nb nn := ⟨h.1, h.2.1, fun k hk => by rw [upM_n (by omega)]; exact h.2.2 k hk⟩
theorem c10_rack {d : Nat} {s : Nat → Int32} {A : Nat → Nat → Int32} {L : LL} {M : Nat → MR} {T : TV} {np nb nn : Nat} (hR : RT A T np nb nn) (hT : WT T np nb nn) {V : CV} (hC : CR False np nb nn (M 0) V) {U : UV} (hU : UR s M U V np nb nn) {b q : Int32} : Tr (d + 2) 0 0 m10_rack [.ref 0, .int b, .int q] (modW s A L M) (dQ s A M np nb nn (i01 (rkOk V nb b q = true)) (rkU V U nb b q) (rkV V nb b q)) := by
  have hnb := hT.2.2.2.2.1
  have hnp := hT.2.2.2.1
  have hnn := hT.2.2.2.2.2.1
  refine Tr.intro (by decide) rfl ?_
  refine J_aload_n (pc := 0) D10_rack_0 rfl ?_
  refine J_iconst (pc := 1) (v := (nI 0)) D10_rack_1 (by decide) ?_
  refine J_mput (pc := 2) D10_rack_2 fp10_139 ms_0 ?_
  refine J_aload_n (pc := 5) D10_rack_5 rfl ?_
  refine J_iload_n (pc := 6) D10_rack_6 rfl ?_
  refine J_callVTR (pc := 7) (ac := [.int _]) D10_rack_7 m10_isLyingNow_v t1614 (c10_isLyingNow (d := d) hR hT hC) (by omega) rfl rfl rfl rfl (fun _ => rfl) rfl rfl rfl ?_
  refine J_if_eq (pc := 10) (tgt := 32) D10_rack_10 (by decide) (fun h10 => ?_) (fun h10 => ?_)
  · have h10' := eq_true h10
    replace h10 := i01_z h10
    refine J_iconst (pc := 32) (v := (nI 0)) D10_rack_32 (by decide) ?_
    refine J_zret (pc := 33) D10_rack_33 rfl (by decide) ?_
    have hn9 : ¬ rkOk V nb b q = true := fun z => h10 (rkOk_t z).1
    exact dQ.no hC hU (i01_f hn9) (if_neg hn9) (if_neg hn9)
  · replace h10 := i01_nz h10
    have h10b := h10
    obtain ⟨b1, hb1, rfl, hl1⟩ := lyiB_t h10 (by omega)
    have e0 := (hC.2.2.2.1 b1 hb1).1
    refine J_iload_n (pc := 13) D10_rack_13 rfl ?_
    refine J_if_lt (pc := 14) (tgt := 32) D10_rack_14 (by decide) (fun h14 => ?_) (fun h14 => ?_)
    · have h14' := Int32.not_le.mpr h14
      refine J_iconst (pc := 32) (v := (nI 0)) D10_rack_32 (by decide) ?_
      refine J_zret (pc := 33) D10_rack_33 rfl (by decide) ?_
      have hn9 : ¬ rkOk V nb (nI b1) q = true := fun z => ixB_0 h14 (rkOk_t z).2.1
      exact dQ.no hC hU (i01_f hn9) (if_neg hn9) (if_neg hn9)
    · have h14' := Int32.not_lt.mp h14
      refine J_iload_n (pc := 17) D10_rack_17 rfl ?_
      refine J_iconst (pc := 18) (v := (nI 5)) D10_rack_18 (by decide) ?_
      refine J_icmp_gt (pc := 19) (tgt := 32) D10_rack_19 (by decide) (fun h19 => ?_) (fun h19 => ?_)
      · have h19' := Int32.not_le.mpr h19
        refine J_iconst (pc := 32) (v := (nI 0)) D10_rack_32 (by decide) ?_
        refine J_zret (pc := 33) D10_rack_33 rfl (by decide) ?_
        have hn9 : ¬ rkOk V nb (nI b1) q = true := fun z => ixB_gt (n := 5) (by decide) h19 (rkOk_t z).2.1
        exact dQ.no hC hU (i01_f hn9) (if_neg hn9) (if_neg hn9)
      · have h19' := Int32.not_lt.mp h19
        refine J_aload_n (pc := 22) D10_rack_22 rfl ?_
        refine J_getf (pc := 23) D10_rack_23 fl10_93 rfl rfl ?_
        refine J_iload_n (pc := 26) D10_rack_26 rfl ?_
        refine J_mcld (pc := 27) (stp := 10) D10_rack_27 mc_0 (ix0 _ _) (by omega) (by omega) rfl ?_
        refine J_iload_n (pc := 28) D10_rack_28 rfl ?_
        rw [e0]
        refine J_icmp_ne (pc := 29) (tgt := 34) D10_rack_29 (by decide) (fun h29 => ?_) (fun h29 => ?_)
        · refine J_aload_n (pc := 34) D10_rack_34 rfl ?_
          refine J_callVT (pc := 35) (ac := []) D10_rack_35 m10_keepNow_v t1651 (c10_keepNow (d := d) (s := updI s 0 (nI 0)) (c := U.1) hU.2.1.1 hU.1) (by omega) rfl rfl rfl rfl rfl rfl rfl (fun r w' hq hl => ?_)
          obtain ⟨rfl, M1, rfl, hK⟩ := hq
          have e01 := hK.1 0 (by decide)
          have hq9 := ixB_in (n := 5) (by decide) h14 (Int32.not_lt.mp h19)
          obtain ⟨q1, hq1, rfl⟩ := ixB_t hq9 (by decide)
          obtain ⟨β, hβ, eβ⟩ := hC.2.2.2.2.2.2.2.2.2.2.1 b1 hb1
          have ok : rkOk V nb (nI b1) (nI q1) = true := by unfold rkOk; rw [h10b, hq9, nI_clamp (by omega), decide_eq_true h29]; rfl
          refine J_aload_n (pc := 38) D10_rack_38 rfl ?_
          refine J_getf (pc := 39) D10_rack_39 fl10_93 rfl rfl ?_
          refine J_iload_n (pc := 42) D10_rack_42 rfl ?_
          refine J_iload_n (pc := 43) D10_rack_43 rfl ?_
          refine J_mcst (pc := 44) (stp := 10) D10_rack_44 mc_0 (ix0 _ _) (by omega) (by omega) rfl ?_
          refine J_iconst (pc := 45) (v := (nI 1)) D10_rack_45 (by decide) ?_
          refine J_zret (pc := 46) D10_rack_46 rfl (by decide) ?_
          rw [rkU, if_pos ok, rkV, if_pos ok, nI_clamp (by omega), nI_clamp (by omega), eβ]
          refine ⟨congrArg (fun z => some (Value.int z)) (i01_t ok).symm, _, _, _, rfl, fun k h0 h47 => by rw [updI_n h47, updI_n h0], by rw [upM_n (by decide)]; exact hK.1 2 (by decide), by rw [upM_s, e01]; exact hC.move hb1 hl1 (by omega), ?_⟩
          exact (hU.add hC hnp hnb hb1 (fun _ => ⟨β, hβ, rfl⟩) (fun c a => by
            unfold tkV
            rw [adU_s.1, adU_s.2.1, adU_s.2.2, if_pos (by decide), nI_clamp (by omega), nI_clamp (by omega)]
            exact mv_back eβ hβ (by omega)) hK (by rw [updI_s]; unfold addU; split <;> rfl)).put
        · have h29' := eq_true h29
          refine J_iconst (pc := 32) (v := (nI 0)) D10_rack_32 (by decide) ?_
          refine J_zret (pc := 33) D10_rack_33 rfl (by decide) ?_
          have hn9 : ¬ rkOk V nb (nI b1) q = true := fun z => (rkOk_t z).2.2 (by rw [nI_clamp (by omega)]; exact h29)
          exact dQ.no hC hU (i01_f hn9) (if_neg hn9) (if_neg hn9)
theorem c10_open {d : Nat} {s : Nat → Int32} {A : Nat → Nat → Int32} {L : LL} {M : Nat → MR} {T : TV} {np nb nn : Nat} (hR : RT A T np nb nn) (hT : WT T np nb nn) {V : CV} (hC : CR False np nb nn (M 0) V) {U : UV} (hU : UR s M U V np nb nn) {b : Int32} : Tr (d + 2) 0 0 m10_open [.ref 0, .int b] (modW s A L M) (dQ s A M np nb nn (opA V nb b) (opU V U nb b) (opV V nb b)) := by
  have hnb := hT.2.2.2.2.1
  have hnp := hT.2.2.2.1
  have hnn := hT.2.2.2.2.2.1
  refine Tr.intro (by decide) rfl ?_
  refine J_aload_n (pc := 0) D10_open_0 rfl ?_
  refine J_iconst (pc := 1) (v := (nI 0)) D10_open_1 (by decide) ?_
  refine J_mput (pc := 2) D10_open_2 fp10_139 ms_0 ?_
  refine J_aload_n (pc := 5) D10_open_5 rfl ?_
  refine J_iload_n (pc := 6) D10_open_6 rfl ?_
  refine J_callVTR (pc := 7) (ac := [.int _]) D10_open_7 m10_isBottle_v t1567 (c10_isBottle (d := d) hR) (by omega) rfl rfl rfl rfl (fun _ => rfl) rfl rfl rfl ?_
  refine J_if_ne (pc := 10) (tgt := 15) D10_open_10 (by decide) (fun h10 => ?_) (fun h10 => ?_)
  · replace h10 := i01_nz h10
    obtain ⟨b1, hb1, rfl⟩ := ixB_t h10 (by omega)
    have ely := hC.ly hb1
    have e2 := (hC.2.2.2.1 b1 hb1).2.2.1
    have e1 := (hC.2.2.2.1 b1 hb1).2.1
    have e11 := (hR.2.2.2.2.2.2.2.1 b1 hb1).2.2.2.2.2
    refine J_aload_n (pc := 15) D10_open_15 rfl ?_
    refine J_iconst (pc := 16) (v := (nI 0)) D10_open_16 (by decide) ?_
    refine J_iload_n (pc := 17) D10_open_17 rfl ?_
    refine J_callVTR (pc := 18) (ac := [.int _, .int _]) D10_open_18 m10_isLying_v t1583 (c10_isLying (d := d) (c := 0) (b := b1) (by decide) (by omega)) (by omega) rfl rfl rfl rfl (fun _ => rfl) rfl rfl rfl ?_
    refine J_if_ne (pc := 21) (tgt := 27) D10_open_21 (by decide) (fun h21 => ?_) (fun h21 => ?_)
    · replace h21 := i01_nz h21
      refine J_aload_n (pc := 27) D10_open_27 rfl ?_
      refine J_callVT (pc := 28) (ac := []) D10_open_28 m10_keepNow_v t1651 (c10_keepNow (d := d) (s := updI s 0 (nI 0)) (c := U.1) hU.2.1.1 hU.1) (by omega) rfl rfl rfl rfl rfl rfl rfl (fun r w' hq hl => ?_)
      obtain ⟨rfl, M1, rfl, hK⟩ := hq
      have e01 := hK.1 0 (by decide)
      refine J_aload_n (pc := 31) D10_open_31 rfl ?_
      refine J_getf (pc := 32) D10_open_32 fl10_96 rfl rfl ?_
      refine J_iload_n (pc := 35) D10_open_35 rfl ?_
      refine J_iconst (pc := 36) (v := (nI 1)) D10_open_36 (by decide) ?_
      refine J_mcst (pc := 37) (stp := 10) D10_open_37 mc_3 (ix0 _ _) (by omega) (by omega) rfl ?_
      refine J_aload_n (pc := 38) D10_open_38 rfl ?_
      refine J_getf (pc := 39) D10_open_39 fl10_87 rfl rfl ?_
      refine J_iload_n (pc := 42) D10_open_42 rfl ?_
      refine J_mcld (pc := 43) (stp := 10) D10_open_43 mc_1 (ix0 _ _) (by omega) (by omega) rfl ?_
      refine J_iret (pc := 44) D10_open_44 rfl ?_
      have hl1 := ely.mp h21
      have ok := lyiB_i (V := V) hb1 hnb hl1
      rw [opA, if_pos h10, if_pos ok, opU, if_pos ok, opV, if_pos ok, nI_clamp (by omega)]
      refine ⟨congrArg (fun z => some (Value.int z)) ?_, _, _, _, rfl, fun k h0 h47 => by rw [updI_n h47, updI_n h0], by rw [upM_n (by decide)]; exact hK.1 2 (by decide), by rw [upM_s, e01]; exact hC.leave hb1 hl1 (by decide), ?_⟩
      · rw [upM_s, sm_n (by decide), e01]; exact e1
      exact (hU.add hC hnp hnb hb1 (fun z => absurd z (by decide)) (fun c a => by
        unfold tkV
        rw [adU_s.1, adU_s.2.1, if_neg (by decide), if_neg (by decide), nI_clamp (by omega)]
        exact li_back hl1) hK (by rw [updI_s]; unfold addU; split <;> rfl)).put
    · have h21' := eq_true h21
      replace h21 := i01_z h21
      refine J_bipush (pc := 24) (v := (-2)) D10_open_24 (by decide) ?_
      refine J_iret (pc := 26) D10_open_26 rfl ?_
      have hn9 : ¬ lyiB V nb (nI b1) = true := fun z => h21 (ely.mpr (lyiB_l (by omega) z))
      exact dQ.no hC hU (by rw [opA, if_pos h10, if_neg hn9]) (if_neg hn9) (if_neg hn9)
  · have h10' := eq_true h10
    replace h10 := i01_z h10
    refine J_iconst (pc := 13) (v := (-1)) D10_open_13 (by decide) ?_
    refine J_iret (pc := 14) D10_open_14 rfl ?_
    have hn9 : ¬ lyiB V nb b = true := fun z => h10 (lyiB_ix z)
    exact dQ.no hC hU (by rw [opA, if_neg h10]) (if_neg hn9) (if_neg hn9)
theorem c10_seal {d : Nat} {s : Nat → Int32} {A : Nat → Nat → Int32} {L : LL} {M : Nat → MR} {T : TV} {np nb nn : Nat} (hR : RT A T np nb nn) (hT : WT T np nb nn) {V : CV} (hC : CR False np nb nn (M 0) V) {U : UV} (hU : UR s M U V np nb nn) {b : Int32} : Tr (d + 2) 0 0 m10_seal [.ref 0, .int b] (modW s A L M) (dQ s A M np nb nn (slA T V nb b) (slU T V U nb b) (slV T V nb b)) := by
  have hnb := hT.2.2.2.2.1
  have hnp := hT.2.2.2.1
  have hnn := hT.2.2.2.2.2.1
  refine Tr.intro (by decide) rfl ?_
  refine J_aload_n (pc := 0) D10_seal_0 rfl ?_
  refine J_iconst (pc := 1) (v := (nI 0)) D10_seal_1 (by decide) ?_
  refine J_mput (pc := 2) D10_seal_2 fp10_139 ms_0 ?_
  refine J_aload_n (pc := 5) D10_seal_5 rfl ?_
  refine J_iload_n (pc := 6) D10_seal_6 rfl ?_
  refine J_callVTR (pc := 7) (ac := [.int _]) D10_seal_7 m10_isBottle_v t1567 (c10_isBottle (d := d) hR) (by omega) rfl rfl rfl rfl (fun _ => rfl) rfl rfl rfl ?_
  refine J_if_ne (pc := 10) (tgt := 15) D10_seal_10 (by decide) (fun h10 => ?_) (fun h10 => ?_)
  · replace h10 := i01_nz h10
    obtain ⟨b1, hb1, rfl⟩ := ixB_t h10 (by omega)
    have ely := hC.ly hb1
    have e2 := (hC.2.2.2.1 b1 hb1).2.2.1
    have e1 := (hC.2.2.2.1 b1 hb1).2.1
    have e11 := (hR.2.2.2.2.2.2.2.1 b1 hb1).2.2.2.2.2
    refine J_aload_n (pc := 15) D10_seal_15 rfl ?_
    refine J_iconst (pc := 16) (v := (nI 0)) D10_seal_16 (by decide) ?_
    refine J_iload_n (pc := 17) D10_seal_17 rfl ?_
    refine J_callVTR (pc := 18) (ac := [.int _, .int _]) D10_seal_18 m10_isLying_v t1583 (c10_isLying (d := d) (c := 0) (b := b1) (by decide) (by omega)) (by omega) rfl rfl rfl rfl (fun _ => rfl) rfl rfl rfl ?_
    refine J_if_eq (pc := 21) (tgt := 39) D10_seal_21 (by decide) (fun h21 => ?_) (fun h21 => ?_)
    · have h21' := eq_true h21
      replace h21 := i01_z h21
      refine J_bipush (pc := 39) (v := (-2)) D10_seal_39 (by decide) ?_
      refine J_iret (pc := 41) D10_seal_41 rfl ?_
      have hn9 : ¬ slOk T V nb (nI b1) = true := fun z => h21 (ely.mpr (lyiB_l (by omega) (slOk_t z).1))
      exact dQ.no hC hU (by rw [slA, if_pos h10, if_neg hn9]) (if_neg hn9) (if_neg hn9)
    · replace h21 := i01_nz h21
      refine J_aload_n (pc := 24) D10_seal_24 rfl ?_
      refine J_getf (pc := 25) D10_seal_25 fl10_90 rfl rfl ?_
      refine J_iload_n (pc := 28) D10_seal_28 rfl ?_
      refine J_mcld (pc := 29) (stp := 10) D10_seal_29 mc_2 (ix0 _ _) (by omega) (by omega) rfl ?_
      refine J_aload_n (pc := 30) D10_seal_30 rfl ?_
      refine J_getf (pc := 31) D10_seal_31 fl10_37 rfl rfl ?_
      refine J_iload_n (pc := 34) D10_seal_34 rfl ?_
      refine J_mald (pc := 35) D10_seal_35 ma_11 rfl (by omega) rfl ?_
      rw [e2, e11]
      refine J_icmp_ne (pc := 36) (tgt := 42) D10_seal_36 (by decide) (fun h36 => ?_) (fun h36 => ?_)
      · refine J_aload_n (pc := 42) D10_seal_42 rfl ?_
        refine J_callVT (pc := 43) (ac := []) D10_seal_43 m10_keepNow_v t1651 (c10_keepNow (d := d) (s := updI s 0 (nI 0)) (c := U.1) hU.2.1.1 hU.1) (by omega) rfl rfl rfl rfl rfl rfl rfl (fun r w' hq hl => ?_)
        obtain ⟨rfl, M1, rfl, hK⟩ := hq
        have e01 := hK.1 0 (by decide)
        refine J_aload_n (pc := 46) D10_seal_46 rfl ?_
        refine J_getf (pc := 47) D10_seal_47 fl10_90 rfl rfl ?_
        refine J_iload_n (pc := 50) D10_seal_50 rfl ?_
        refine J_aload_n (pc := 51) D10_seal_51 rfl ?_
        refine J_getf (pc := 52) D10_seal_52 fl10_37 rfl rfl ?_
        refine J_iload_n (pc := 55) D10_seal_55 rfl ?_
        refine J_mald (pc := 56) D10_seal_56 ma_11 rfl (by omega) rfl ?_
        refine J_mcst (pc := 57) (stp := 10) D10_seal_57 mc_2 (ix0 _ _) (by omega) (by omega) rfl ?_
        refine J_aload_n (pc := 58) D10_seal_58 rfl ?_
        refine J_getf (pc := 59) D10_seal_59 fl10_90 rfl rfl ?_
        refine J_iload_n (pc := 62) D10_seal_62 rfl ?_
        refine J_mcld (pc := 63) (stp := 10) D10_seal_63 mc_2 (ix0 _ _) (by omega) (by omega) rfl ?_
        refine J_iret (pc := 64) D10_seal_64 rfl ?_
        have hl1 := ely.mp h21
        have ok : slOk T V nb (nI b1) = true := by unfold slOk; rw [lyiB_i (V := V) hb1 hnb hl1, nI_clamp (by omega), decide_eq_true h36]; rfl
        rw [slA, if_pos h10, if_pos ok, slU, if_pos ok, slV, if_pos ok, nI_clamp (by omega)]
        refine ⟨congrArg (fun z => some (Value.int z)) ?_, _, _, _, rfl, fun k h0 h47 => by rw [updI_n h47, updI_n h0], by rw [upM_n (by decide)]; exact hK.1 2 (by decide), by rw [upM_s, e01, e11]; exact hC.val2 b1 _, ?_⟩
        · rw [upM_s, sm_s, pk_us]; exact e11
        exact (hU.add hC hnp hnb hb1 (fun z => absurd z (by decide)) (fun c a => by
          unfold tkV
          rw [adU_s.1, adU_s.2.1, adU_s.2.2, if_neg (by decide), if_pos rfl, nI_clamp (by omega)]
          exact co_back) hK (by rw [updI_s]; unfold addU; split <;> rfl)).put
      · have h36' := eq_true h36
        refine J_bipush (pc := 39) (v := (-2)) D10_seal_39 (by decide) ?_
        refine J_iret (pc := 41) D10_seal_41 rfl ?_
        have hn9 : ¬ slOk T V nb (nI b1) = true := fun z => (slOk_t z).2 (by rw [nI_clamp (by omega)]; exact h36)
        exact dQ.no hC hU (by rw [slA, if_pos h10, if_neg hn9]) (if_neg hn9) (if_neg hn9)
  · have h10' := eq_true h10
    replace h10 := i01_z h10
    refine J_iconst (pc := 13) (v := (-1)) D10_seal_13 (by decide) ?_
    refine J_iret (pc := 14) D10_seal_14 rfl ?_
    have hn9 : ¬ slOk T V nb b = true := fun z => h10 (lyiB_ix (slOk_t z).1)
    exact dQ.no hC hU (by rw [slA, if_neg h10]) (if_neg hn9) (if_neg hn9)
