/-! TEMPERCELLAR: what is done by call (own; walks by program wk.py) -/
abbrev UV : Type := Nat × (Nat → Nat → Int32)
abbrev tcC (tl hi : Int32) (T : TV) (V : CV) (S : SB) (U : UV) : List EC := tcX tl hi T V S (undC 42 U.1 U.2)
def goOk (V : CV) (n : Int32) : Bool := ixB 100 n && decide (V.1 + n ≤ nI 9900)
def goV (T : TV) (V : CV) (nb nn : Nat) (n : Int32) : CV := if goOk V n = true then passN T y0 nb nn n.toNatClampNeg V else V
def goU (V : CV) (U : UV) (n : Int32) : UV := if goOk V n = true ∧ 0 < n then (0, U.2) else U
def goA (T : TV) (V : CV) (nb nn : Nat) (n : Int32) : Int32 := if goOk V n = true then (goV T V nb nn n).1 else -1
theorem goOk_t {V : CV} {n : Int32} (h1 : ixB 100 n = true) (h2 : V.1 + n ≤ nI 9900) : goOk V n = true := by rw [goOk, h1, decide_eq_true h2]; rfl
theorem L9_go38 {d np nb nn : Nat} {tl hi : Int32} {T : TV} {V : CV} {S : SB} {U : UV} (hT : WT T np nb nn) (hV : WV V nb) {m : Nat} (hm : m < 100) : J m9_go (d + 7) 0 0 46 38 [(0, .ref 0), (1, .int (nI m))] [] (tcC tl hi T V S U) 0 0 (fun r w' => r = some (.int (passN T y0 nb nn m V).1) ∧ ∃ S', w' = tcC tl hi T (passN T y0 nb nn m V) S' U) := by
  refine J_aload_n (pc := 38) D9_go_38 rfl ?_
  refine J_getf (pc := 39) D9_go_39 fl9_61 rfl rfl ?_
  refine J_aload_n (pc := 42) D9_go_42 rfl ?_
  refine J_getf (pc := 43) D9_go_43 fl9_18 rfl rfl ?_
  refine J_aload_n (pc := 46) D9_go_46 rfl ?_
  refine J_getf (pc := 47) D9_go_47 fl9_46 rfl rfl ?_
  refine J_iconst (pc := 50) (v := (nI 0)) D9_go_50 (by decide) ?_
  refine J_callVP (pc := 51) (ι := [39, 1, 19, 40, 41, S.2.2.2.2.1, S.2.2.2.2.2]) (ac := [.ref 1, .ref 2, .int (nI 0)]) D9_go_51 m8_start_v t759 (c8_start (d := d + 5) (t := .ref 5) (c := .ref 6) (q := .ref 3) (k := .ref 4) (a := .int S.2.1.1) (b := .int S.2.1.2.1) (e := .int S.2.1.2.2) (f := .null) (x := nI 0) (i := 1) (j := 2)) (by omega) rfl rfl ⟨rfl, rfl⟩ rfl rfl rfl rfl rfl (fun r w' hq hl => ?_)
  obtain ⟨rfl, rfl⟩ := hq
  refine ⟨tcC tl hi T V (S.1, y0, S.2.2.1, S.2.2.2.1, 1, 19) U, ⟨rfl, ⟨rfl, rfl⟩, rfl⟩, ?_⟩
  refine J_aload_n (pc := 54) D9_go_54 rfl ?_
  refine J_getf (pc := 55) D9_go_55 fl9_61 rfl rfl ?_
  refine J_iload_n (pc := 58) D9_go_58 rfl ?_
  refine J_callVP (pc := 59) (ι := [39, 40, 41, 1, 2, 3, 4, 5, 6, 7, 8, 9, 10, 11, 12, 13, 14, 15, 16, 17, 18, 19, 20, 21, 22, 23, 24, 25, 26, 27, 28]) (ac := [.int (nI m)]) D9_go_59 m8_pass_v t815 (c8_pass (d := d) (n := m) (y := y0) (q := S.2.2.1) (k := S.2.2.2.1) (T := T) (V := V) hT hV (by omega)) (by omega) rfl rfl ⟨rfl, rfl⟩ rfl rfl rfl rfl rfl (fun r w' hq hl => ?_)
  obtain ⟨rfl, q1, k1, rfl⟩ := hq
  refine ⟨tcC tl hi T (passN T y0 nb nn m V) (S.1, y0, q1, k1, 1, 19) U, ⟨rfl, ⟨rfl, rfl⟩, rfl⟩, ?_⟩
  obtain ⟨X, eX⟩ : ∃ z9, passN T y0 nb nn m V = z9 := ⟨_, rfl⟩
  refine J_w (w2 := tcC tl hi T X (S.1, y0, q1, k1, 1, 19) U) (by subst eX; rfl) ?_
  refine J_aload_n (pc := 62) D9_go_62 rfl ?_
  refine J_getf (pc := 63) D9_go_63 fl9_46 rfl rfl ?_
  refine J_getf (pc := 66) D9_go_66 fl9_243 rfl rfl ?_
  refine J_iret (pc := 69) D9_go_69 rfl ?_
  exact ⟨by rw [eX], _, by rw [eX]⟩
theorem c9_go {d np nb nn : Nat} {tl hi : Int32} {T : TV} {V : CV} {S : SB} {U : UV} (hT : WT T np nb nn) (hV : WV V nb) {n : Int32} : Tr (d + 7) 0 0 m9_go [.ref 0, .int n] (tcC tl hi T V S U) (fun r w' => r = some (.int (goA T V nb nn n)) ∧ ∃ S', w' = tcC tl hi T (goV T V nb nn n) S' (goU V U n)) := by
  refine Tr.intro (by decide) rfl ?_
  refine J_iload_n (pc := 0) D9_go_0 rfl ?_
  refine J_iconst (pc := 1) (v := (nI 0)) D9_go_1 (by decide) ?_
  refine J_bipush (pc := 2) (v := (nI 99)) D9_go_2 (by decide) ?_
  refine J_callSR (pc := 4) (ι := []) (ac := [.int _, .int _, .int _]) D9_go_4 m9_isAmong_s t712 (c9_isAmong (d := d + 6)) (by omega) ⟨rfl, rfl⟩ rfl rfl (fun _ => rfl) rfl rfl rfl ?_
  refine J_st [.int (i01 (ixB 100 n = true))] (by rw [← ixB_m (n := 99) (by decide)]; try rfl) ?_
  refine J_if_eq (pc := 7) (tgt := 25) D9_go_7 (by decide) (fun h7 => ?_) (fun h7 => ?_)
  · have h7' := eq_true h7
    replace h7 := i01_z h7
    refine J_iconst (pc := 25) (v := (-1)) D9_go_25 (by decide) ?_
    refine J_iret (pc := 26) D9_go_26 rfl ?_
    have hk : ¬ goOk V n = true := fun q => h7 (Bool.and_eq_true_iff.mp q).1
    exact ⟨by rw [goA, if_neg hk], S, by rw [goV, if_neg hk, goU, if_neg (fun q => hk q.1)]⟩
  · replace h7 := i01_nz h7
    refine J_aload_n (pc := 10) D9_go_10 rfl ?_
    refine J_getf (pc := 11) D9_go_11 fl9_46 rfl rfl ?_
    refine J_getf (pc := 14) D9_go_14 fl9_243 rfl rfl ?_
    refine J_iload_n (pc := 17) D9_go_17 rfl ?_
    refine J_iadd (pc := 18) D9_go_18 ?_
    refine J_sipush (pc := 19) (v := (nI 9900)) D9_go_19 (by decide) ?_
    refine J_icmp_le (pc := 22) (tgt := 27) D9_go_22 (by decide) (fun h22 => ?_) (fun h22 => ?_)
    · have h22' := Int32.not_lt.mpr h22
      refine J_iload_n (pc := 27) D9_go_27 rfl ?_
      refine J_if_le (pc := 28) (tgt := 38) D9_go_28 (by decide) (fun h28 => ?_) (fun h28 => ?_)
      · have h28' := Int32.not_lt.mpr h28
        have hk := goOk_t h7 h22
        obtain ⟨m, hm, rfl⟩ := ixB_t h7 (by decide)
        rw [goA, if_pos hk, goV, if_pos hk, goU, if_neg (fun q => absurd q.2 (Int32.not_lt.mpr h28)), nI_clamp (by omega)]
        exact L9_go38 (U := U) hT hV hm
      · have h28' := Int32.not_le.mp h28
        refine J_aload_n (pc := 31) D9_go_31 rfl ?_
        refine J_getf (pc := 32) D9_go_32 fl9_68 rfl rfl ?_
        refine J_callVP (pc := 35) (ι := [42, 43, 44, 45]) (ac := []) D9_go_35 m7_clear_v t690 (c7_clear (d := d) (c := U.1) (a := U.2)) (by omega) rfl rfl ⟨rfl, rfl⟩ rfl rfl rfl rfl rfl (fun r w' hq hl => ?_)
        obtain ⟨rfl, rfl⟩ := hq
        refine ⟨tcC tl hi T V S (0, U.2), ⟨rfl, ⟨rfl, rfl⟩, rfl⟩, ?_⟩
        have hk := goOk_t h7 h22
        obtain ⟨m, hm, rfl⟩ := ixB_t h7 (by decide)
        rw [goA, if_pos hk, goV, if_pos hk, goU, if_pos ⟨hk, h28'⟩, nI_clamp (by omega)]
        exact L9_go38 (U := (0, U.2)) hT hV hm
    · have h22' := Int32.not_le.mp h22
      refine J_iconst (pc := 25) (v := (-1)) D9_go_25 (by decide) ?_
      refine J_iret (pc := 26) D9_go_26 rfl ?_
      have hk : ¬ goOk V n = true := fun q => absurd (of_decide_eq_true (Bool.and_eq_true_iff.mp q).2) (Int32.not_le.mpr h22')
      exact ⟨by rw [goA, if_neg hk], S, by rw [goV, if_neg hk, goU, if_neg (fun q => hk q.1)]⟩
def rkOk (V : CV) (nb : Nat) (b q : Int32) : Bool := lyiB V nb b && (ixB 6 q && decide (¬ V.2.2.2 0 b.toNatClampNeg = q))
def rkV (V : CV) (nb : Nat) (b q : Int32) : CV := if rkOk V nb b q = true then mvV V b.toNatClampNeg q.toNatClampNeg else V
def rkU (V : CV) (U : UV) (nb : Nat) (b q : Int32) : UV := if rkOk V nb b q = true then addU U.1 U.2 (nI 0) b (V.2.2.2 0 b.toNatClampNeg) else U
theorem rkOk_t {V : CV} {nb : Nat} {b q : Int32} (h : rkOk V nb b q = true) : lyiB V nb b = true ∧ ixB 6 q = true ∧ ¬ V.2.2.2 0 b.toNatClampNeg = q := by
  unfold rkOk at h
  have h1 := Bool.and_eq_true_iff.mp h
  have h2 := Bool.and_eq_true_iff.mp h1.2
  exact ⟨h1.1, h2.1, of_decide_eq_true h2.2⟩
theorem c9_rack {d np nb nn : Nat} {tl hi : Int32} {T : TV} {V : CV} {S : SB} {U : UV} (hT : WT T np nb nn) (hV : WV V nb) {b q : Int32} (hu : U.1 ≤ 20) : Tr (d + 3) 0 0 m9_rack [.ref 0, .int b, .int q] (tcC tl hi T V S U) (fun r w' => r = some (.int (i01 (rkOk V nb b q = true))) ∧ ∃ S', w' = tcC tl hi T (rkV V nb b q) S' (rkU V U nb b q)) := by
  have hnb := hT.2.2.2.2.1
  refine Tr.intro (by decide) rfl ?_
  refine J_aload_n (pc := 0) D9_rack_0 rfl ?_
  refine J_iload_n (pc := 1) D9_rack_1 rfl ?_
  refine J_callVAR (pc := 2) (ac := [.int _]) D9_rack_2 m9_isLyingBottle_v t750 (c9_isLyingBottle (d := d) (V := V) hT) (by omega) rfl rfl rfl rfl rfl (fun _ => rfl) rfl rfl rfl ?_
  refine J_if_eq (pc := 5) (tgt := 28) D9_rack_5 (by decide) (fun h5 => ?_) (fun h5 => ?_)
  · have h5' := eq_true h5
    replace h5 := i01_z h5
    refine J_iconst (pc := 28) (v := (nI 0)) D9_rack_28 (by decide) ?_
    refine J_zret (pc := 29) D9_rack_29 rfl (by decide) ?_
    have hk : ¬ rkOk V nb b q = true := fun z => h5 (rkOk_t z).1
    exact ⟨by rw [i01_f hk]; rfl, S, by rw [rkV, if_neg hk, rkU, if_neg hk]⟩
  · replace h5 := i01_nz h5
    obtain ⟨b9, hb9, rfl, hl9⟩ := lyiB_t h5 hnb
    refine J_iload_n (pc := 8) D9_rack_8 rfl ?_
    refine J_callSR (pc := 9) (ι := []) (ac := [.int _]) D9_rack_9 m9_isBin_s t743 (c9_isBin (d := d + 1)) (by omega) ⟨rfl, rfl⟩ rfl rfl (fun _ => rfl) rfl rfl rfl ?_
    refine J_if_eq (pc := 12) (tgt := 28) D9_rack_12 (by decide) (fun h12 => ?_) (fun h12 => ?_)
    · have h12' := eq_true h12
      replace h12 := i01_z h12
      refine J_iconst (pc := 28) (v := (nI 0)) D9_rack_28 (by decide) ?_
      refine J_zret (pc := 29) D9_rack_29 rfl (by decide) ?_
      have hk : ¬ rkOk V nb (nI b9) q = true := fun z => h12 (rkOk_t z).2.1
      exact ⟨by rw [i01_f hk]; rfl, S, by rw [rkV, if_neg hk, rkU, if_neg hk]⟩
    · replace h12 := i01_nz h12
      refine J_aload_n (pc := 15) D9_rack_15 rfl ?_
      refine J_getf (pc := 16) D9_rack_16 fl9_46 rfl rfl ?_
      refine J_getf (pc := 19) D9_rack_19 fl9_147 rfl rfl ?_
      refine J_iload_n (pc := 22) D9_rack_22 rfl ?_
      refine J_iald (pc := 23) D9_rack_23 rfl rfl (by omega) rfl ?_
      refine J_iload_n (pc := 24) D9_rack_24 rfl ?_
      refine J_icmp_ne (pc := 25) (tgt := 30) D9_rack_25 (by decide) (fun h25 => ?_) (fun h25 => ?_)
      · refine J_aload_n (pc := 30) D9_rack_30 rfl ?_
        refine J_getf (pc := 31) D9_rack_31 fl9_68 rfl rfl ?_
        refine J_iconst (pc := 34) (v := (nI 0)) D9_rack_34 (by decide) ?_
        refine J_iload_n (pc := 35) D9_rack_35 rfl ?_
        refine J_aload_n (pc := 36) D9_rack_36 rfl ?_
        refine J_getf (pc := 37) D9_rack_37 fl9_46 rfl rfl ?_
        refine J_getf (pc := 40) D9_rack_40 fl9_147 rfl rfl ?_
        refine J_iload_n (pc := 43) D9_rack_43 rfl ?_
        refine J_iald (pc := 44) D9_rack_44 rfl rfl (by omega) rfl ?_
        refine J_callVP (pc := 45) (ι := [42, 43, 44, 45]) (ac := [.int _, .int _, .int _]) D9_rack_45 m7_add_v t784 (c7_add (d := d) (c := U.1) (a := U.2) hu) (by omega) rfl rfl ⟨rfl, rfl⟩ rfl rfl rfl rfl rfl (fun r w' hq hl => ?_)
        obtain ⟨rfl, rfl⟩ := hq
        refine ⟨tcC tl hi T V S (addU U.1 U.2 (nI 0) (nI b9) (V.2.2.2 0 b9)), ⟨rfl, ⟨rfl, rfl⟩, rfl⟩, ?_⟩
        obtain ⟨U2, eU2⟩ : ∃ z9, addU U.1 U.2 (nI 0) (nI b9) (V.2.2.2 0 b9) = z9 := ⟨_, rfl⟩
        refine J_w (w2 := tcC tl hi T V S U2) (by subst eU2; rfl) ?_
        obtain ⟨q9, hq9, rfl⟩ := ixB_t h12 (by decide)
        obtain ⟨β, hβ, eβ⟩ := hV b9 hb9
        refine J_aload_n (pc := 48) D9_rack_48 rfl ?_
        refine J_getf (pc := 49) D9_rack_49 fl9_46 rfl rfl ?_
        refine J_iload_n (pc := 52) D9_rack_52 rfl ?_
        refine J_iload_n (pc := 53) D9_rack_53 rfl ?_
        refine J_callVP (pc := 54) (ι := [19, 20, 21, 22, 23, 24, 25, 26, 27, 28]) (ac := [.int _, .int _]) D9_rack_54 m0_move_v t795 (yl_move (d := d) (V := V) (b := b9) (q := q9) (by omega) eβ hβ hq9) (by omega) rfl rfl ⟨rfl, rfl⟩ rfl rfl rfl rfl rfl (fun r w' hq hl => ?_)
        obtain ⟨rfl, rfl⟩ := hq
        refine ⟨tcC tl hi T (mvV V b9 q9) S U2, ⟨rfl, ⟨rfl, rfl⟩, rfl⟩, ?_⟩
        refine J_iconst (pc := 57) (v := (nI 1)) D9_rack_57 (by decide) ?_
        refine J_zret (pc := 58) D9_rack_58 rfl (by decide) ?_
        have hk : rkOk V nb (nI b9) (nI q9) = true := by
          rw [rkOk, h5, h12, nI_clamp (by omega), decide_eq_true h25]; rfl
        exact ⟨by rw [i01_t hk]; rfl, S, by rw [rkV, if_pos hk, rkU, if_pos hk, nI_clamp (by omega), nI_clamp (by omega), eU2]⟩
      · have h25' := eq_true h25
        refine J_iconst (pc := 28) (v := (nI 0)) D9_rack_28 (by decide) ?_
        refine J_zret (pc := 29) D9_rack_29 rfl (by decide) ?_
        have hk : ¬ rkOk V nb (nI b9) q = true := fun z => (rkOk_t z).2.2 (by rw [nI_clamp (by omega)]; exact h25)
        exact ⟨by rw [i01_f hk]; rfl, S, by rw [rkV, if_neg hk, rkU, if_neg hk]⟩
def slOk (T : TV) (V : CV) (nb : Nat) (b : Int32) : Bool := lyiB V nb b && decide (¬ V.2.2.2 2 b.toNatClampNeg = T.2.1 9 b.toNatClampNeg)
def slV (T : TV) (V : CV) (nb : Nat) (b : Int32) : CV := if slOk T V nb b = true then coV V b.toNatClampNeg (T.2.1 9 b.toNatClampNeg) else V
def slU (T : TV) (V : CV) (U : UV) (nb : Nat) (b : Int32) : UV := if slOk T V nb b = true then addU U.1 U.2 (nI 1) b (V.2.2.2 2 b.toNatClampNeg) else U
def slA (T : TV) (V : CV) (nb : Nat) (b : Int32) : Int32 := if ixB nb b = true then (if slOk T V nb b = true then T.2.1 9 b.toNatClampNeg else -2) else -1
theorem slOk_t {T : TV} {V : CV} {nb : Nat} {b : Int32} (h : slOk T V nb b = true) : lyiB V nb b = true ∧ ¬ V.2.2.2 2 b.toNatClampNeg = T.2.1 9 b.toNatClampNeg := ⟨(Bool.and_eq_true_iff.mp h).1, of_decide_eq_true (Bool.and_eq_true_iff.mp h).2⟩
theorem lyiB_ix {V : CV} {nb : Nat} {b : Int32} (h : lyiB V nb b = true) : ixB nb b = true := (Bool.and_eq_true_iff.mp h).1
theorem lyiB_i {V : CV} {nb b : Nat} (h : b < nb) (hn : nb ≤ 10) (h2 : V.2.2.2 3 b = 0) : lyiB V nb (nI b) = true := by rw [lyiB, ixB_n h (by omega), nI_clamp (by omega), decide_eq_true h2]; rfl
theorem lyiB_l {V : CV} {nb b : Nat} (hn : b < 10) (h : lyiB V nb (nI b) = true) : V.2.2.2 3 b = 0 := by
  have := of_decide_eq_true (Bool.and_eq_true_iff.mp h).2
  rw [nI_clamp (by omega)] at this
  exact this
theorem c9_seal {d np nb nn : Nat} {tl hi : Int32} {T : TV} {V : CV} {S : SB} {U : UV} (hT : WT T np nb nn) (hV : WV V nb) {b : Int32} (hu : U.1 ≤ 20) : Tr (d + 3) 0 0 m9_seal [.ref 0, .int b] (tcC tl hi T V S U) (fun r w' => r = some (.int (slA T V nb b)) ∧ ∃ S', w' = tcC tl hi T (slV T V nb b) S' (slU T V U nb b)) := by
  have hnb := hT.2.2.2.2.1
  refine Tr.intro (by decide) rfl ?_
  refine J_aload_n (pc := 0) D9_seal_0 rfl ?_
  refine J_iload_n (pc := 1) D9_seal_1 rfl ?_
  refine J_callVAR (pc := 2) (ac := [.int _]) D9_seal_2 m9_isBottle_v t754 (c9_isBottle (d := d) (V := V) hT) (by omega) rfl rfl rfl rfl rfl (fun _ => rfl) rfl rfl rfl ?_
  refine J_if_ne (pc := 5) (tgt := 10) D9_seal_5 (by decide) (fun h5 => ?_) (fun h5 => ?_)
  · replace h5 := i01_nz h5
    obtain ⟨b9, hb9, rfl⟩ := ixB_t h5 (by omega)
    refine J_aload_n (pc := 10) D9_seal_10 rfl ?_
    refine J_getf (pc := 11) D9_seal_11 fl9_46 rfl rfl ?_
    refine J_iload_n (pc := 14) D9_seal_14 rfl ?_
    refine J_callVR (pc := 15) (ι := [19, 20, 21, 22, 23, 24, 25, 26, 27, 28]) (ac := [.int _]) D9_seal_15 m0_isLying_v t717 (c0_isLying (d := d) (V := V) (b := b9) (by omega)) (by omega) rfl rfl ⟨rfl, rfl⟩ rfl rfl (fun _ => rfl) rfl rfl rfl ?_
    refine J_if_eq (pc := 18) (tgt := 42) D9_seal_18 (by decide) (fun h18 => ?_) (fun h18 => ?_)
    · have h18' := eq_true h18
      replace h18 := i01_z h18
      refine J_bipush (pc := 42) (v := (-2)) D9_seal_42 (by decide) ?_
      refine J_iret (pc := 44) D9_seal_44 rfl ?_
      have hk : ¬ slOk T V nb (nI b9) = true := fun z => h18 (lyiB_l (by omega) (slOk_t z).1)
      exact ⟨by rw [slA, if_pos h5, if_neg hk], S, by rw [slV, if_neg hk, slU, if_neg hk]⟩
    · replace h18 := i01_nz h18
      refine J_aload_n (pc := 21) D9_seal_21 rfl ?_
      refine J_getf (pc := 22) D9_seal_22 fl9_46 rfl rfl ?_
      refine J_getf (pc := 25) D9_seal_25 fl9_153 rfl rfl ?_
      refine J_iload_n (pc := 28) D9_seal_28 rfl ?_
      refine J_iald (pc := 29) D9_seal_29 rfl rfl (by omega) rfl ?_
      refine J_aload_n (pc := 30) D9_seal_30 rfl ?_
      refine J_getf (pc := 31) D9_seal_31 fl9_18 rfl rfl ?_
      refine J_getf (pc := 34) D9_seal_34 fl9_235 rfl rfl ?_
      refine J_iload_n (pc := 37) D9_seal_37 rfl ?_
      refine J_iald (pc := 38) D9_seal_38 rfl rfl (by omega) rfl ?_
      refine J_icmp_ne (pc := 39) (tgt := 45) D9_seal_39 (by decide) (fun h39 => ?_) (fun h39 => ?_)
      · refine J_aload_n (pc := 45) D9_seal_45 rfl ?_
        refine J_getf (pc := 46) D9_seal_46 fl9_68 rfl rfl ?_
        refine J_iconst (pc := 49) (v := (nI 1)) D9_seal_49 (by decide) ?_
        refine J_iload_n (pc := 50) D9_seal_50 rfl ?_
        refine J_aload_n (pc := 51) D9_seal_51 rfl ?_
        refine J_getf (pc := 52) D9_seal_52 fl9_46 rfl rfl ?_
        refine J_getf (pc := 55) D9_seal_55 fl9_153 rfl rfl ?_
        refine J_iload_n (pc := 58) D9_seal_58 rfl ?_
        refine J_iald (pc := 59) D9_seal_59 rfl rfl (by omega) rfl ?_
        refine J_callVP (pc := 60) (ι := [42, 43, 44, 45]) (ac := [.int _, .int _, .int _]) D9_seal_60 m7_add_v t784 (c7_add (d := d) (c := U.1) (a := U.2) hu) (by omega) rfl rfl ⟨rfl, rfl⟩ rfl rfl rfl rfl rfl (fun r w' hq hl => ?_)
        obtain ⟨rfl, rfl⟩ := hq
        refine ⟨tcC tl hi T V S (addU U.1 U.2 (nI 1) (nI b9) (V.2.2.2 2 b9)), ⟨rfl, ⟨rfl, rfl⟩, rfl⟩, ?_⟩
        obtain ⟨U2, eU2⟩ : ∃ z9, addU U.1 U.2 (nI 1) (nI b9) (V.2.2.2 2 b9) = z9 := ⟨_, rfl⟩
        refine J_w (w2 := tcC tl hi T V S U2) (by subst eU2; rfl) ?_
        refine J_aload_n (pc := 63) D9_seal_63 rfl ?_
        refine J_getf (pc := 64) D9_seal_64 fl9_46 rfl rfl ?_
        refine J_getf (pc := 67) D9_seal_67 fl9_153 rfl rfl ?_
        refine J_iload_n (pc := 70) D9_seal_70 rfl ?_
        refine J_aload_n (pc := 71) D9_seal_71 rfl ?_
        refine J_getf (pc := 72) D9_seal_72 fl9_18 rfl rfl ?_
        refine J_getf (pc := 75) D9_seal_75 fl9_235 rfl rfl ?_
        refine J_iload_n (pc := 78) D9_seal_78 rfl ?_
        refine J_iald (pc := 79) D9_seal_79 rfl rfl (by omega) rfl ?_
        refine J_iast (pc := 80) D9_seal_80 rfl rfl (by omega) rfl ?_
        refine J_w (w2 := tcC tl hi T (coV V b9 (T.2.1 9 b9)) S U2) rfl ?_
        refine J_aload_n (pc := 81) D9_seal_81 rfl ?_
        refine J_getf (pc := 82) D9_seal_82 fl9_46 rfl rfl ?_
        refine J_getf (pc := 85) D9_seal_85 fl9_153 rfl rfl ?_
        refine J_iload_n (pc := 88) D9_seal_88 rfl ?_
        refine J_iald (pc := 89) D9_seal_89 rfl rfl (by omega) rfl ?_
        refine J_st [.int (T.2.1 9 b9)] (show ([Value.int (upd (V.2.2.2 2) b9 (T.2.1 9 b9) b9)] : List Value) = _ by rw [pk_us]) ?_
        refine J_iret (pc := 90) D9_seal_90 rfl ?_
        have hk : slOk T V nb (nI b9) = true := by
          rw [slOk, lyiB_i hb9 hnb h18, nI_clamp (by omega), decide_eq_true h39]; rfl
        exact ⟨by rw [slA, if_pos h5, if_pos hk, nI_clamp (by omega)], S, by rw [slV, if_pos hk, slU, if_pos hk, nI_clamp (by omega), eU2]⟩
      · have h39' := eq_true h39
        refine J_bipush (pc := 42) (v := (-2)) D9_seal_42 (by decide) ?_
        refine J_iret (pc := 44) D9_seal_44 rfl ?_
        have hk : ¬ slOk T V nb (nI b9) = true := fun z => (slOk_t z).2 (by rw [nI_clamp (by omega)]; exact h39)
        exact ⟨by rw [slA, if_pos h5, if_neg hk], S, by rw [slV, if_neg hk, slU, if_neg hk]⟩
  · have h5' := eq_true h5
    replace h5 := i01_z h5
    refine J_iconst (pc := 8) (v := (-1)) D9_seal_8 (by decide) ?_
    refine J_iret (pc := 9) D9_seal_9 rfl ?_
    have hk : ¬ slOk T V nb b = true := fun z => h5 (lyiB_ix (slOk_t z).1)
    exact ⟨by rw [slA, if_neg h5], S, by rw [slV, if_neg hk, slU, if_neg hk]⟩
def opV (V : CV) (nb : Nat) (b : Int32) : CV := if lyiB V nb b = true then lvV V b.toNatClampNeg (nI 1) else V
def opU (V : CV) (U : UV) (nb : Nat) (b : Int32) : UV := if lyiB V nb b = true then addU U.1 U.2 (nI 2) b (nI 0) else U
def opA (V : CV) (nb : Nat) (b : Int32) : Int32 := if ixB nb b = true then (if lyiB V nb b = true then V.2.2.2 1 b.toNatClampNeg else -2) else -1
theorem c9_open {d np nb nn : Nat} {tl hi : Int32} {T : TV} {V : CV} {S : SB} {U : UV} (hT : WT T np nb nn) (hV : WV V nb) {b : Int32} (hu : U.1 ≤ 20) : Tr (d + 3) 0 0 m9_open [.ref 0, .int b] (tcC tl hi T V S U) (fun r w' => r = some (.int (opA V nb b)) ∧ ∃ S', w' = tcC tl hi T (opV V nb b) S' (opU V U nb b)) := by
  have hnb := hT.2.2.2.2.1
  refine Tr.intro (by decide) rfl ?_
  refine J_aload_n (pc := 0) D9_open_0 rfl ?_
  refine J_iload_n (pc := 1) D9_open_1 rfl ?_
  refine J_callVAR (pc := 2) (ac := [.int _]) D9_open_2 m9_isBottle_v t754 (c9_isBottle (d := d) (V := V) hT) (by omega) rfl rfl rfl rfl rfl (fun _ => rfl) rfl rfl rfl ?_
  refine J_if_ne (pc := 5) (tgt := 10) D9_open_5 (by decide) (fun h5 => ?_) (fun h5 => ?_)
  · replace h5 := i01_nz h5
    obtain ⟨b9, hb9, rfl⟩ := ixB_t h5 (by omega)
    refine J_aload_n (pc := 10) D9_open_10 rfl ?_
    refine J_getf (pc := 11) D9_open_11 fl9_46 rfl rfl ?_
    refine J_iload_n (pc := 14) D9_open_14 rfl ?_
    refine J_callVR (pc := 15) (ι := [19, 20, 21, 22, 23, 24, 25, 26, 27, 28]) (ac := [.int _]) D9_open_15 m0_isLying_v t717 (c0_isLying (d := d) (V := V) (b := b9) (by omega)) (by omega) rfl rfl ⟨rfl, rfl⟩ rfl rfl (fun _ => rfl) rfl rfl rfl ?_
    refine J_if_ne (pc := 18) (tgt := 24) D9_open_18 (by decide) (fun h18 => ?_) (fun h18 => ?_)
    · replace h18 := i01_nz h18
      refine J_aload_n (pc := 24) D9_open_24 rfl ?_
      refine J_getf (pc := 25) D9_open_25 fl9_68 rfl rfl ?_
      refine J_iconst (pc := 28) (v := (nI 2)) D9_open_28 (by decide) ?_
      refine J_iload_n (pc := 29) D9_open_29 rfl ?_
      refine J_iconst (pc := 30) (v := (nI 0)) D9_open_30 (by decide) ?_
      refine J_callVP (pc := 31) (ι := [42, 43, 44, 45]) (ac := [.int _, .int _, .int _]) D9_open_31 m7_add_v t784 (c7_add (d := d) (c := U.1) (a := U.2) hu) (by omega) rfl rfl ⟨rfl, rfl⟩ rfl rfl rfl rfl rfl (fun r w' hq hl => ?_)
      obtain ⟨rfl, rfl⟩ := hq
      refine ⟨tcC tl hi T V S (addU U.1 U.2 (nI 2) (nI b9) (nI 0)), ⟨rfl, ⟨rfl, rfl⟩, rfl⟩, ?_⟩
      obtain ⟨U2, eU2⟩ : ∃ z9, addU U.1 U.2 (nI 2) (nI b9) (nI 0) = z9 := ⟨_, rfl⟩
      refine J_w (w2 := tcC tl hi T V S U2) (by subst eU2; rfl) ?_
      refine J_aload_n (pc := 34) D9_open_34 rfl ?_
      refine J_getf (pc := 35) D9_open_35 fl9_46 rfl rfl ?_
      refine J_iload_n (pc := 38) D9_open_38 rfl ?_
      refine J_iconst (pc := 39) (v := (nI 1)) D9_open_39 (by decide) ?_
      refine J_callVP (pc := 40) (ι := [19, 20, 21, 22, 23, 24, 25, 26, 27, 28]) (ac := [.int _, .int _]) D9_open_40 m0_leave_v t807 (yl_leave (d := d) (V := V) (b := b9) (x := nI 1) hV hb9 hnb) (by omega) rfl rfl ⟨rfl, rfl⟩ rfl rfl rfl rfl rfl (fun r w' hq hl => ?_)
      obtain ⟨rfl, rfl⟩ := hq
      refine ⟨tcC tl hi T (lvV V b9 (nI 1)) S U2, ⟨rfl, ⟨rfl, rfl⟩, rfl⟩, ?_⟩
      refine J_aload_n (pc := 43) D9_open_43 rfl ?_
      refine J_getf (pc := 44) D9_open_44 fl9_46 rfl rfl ?_
      refine J_getf (pc := 47) D9_open_47 fl9_150 rfl rfl ?_
      refine J_iload_n (pc := 50) D9_open_50 rfl ?_
      refine J_iald (pc := 51) D9_open_51 rfl rfl (by omega) rfl ?_
      refine J_iret (pc := 52) D9_open_52 rfl ?_
      have hk := lyiB_i hb9 hnb h18
      exact ⟨by rw [opA, if_pos h5, if_pos hk, nI_clamp (by omega)]; rfl, S, by rw [opV, if_pos hk, opU, if_pos hk, nI_clamp (by omega), eU2]⟩
    · have h18' := eq_true h18
      replace h18 := i01_z h18
      refine J_bipush (pc := 21) (v := (-2)) D9_open_21 (by decide) ?_
      refine J_iret (pc := 23) D9_open_23 rfl ?_
      have hk : ¬ lyiB V nb (nI b9) = true := fun z => h18 (lyiB_l (by omega) z)
      exact ⟨by rw [opA, if_pos h5, if_neg hk], S, by rw [opV, if_neg hk, opU, if_neg hk]⟩
  · have h5' := eq_true h5
    replace h5 := i01_z h5
    refine J_iconst (pc := 8) (v := (-1)) D9_open_8 (by decide) ?_
    refine J_iret (pc := 9) D9_open_9 rfl ?_
    have hk : ¬ lyiB V nb b = true := fun z => h5 (lyiB_ix z)
    exact ⟨by rw [opA, if_neg h5], S, by rw [opV, if_neg hk, opU, if_neg hk]⟩
/-- what is kept to be undone speaks of bottles and bins -/
def UI (U : UV) (nb : Nat) : Prop := U.1 ≤ 20 ∧ ∀ i, i < U.1 → (∃ b, b < nb ∧ U.2 2 i = nI b) ∧ (U.2 1 i = 0 → ∃ q, q < 6 ∧ U.2 3 i = nI q)
def unV (V : CV) (U : UV) : CV := if U.1 = 0 then V else tkV U.2 (U.1 - 1) V
def unU (U : UV) : UV := (U.1 - 1, U.2)
def unA (U : UV) : Int32 := if U.1 = 0 then -1 else nI (U.1 - 1)
theorem c9_undo {d np nb nn : Nat} {tl hi : Int32} {T : TV} {V : CV} {S : SB} {U : UV} (hT : WT T np nb nn) (hV : WV V nb) (hu : UI U nb) : Tr (d + 3) 0 0 m9_undo [.ref 0] (tcC tl hi T V S U) (fun r w' => r = some (.int (unA U)) ∧ ∃ S', w' = tcC tl hi T (unV V U) S' (unU U)) := by
  have hnb := hT.2.2.2.2.1
  have h20 := hu.1
  refine Tr.intro (by decide) rfl ?_
  refine J_aload_n (pc := 0) D9_undo_0 rfl ?_
  refine J_getf (pc := 1) D9_undo_1 fl9_68 rfl rfl ?_
  refine J_getf (pc := 4) D9_undo_4 fl9_377 rfl rfl ?_
  refine J_if_ne (pc := 7) (tgt := 12) D9_undo_7 (by decide) (fun h7 => ?_) (fun h7 => ?_)
  · have hc0 : U.1 ≠ 0 := fun e => h7 (by rw [e]; rfl)
    obtain ⟨c, ec⟩ : ∃ c, U.1 = c + 1 := ⟨U.1 - 1, by omega⟩
    obtain ⟨⟨b9, hb9, eb9⟩, hd9⟩ := hu.2 c (by omega)
    obtain ⟨β, hβ, eβ⟩ := hV b9 hb9
    refine J_w (w2 := tcC tl hi T V S (c + 1, U.2)) (by show _ = tcC tl hi T V S (c + 1, U.2); rw [← ec]) ?_
    refine J_aload_n (pc := 12) D9_undo_12 rfl ?_
    refine J_getf (pc := 13) D9_undo_13 fl9_68 rfl rfl ?_
    refine J_aload_n (pc := 16) D9_undo_16 rfl ?_
    refine J_getf (pc := 17) D9_undo_17 fl9_46 rfl rfl ?_
    refine J_callVP (pc := 20) (ι := [42, 43, 44, 45, 19, 20, 21, 22, 23, 24, 25, 26, 27, 28]) (ac := [.ref 4]) D9_undo_20 m7_takeLatest_v t1102 (c7_takeLatest (d := d) (c := c) (b := b9) (β := β) (a := U.2) (V := V) (by omega) (by omega) eb9 hβ eβ hd9) (by omega) rfl rfl ⟨rfl, rfl⟩ rfl rfl rfl rfl rfl (fun r w' hq hl => ?_)
    obtain ⟨rfl, rfl⟩ := hq
    refine ⟨tcC tl hi T (tkV U.2 c V) S (c, U.2), ⟨rfl, ⟨rfl, rfl⟩, rfl⟩, ?_⟩
    refine J_aload_n (pc := 23) D9_undo_23 rfl ?_
    refine J_getf (pc := 24) D9_undo_24 fl9_68 rfl rfl ?_
    refine J_getf (pc := 27) D9_undo_27 fl9_377 rfl rfl ?_
    refine J_iret (pc := 30) D9_undo_30 rfl ?_
    exact ⟨by rw [unA, if_neg hc0, ec]; rfl, S, by rw [unV, if_neg hc0, unU, ec]; rfl⟩
  · have h7' := eq_true h7
    have hc0 : U.1 = 0 := nI_eqI (by omega) (by decide) h7
    refine J_iconst (pc := 10) (v := (-1)) D9_undo_10 (by decide) ?_
    refine J_iret (pc := 11) D9_undo_11 rfl ?_
    exact ⟨by rw [unA, if_pos hc0], S, by rw [unV, if_pos hc0, unU, show U.1 - 1 = U.1 by omega]⟩
