/-! TEMPERCELLAR: ahead, first off, chain, ripe, chance, tried (own; walks by program wk.py) -/
def metN (V : CV) : Int32 := cntF (V.2.2.2 5) (nI 1) 8 + cntF (V.2.2.2 5) (nI 2) 8
def umN (V : CV) : Int32 := cntF (V.2.2.2 5) (nI 0) 8
def hpN (V : CV) : Int32 := sumF (V.2.2.2 7) 5
def ahE (V X : CV) (w b : Int32) : Int32 := if w = nI 0 then offN X - offN V else if w = nI 1 then metN X - metN V else if w = nI 2 then umN X - umN V else if w = nI 3 then hpN X - hpN V else X.2.2.2 1 b.toNatClampNeg
def ahF (T : TV) (V : CV) (nb nn : Nat) (n w b : Int32) : Int32 := if ixB 100 n = true ∧ ixB 5 w = true ∧ (w = nI 4 → ixB nb b = true) then ahE V (passN T y1 nb nn n.toNatClampNeg V) w b else -1
theorem L9_ahead34 {d np nb nn : Nat} {tl hi : Int32} {T : TV} {V : CV} {S : SB} (hT : WT T np nb nn) (hV : WV V nb) {n : Nat} {w b : Int32} (hn : n < 100) (hw : ixB 5 w = true) (hb : w = nI 4 → ixB nb b = true) : J m9_ahead (d + 7) 0 0 42 34 [(0, .ref 0), (1, .int (nI n)), (2, .int w), (3, .int b)] [] (tcB tl hi T V S) 0 0 (fun r w' => r = some (.int (ahE V (passN T y1 nb nn n V) w b)) ∧ ∃ S', w' = tcB tl hi T V S') := by
  have hnb := hT.2.2.2.2.1
  refine J_aload_n (pc := 34) D9_ahead_34 rfl ?_
  refine J_iconst (pc := 35) (v := (nI 1)) D9_ahead_35 (by decide) ?_
  refine J_callVT (pc := 36) (ac := [.int _]) D9_ahead_36 m9_startTrial_v t883 (c9_startTrial (d := d + 4)) (by omega) rfl rfl rfl rfl rfl rfl rfl (fun r w' hq hl => ?_)
  obtain ⟨rfl, rfl⟩ := hq
  obtain ⟨q0, eq0⟩ : ∃ q, q = S.2.2.1 := ⟨_, rfl⟩
  obtain ⟨k0, ek0⟩ : ∃ q, q = S.2.2.2.1 := ⟨_, rfl⟩
  refine J_w (w2 := tcB tl hi T V (V, y1, q0, k0, 1, 29)) (by subst eq0 ek0; rfl) ?_
  refine J_aload_n (pc := 39) D9_ahead_39 rfl ?_
  refine J_getf (pc := 40) D9_ahead_40 fl9_61 rfl rfl ?_
  refine J_iload_n (pc := 43) D9_ahead_43 rfl ?_
  refine J_callVP (pc := 44) (ι := [39, 40, 41, 1, 2, 3, 4, 5, 6, 7, 8, 9, 10, 11, 12, 13, 14, 15, 16, 17, 18, 29, 30, 31, 32, 33, 34, 35, 36, 37, 38]) (ac := [.int _]) D9_ahead_44 m8_pass_v t815 (c8_pass (d := d) (n := n) (y := y1) (q := q0) (k := k0) (T := T) (V := V) hT hV (by omega)) (by omega) rfl rfl ⟨rfl, rfl⟩ rfl rfl rfl rfl rfl (fun r w' hq hl => ?_)
  obtain ⟨rfl, q1, k1, rfl⟩ := hq
  refine ⟨tcB tl hi T V (passN T y1 nb nn n V, y1, q1, k1, 1, 29), ⟨rfl, ⟨rfl, rfl⟩, rfl⟩, ?_⟩
  obtain ⟨X, eX⟩ : ∃ x, passN T y1 nb nn n V = x := ⟨_, rfl⟩
  refine J_w (w2 := tcB tl hi T V (X, y1, q1, k1, 1, 29)) (by subst eX; rfl) ?_
  refine J_iload_n (pc := 47) D9_ahead_47 rfl ?_
  refine J_tsw (pc := 48) 0 [80, 85, 101, 117] 133 D9_ahead_48 (by decide) (by decide) rfl (by decide) (by decide) (fun j hj h48 => ?_) (fun h48 => ?_)
  · have hj48 : j = 0 ∨ j = 1 ∨ j = 2 ∨ j = 3 := by have hj2 : j < 4 := hj; omega
    clear hj
    rcases hj48 with rfl | rfl | rfl | rfl
    · refine J_aload_n (pc := 80) D9_ahead_80 rfl ?_
      refine J_callVTR (pc := 81) (ac := []) D9_ahead_81 m9_moreOff_v t892 (c9_moreOff (d := d + 4) (S := (X, y1, q1, k1, 1, 29))) (by omega) rfl rfl rfl rfl (fun _ => rfl) rfl rfl rfl ?_
      refine J_iret (pc := 84) D9_ahead_84 rfl ?_
      exact ⟨by rw [eX, ahE, if_pos h48]; try rfl, _, rfl⟩
    · refine J_aload_n (pc := 85) D9_ahead_85 rfl ?_
      refine J_getf (pc := 86) D9_ahead_86 fl9_53 rfl rfl ?_
      refine J_callVR (pc := 89) (ι := [29, 30, 31, 32, 33, 34, 35, 36, 37, 38]) (ac := []) D9_ahead_89 m0_metNeeds_v t905 (c0_metNeeds (d := d + 4) (V := X)) (by omega) rfl rfl ⟨rfl, rfl⟩ rfl rfl (fun _ => rfl) rfl rfl rfl ?_
      refine J_aload_n (pc := 92) D9_ahead_92 rfl ?_
      refine J_getf (pc := 93) D9_ahead_93 fl9_46 rfl rfl ?_
      refine J_callVR (pc := 96) (ι := [19, 20, 21, 22, 23, 24, 25, 26, 27, 28]) (ac := []) D9_ahead_96 m0_metNeeds_v t905 (c0_metNeeds (d := d + 4) (V := V)) (by omega) rfl rfl ⟨rfl, rfl⟩ rfl rfl (fun _ => rfl) rfl rfl rfl ?_
      refine J_isub (pc := 99) D9_ahead_99 ?_
      refine J_iret (pc := 100) D9_ahead_100 rfl ?_
      exact ⟨by rw [eX, ahE, if_neg (by rw [h48]; decide), if_pos h48]; try rfl, _, rfl⟩
    · refine J_aload_n (pc := 101) D9_ahead_101 rfl ?_
      refine J_getf (pc := 102) D9_ahead_102 fl9_53 rfl rfl ?_
      refine J_callVR (pc := 105) (ι := [29, 30, 31, 32, 33, 34, 35, 36, 37, 38]) (ac := []) D9_ahead_105 m0_unmetNeeds_v t913 (c0_unmetNeeds (d := d + 4) (V := X)) (by omega) rfl rfl ⟨rfl, rfl⟩ rfl rfl (fun _ => rfl) rfl rfl rfl ?_
      refine J_aload_n (pc := 108) D9_ahead_108 rfl ?_
      refine J_getf (pc := 109) D9_ahead_109 fl9_46 rfl rfl ?_
      refine J_callVR (pc := 112) (ι := [19, 20, 21, 22, 23, 24, 25, 26, 27, 28]) (ac := []) D9_ahead_112 m0_unmetNeeds_v t913 (c0_unmetNeeds (d := d + 4) (V := V)) (by omega) rfl rfl ⟨rfl, rfl⟩ rfl rfl (fun _ => rfl) rfl rfl rfl ?_
      refine J_isub (pc := 115) D9_ahead_115 ?_
      refine J_iret (pc := 116) D9_ahead_116 rfl ?_
      exact ⟨by rw [eX, ahE, if_neg (by rw [h48]; decide), if_neg (by rw [h48]; decide), if_pos h48]; try rfl, _, rfl⟩
    · refine J_aload_n (pc := 117) D9_ahead_117 rfl ?_
      refine J_getf (pc := 118) D9_ahead_118 fl9_53 rfl rfl ?_
      refine J_callVR (pc := 121) (ι := [29, 30, 31, 32, 33, 34, 35, 36, 37, 38]) (ac := []) D9_ahead_121 m0_hatingPairs_v t917 (c0_hatingPairs (d := d + 4) (V := X)) (by omega) rfl rfl ⟨rfl, rfl⟩ rfl rfl (fun _ => rfl) rfl rfl rfl ?_
      refine J_aload_n (pc := 124) D9_ahead_124 rfl ?_
      refine J_getf (pc := 125) D9_ahead_125 fl9_46 rfl rfl ?_
      refine J_callVR (pc := 128) (ι := [19, 20, 21, 22, 23, 24, 25, 26, 27, 28]) (ac := []) D9_ahead_128 m0_hatingPairs_v t917 (c0_hatingPairs (d := d + 4) (V := V)) (by omega) rfl rfl ⟨rfl, rfl⟩ rfl rfl (fun _ => rfl) rfl rfl rfl ?_
      refine J_isub (pc := 131) D9_ahead_131 ?_
      refine J_iret (pc := 132) D9_ahead_132 rfl ?_
      exact ⟨by rw [eX, ahE, if_neg (by rw [h48]; decide), if_neg (by rw [h48]; decide), if_neg (by rw [h48]; decide), if_pos h48]; try rfl, _, rfl⟩
  · have hw4 : w = nI 4 := by
      obtain ⟨j, hj, rfl⟩ := ixB_t hw (by decide)
      have h0 : j ≠ 0 := fun e => h48 0 (by decide) (by rw [e])
      have h1 : j ≠ 1 := fun e => h48 1 (by decide) (by rw [e])
      have h2 : j ≠ 2 := fun e => h48 2 (by decide) (by rw [e])
      have h3 : j ≠ 3 := fun e => h48 3 (by decide) (by rw [e])
      rw [show j = 4 by omega]
    obtain ⟨b9, hb9, rfl⟩ := ixB_t (hb hw4) (by omega)
    refine J_aload_n (pc := 133) D9_ahead_133 rfl ?_
    refine J_getf (pc := 134) D9_ahead_134 fl9_53 rfl rfl ?_
    refine J_getf (pc := 137) D9_ahead_137 fl9_150 rfl rfl ?_
    refine J_iload_n (pc := 140) D9_ahead_140 rfl ?_
    refine J_iald (pc := 141) D9_ahead_141 rfl rfl (by omega) rfl ?_
    refine J_iret (pc := 142) D9_ahead_142 rfl ?_
    exact ⟨by rw [eX, ahE, if_neg (h48 0 (by decide)), if_neg (h48 1 (by decide)), if_neg (h48 2 (by decide)), if_neg (h48 3 (by decide)), nI_clamp (by omega)]; try rfl, _, rfl⟩
theorem c9_ahead {d np nb nn : Nat} {tl hi : Int32} {T : TV} {V : CV} {S : SB} (hT : WT T np nb nn) (hV : WV V nb) {n w b : Int32} : Tr (d + 7) 0 0 m9_ahead [.ref 0, .int n, .int w, .int b] (tcB tl hi T V S) (fun r w' => r = some (.int (ahF T V nb nn n w b)) ∧ ∃ S', w' = tcB tl hi T V S') := by
  have hnb := hT.2.2.2.2.1
  refine Tr.intro (by decide) rfl ?_
  refine J_iload_n (pc := 0) D9_ahead_0 rfl ?_
  refine J_iconst (pc := 1) (v := (nI 0)) D9_ahead_1 (by decide) ?_
  refine J_bipush (pc := 2) (v := (nI 99)) D9_ahead_2 (by decide) ?_
  refine J_callSR (pc := 4) (ι := []) (ac := [.int _, .int _, .int _]) D9_ahead_4 m9_isAmong_s t712 (c9_isAmong (d := d + 6)) (by omega) ⟨rfl, rfl⟩ rfl rfl (fun _ => rfl) rfl rfl rfl ?_
  refine J_st [.int (i01 (ixB 100 n = true))] (by rw [← ixB_m (n := 99) (by decide)]; try rfl) ?_
  refine J_if_eq (pc := 7) (tgt := 32) D9_ahead_7 (by decide) (fun h7 => ?_) (fun h7 => ?_)
  · have h7' := eq_true h7
    replace h7 := i01_z h7
    refine J_iconst (pc := 32) (v := (-1)) D9_ahead_32 (by decide) ?_
    refine J_iret (pc := 33) D9_ahead_33 rfl ?_
    exact ⟨by rw [ahF, if_neg (fun q => h7 q.1)], S, rfl⟩
  · replace h7 := i01_nz h7
    refine J_iload_n (pc := 10) D9_ahead_10 rfl ?_
    refine J_iconst (pc := 11) (v := (nI 0)) D9_ahead_11 (by decide) ?_
    refine J_iconst (pc := 12) (v := (nI 4)) D9_ahead_12 (by decide) ?_
    refine J_callSR (pc := 13) (ι := []) (ac := [.int _, .int _, .int _]) D9_ahead_13 m9_isAmong_s t712 (c9_isAmong (d := d + 6)) (by omega) ⟨rfl, rfl⟩ rfl rfl (fun _ => rfl) rfl rfl rfl ?_
    refine J_st [.int (i01 (ixB 5 w = true))] (by rw [← ixB_m (n := 4) (by decide)]; try rfl) ?_
    refine J_if_eq (pc := 16) (tgt := 32) D9_ahead_16 (by decide) (fun h16 => ?_) (fun h16 => ?_)
    · have h16' := eq_true h16
      replace h16 := i01_z h16
      refine J_iconst (pc := 32) (v := (-1)) D9_ahead_32 (by decide) ?_
      refine J_iret (pc := 33) D9_ahead_33 rfl ?_
      exact ⟨by rw [ahF, if_neg (fun q => h16 q.2.1)], S, rfl⟩
    · replace h16 := i01_nz h16
      refine J_iload_n (pc := 19) D9_ahead_19 rfl ?_
      refine J_iconst (pc := 20) (v := (nI 4)) D9_ahead_20 (by decide) ?_
      refine J_icmp_ne (pc := 21) (tgt := 34) D9_ahead_21 (by decide) (fun h21 => ?_) (fun h21 => ?_)
      · rw [ahF, if_pos ⟨h7, h16, fun e => absurd e h21⟩]
        obtain ⟨m, hm, rfl⟩ := ixB_t h7 (by decide)
        rw [nI_clamp (by omega)]
        exact L9_ahead34 hT hV hm h16 (fun e => absurd e h21)
      · have h21' := eq_true h21
        refine J_aload_n (pc := 24) D9_ahead_24 rfl ?_
        refine J_iload_n (pc := 25) D9_ahead_25 rfl ?_
        refine J_callVAR (pc := 26) (ac := [.int _]) D9_ahead_26 m9_isBottle_v t754 (c9_isBottle (d := d + 5) (V := V) hT) (by omega) rfl rfl rfl rfl rfl (fun _ => rfl) rfl rfl rfl ?_
        refine J_if_ne (pc := 29) (tgt := 34) D9_ahead_29 (by decide) (fun h29 => ?_) (fun h29 => ?_)
        · replace h29 := i01_nz h29
          rw [ahF, if_pos ⟨h7, h16, fun e => h29⟩]
          obtain ⟨m, hm, rfl⟩ := ixB_t h7 (by decide)
          rw [nI_clamp (by omega)]
          exact L9_ahead34 hT hV hm h16 (fun e => h29)
        · have h29' := eq_true h29
          replace h29 := i01_z h29
          refine J_iconst (pc := 32) (v := (-1)) D9_ahead_32 (by decide) ?_
          refine J_iret (pc := 33) D9_ahead_33 rfl ?_
          exact ⟨by rw [ahF, if_neg (fun q => h29 (q.2.2 h21))], S, rfl⟩
def bOff (V : CV) : Int32 := bitsF (V.2.2.2 3) (nI 2) 10
def fiL (T : TV) (nb nn : Nat) (bf w : Int32) : Nat → Nat → CV → Int32
  | 0, _, _ => -2
  | g + 1, y, X => if bOff (passF T y1 nb nn X) &&& (bf ^^^ -1) = 0 then fiL T nb nn bf w g (y + 1) (passF T y1 nb nn X) else if w = 0 then nI y else bOff (passF T y1 nb nn X) &&& (bf ^^^ -1)
def fioF (T : TV) (V : CV) (nb nn : Nat) (w : Int32) : Int32 := if ixB 2 w = true then fiL T nb nn (bOff V) w 99 1 V else -1
theorem L9_firstOff {d np nb nn : Nat} {tl hi : Int32} {T : TV} {V : CV} (hT : WT T np nb nn) {w bf : Int32} : ∀ (g y : Nat) (X : CV) (q : Nat → Int32) (k : Nat → Int64), WV X nb → y + g = 100 → J m9_firstOff (d + 6) 0 0 42 27 [(0, .ref 0), (1, .int w), (2, .int bf), (3, .int (nI y))] [] (tcB tl hi T V (X, y1, q, k, 1, 29)) 0 0 (fun r w' => r = some (.int (fiL T nb nn bf w g y X)) ∧ ∃ S', w' = tcB tl hi T V S') := by
  intro g
  induction g with
  | zero =>
    intro y X q k hX hy
    refine J_iload_n (pc := 27) D9_firstOff_27 rfl ?_
    refine J_bipush (pc := 28) (v := (nI 99)) D9_firstOff_28 (by decide) ?_
    refine J_icmp_gt (pc := 30) (tgt := 76) D9_firstOff_30 (by decide) (fun h30 => ?_) (fun h30 => absurd (nI_lt (by omega) (by omega)) h30)
    refine J_bipush (pc := 76) (v := (-2)) D9_firstOff_76 (by decide) ?_
    refine J_iret (pc := 78) D9_firstOff_78 rfl ?_
    exact ⟨rfl, _, rfl⟩
  | succ g ih =>
    intro y X q k hX hy
    refine J_iload_n (pc := 27) D9_firstOff_27 rfl ?_
    refine J_bipush (pc := 28) (v := (nI 99)) D9_firstOff_28 (by decide) ?_
    refine J_icmp_gt (pc := 30) (tgt := 76) D9_firstOff_30 (by decide) (fun h30 => absurd h30 (Int32.not_lt.mpr (nI_le (by omega) (by omega)))) (fun h30 => ?_)
    refine J_aload_n (pc := 33) D9_firstOff_33 rfl ?_
    refine J_getf (pc := 34) D9_firstOff_34 fl9_61 rfl rfl ?_
    refine J_callVP (pc := 37) (ι := [39, 40, 41, 1, 2, 3, 4, 5, 6, 7, 8, 9, 10, 11, 12, 13, 14, 15, 16, 17, 18, 29, 30, 31, 32, 33, 34, 35, 36, 37, 38]) (ac := []) D9_firstOff_37 m8_passOne_v t926 (c8_passOne (d := d) (y := y1) (q := q) (k := k) (T := T) (V := X) hT hX) (by omega) rfl rfl ⟨rfl, rfl⟩ rfl rfl rfl rfl rfl (fun r w' hq hl => ?_)
    obtain ⟨rfl, q1, k1, rfl⟩ := hq
    refine ⟨tcB tl hi T V (passF T y1 nb nn X, y1, q1, k1, 1, 29), ⟨rfl, ⟨rfl, rfl⟩, rfl⟩, ?_⟩
    have hX2 : WV (passF T y1 nb nn X) nb := passF_V hX
    revert hX2
    obtain ⟨X2, eX2⟩ : ∃ x, passF T y1 nb nn X = x := ⟨_, rfl⟩
    rw [eX2]
    intro hX2
    refine J_aload_n (pc := 40) D9_firstOff_40 rfl ?_
    refine J_getf (pc := 41) D9_firstOff_41 fl9_53 rfl rfl ?_
    refine J_iconst (pc := 44) (v := (nI 2)) D9_firstOff_44 (by decide) ?_
    refine J_callVR (pc := 45) (ι := [29, 30, 31, 32, 33, 34, 35, 36, 37, 38]) (ac := [.int _]) D9_firstOff_45 m0_bits_v t925 (c0_bits (d := d + 5) (V := X2)) (by omega) rfl rfl ⟨rfl, rfl⟩ rfl rfl (fun _ => rfl) rfl rfl rfl ?_
    refine J_iload_n (pc := 48) D9_firstOff_48 rfl ?_
    refine J_iconst (pc := 49) (v := (-1)) D9_firstOff_49 (by decide) ?_
    refine J_ixor (pc := 50) D9_firstOff_50 ?_
    refine J_iand (pc := 51) D9_firstOff_51 ?_
    refine J_istore (pc := 52) D9_firstOff_52 rfl ?_
    refine J_iload (pc := 54) D9_firstOff_54 rfl ?_
    refine J_if_eq (pc := 56) (tgt := 70) D9_firstOff_56 (by decide) (fun h56 => ?_) (fun h56 => ?_)
    · have h56' := eq_true h56
      refine J_iinc (pc := 70) D9_firstOff_70 rfl (nI_inc _) rfl ?_
      refine J_goto (pc := 73) (tgt := 27) D9_firstOff_73 (by decide) ?_
      rw [fiL, eX2, if_pos (show bOff X2 &&& (bf ^^^ -1) = 0 from h56)]
      refine J_lk [(0, .ref 0), (1, .int w), (2, .int bf), (3, .int (nI (y + 1)))] rfl ?_
      exact ih (y + 1) X2 q1 k1 hX2 (by omega)
    · refine J_iload_n (pc := 59) D9_firstOff_59 rfl ?_
      refine J_if_ne (pc := 60) (tgt := 67) D9_firstOff_60 (by decide) (fun h60 => ?_) (fun h60 => ?_)
      · refine J_iload (pc := 67) D9_firstOff_67 rfl ?_
        refine J_iret (pc := 69) D9_firstOff_69 rfl ?_
        exact ⟨by rw [fiL, eX2, if_neg (show ¬ bOff X2 &&& (bf ^^^ -1) = 0 from h56), if_neg h60]; try rfl, _, rfl⟩
      · have h60' := eq_true h60
        refine J_iload_n (pc := 63) D9_firstOff_63 rfl ?_
        refine J_goto (pc := 64) (tgt := 69) D9_firstOff_64 (by decide) ?_
        refine J_iret (pc := 69) D9_firstOff_69 rfl ?_
        exact ⟨by rw [fiL, eX2, if_neg (show ¬ bOff X2 &&& (bf ^^^ -1) = 0 from h56), if_pos h60]; try rfl, _, rfl⟩
theorem c9_firstOff {d np nb nn : Nat} {tl hi : Int32} {T : TV} {V : CV} {S : SB} (hT : WT T np nb nn) (hV : WV V nb) {w : Int32} : Tr (d + 6) 0 0 m9_firstOff [.ref 0, .int w] (tcB tl hi T V S) (fun r w' => r = some (.int (fioF T V nb nn w)) ∧ ∃ S', w' = tcB tl hi T V S') := by
  refine Tr.intro (by decide) rfl ?_
  refine J_iload_n (pc := 0) D9_firstOff_0 rfl ?_
  refine J_iconst (pc := 1) (v := (nI 0)) D9_firstOff_1 (by decide) ?_
  refine J_iconst (pc := 2) (v := (nI 1)) D9_firstOff_2 (by decide) ?_
  refine J_callSR (pc := 3) (ι := []) (ac := [.int _, .int _, .int _]) D9_firstOff_3 m9_isAmong_s t712 (c9_isAmong (d := d + 5)) (by omega) ⟨rfl, rfl⟩ rfl rfl (fun _ => rfl) rfl rfl rfl ?_
  refine J_st [.int (i01 (ixB 2 w = true))] (by rw [← ixB_m (n := 1) (by decide)]; try rfl) ?_
  refine J_if_ne (pc := 6) (tgt := 11) D9_firstOff_6 (by decide) (fun h6 => ?_) (fun h6 => ?_)
  · replace h6 := i01_nz h6
    refine J_aload_n (pc := 11) D9_firstOff_11 rfl ?_
    refine J_iconst (pc := 12) (v := (nI 1)) D9_firstOff_12 (by decide) ?_
    refine J_callVT (pc := 13) (ac := [.int _]) D9_firstOff_13 m9_startTrial_v t883 (c9_startTrial (d := d + 3)) (by omega) rfl rfl rfl rfl rfl rfl rfl (fun r w' hq hl => ?_)
    obtain ⟨rfl, rfl⟩ := hq
    obtain ⟨q0, eq0⟩ : ∃ q, q = S.2.2.1 := ⟨_, rfl⟩
    obtain ⟨k0, ek0⟩ : ∃ q, q = S.2.2.2.1 := ⟨_, rfl⟩
    refine J_w (w2 := tcB tl hi T V (V, y1, q0, k0, 1, 29)) (by subst eq0 ek0; rfl) ?_
    refine J_aload_n (pc := 16) D9_firstOff_16 rfl ?_
    refine J_getf (pc := 17) D9_firstOff_17 fl9_46 rfl rfl ?_
    refine J_iconst (pc := 20) (v := (nI 2)) D9_firstOff_20 (by decide) ?_
    refine J_callVR (pc := 21) (ι := [19, 20, 21, 22, 23, 24, 25, 26, 27, 28]) (ac := [.int _]) D9_firstOff_21 m0_bits_v t925 (c0_bits (d := d + 5) (V := V)) (by omega) rfl rfl ⟨rfl, rfl⟩ rfl rfl (fun _ => rfl) rfl rfl rfl ?_
    refine J_istore_n (pc := 24) D9_firstOff_24 rfl ?_
    refine J_iconst (pc := 25) (v := (nI 1)) D9_firstOff_25 (by decide) ?_
    refine J_istore_n (pc := 26) D9_firstOff_26 rfl ?_
    rw [fioF, if_pos h6]
    exact L9_firstOff hT 99 1 V q0 k0 hV (by omega)
  · have h6' := eq_true h6
    replace h6 := i01_z h6
    refine J_iconst (pc := 9) (v := (-1)) D9_firstOff_9 (by decide) ?_
    refine J_iret (pc := 10) D9_firstOff_10 rfl ?_
    exact ⟨by rw [fioF, if_neg h6], S, rfl⟩
def chnF (T : TV) (V : CV) (nb : Nat) (b : Int32) : Int32 := if ixB nb b = true then (if V.2.2.2 3 b.toNatClampNeg = 0 then bOff (goOffF T y1 nb V b.toNatClampNeg) &&& (bOff V ^^^ -1) else -2) else -1
theorem c9_chain {d np nb nn : Nat} {tl hi : Int32} {T : TV} {V : CV} {S : SB} (hT : WT T np nb nn) (hV : WV V nb) {b : Int32} : Tr (d + 5) 0 0 m9_chain [.ref 0, .int b] (tcB tl hi T V S) (fun r w' => r = some (.int (chnF T V nb b)) ∧ ∃ S', w' = tcB tl hi T V S') := by
  have hnb := hT.2.2.2.2.1
  refine Tr.intro (by decide) rfl ?_
  refine J_aload_n (pc := 0) D9_chain_0 rfl ?_
  refine J_iload_n (pc := 1) D9_chain_1 rfl ?_
  refine J_callVAR (pc := 2) (ac := [.int _]) D9_chain_2 m9_isBottle_v t754 (c9_isBottle (d := d + 3) (V := V) hT) (by omega) rfl rfl rfl rfl rfl (fun _ => rfl) rfl rfl rfl ?_
  refine J_if_ne (pc := 5) (tgt := 10) D9_chain_5 (by decide) (fun h5 => ?_) (fun h5 => ?_)
  · replace h5 := i01_nz h5
    obtain ⟨b9, hb9, rfl⟩ := ixB_t h5 (by omega)
    refine J_aload_n (pc := 10) D9_chain_10 rfl ?_
    refine J_getf (pc := 11) D9_chain_11 fl9_46 rfl rfl ?_
    refine J_iload_n (pc := 14) D9_chain_14 rfl ?_
    refine J_callVR (pc := 15) (ι := [19, 20, 21, 22, 23, 24, 25, 26, 27, 28]) (ac := [.int _]) D9_chain_15 m0_isLying_v t717 (c0_isLying (d := d) (V := V) (b := b9) (by omega)) (by omega) rfl rfl ⟨rfl, rfl⟩ rfl rfl (fun _ => rfl) rfl rfl rfl ?_
    refine J_if_ne (pc := 18) (tgt := 24) D9_chain_18 (by decide) (fun h18 => ?_) (fun h18 => ?_)
    · replace h18 := i01_nz h18
      refine J_aload_n (pc := 24) D9_chain_24 rfl ?_
      refine J_iconst (pc := 25) (v := (nI 1)) D9_chain_25 (by decide) ?_
      refine J_callVT (pc := 26) (ac := [.int _]) D9_chain_26 m9_startTrial_v t883 (c9_startTrial (d := d + 2)) (by omega) rfl rfl rfl rfl rfl rfl rfl (fun r w' hq hl => ?_)
      obtain ⟨rfl, rfl⟩ := hq
      obtain ⟨q0, eq0⟩ : ∃ q, q = S.2.2.1 := ⟨_, rfl⟩
      obtain ⟨k0, ek0⟩ : ∃ q, q = S.2.2.2.1 := ⟨_, rfl⟩
      refine J_w (w2 := tcB tl hi T V (V, y1, q0, k0, 1, 29)) (by subst eq0 ek0; rfl) ?_
      refine J_aload_n (pc := 29) D9_chain_29 rfl ?_
      refine J_getf (pc := 30) D9_chain_30 fl9_61 rfl rfl ?_
      refine J_iload_n (pc := 33) D9_chain_33 rfl ?_
      refine J_callVP (pc := 34) (ι := [39, 40, 41, 1, 2, 3, 4, 5, 6, 7, 8, 9, 10, 11, 12, 13, 14, 15, 16, 17, 18, 29, 30, 31, 32, 33, 34, 35, 36, 37, 38]) (ac := [.int _]) D9_chain_34 m8_goOff_v t931 (c8_goOff (d := d) (y := y1) (q := q0) (k := k0) (T := T) (V := V) (b := b9) hT hV hb9) (by omega) rfl rfl ⟨rfl, rfl⟩ rfl rfl rfl rfl rfl (fun r w' hq hl => ?_)
      obtain ⟨rfl, q1, k1, rfl⟩ := hq
      refine ⟨tcB tl hi T V (goOffF T y1 nb V b9, y1, q1, k1, 1, 29), ⟨rfl, ⟨rfl, rfl⟩, rfl⟩, ?_⟩
      obtain ⟨X, eX⟩ : ∃ x, goOffF T y1 nb V b9 = x := ⟨_, rfl⟩
      refine J_w (w2 := tcB tl hi T V (X, y1, q1, k1, 1, 29)) (by subst eX; rfl) ?_
      refine J_aload_n (pc := 37) D9_chain_37 rfl ?_
      refine J_getf (pc := 38) D9_chain_38 fl9_53 rfl rfl ?_
      refine J_iconst (pc := 41) (v := (nI 2)) D9_chain_41 (by decide) ?_
      refine J_callVR (pc := 42) (ι := [29, 30, 31, 32, 33, 34, 35, 36, 37, 38]) (ac := [.int _]) D9_chain_42 m0_bits_v t925 (c0_bits (d := d + 4) (V := X)) (by omega) rfl rfl ⟨rfl, rfl⟩ rfl rfl (fun _ => rfl) rfl rfl rfl ?_
      refine J_aload_n (pc := 45) D9_chain_45 rfl ?_
      refine J_getf (pc := 46) D9_chain_46 fl9_46 rfl rfl ?_
      refine J_iconst (pc := 49) (v := (nI 2)) D9_chain_49 (by decide) ?_
      refine J_callVR (pc := 50) (ι := [19, 20, 21, 22, 23, 24, 25, 26, 27, 28]) (ac := [.int _]) D9_chain_50 m0_bits_v t925 (c0_bits (d := d + 4) (V := V)) (by omega) rfl rfl ⟨rfl, rfl⟩ rfl rfl (fun _ => rfl) rfl rfl rfl ?_
      refine J_iconst (pc := 53) (v := (-1)) D9_chain_53 (by decide) ?_
      refine J_ixor (pc := 54) D9_chain_54 ?_
      refine J_iand (pc := 55) D9_chain_55 ?_
      refine J_iret (pc := 56) D9_chain_56 rfl ?_
      exact ⟨by rw [chnF, if_pos h5, nI_clamp (by omega), if_pos h18, eX]; try rfl, _, rfl⟩
    · have h18' := eq_true h18
      replace h18 := i01_z h18
      refine J_bipush (pc := 21) (v := (-2)) D9_chain_21 (by decide) ?_
      refine J_iret (pc := 23) D9_chain_23 rfl ?_
      exact ⟨by rw [chnF, if_pos h5, nI_clamp (by omega), if_neg h18], S, rfl⟩
  · have h5' := eq_true h5
    replace h5 := i01_z h5
    refine J_iconst (pc := 8) (v := (-1)) D9_chain_8 (by decide) ?_
    refine J_iret (pc := 9) D9_chain_9 rfl ?_
    exact ⟨by rw [chnF, if_neg h5], S, rfl⟩
def rpL (T : TV) (nb nn b : Nat) (s : Int32) : Nat → Nat → CV → Int32
  | 0, _, _ => -2
  | g + 1, y, X => if X.2.2.2 3 b = 0 then (if s ≤ X.2.2.2 1 b then nI y else rpL T nb nn b s g (y + 1) (passF T y1 nb nn X)) else -2
def ripF (T : TV) (V : CV) (nb nn : Nat) (b s : Int32) : Int32 := if ixB nb b = true ∧ ixB 200 s = true then rpL T nb nn b.toNatClampNeg s 100 0 V else -1
theorem L9_ripe {d np nb nn : Nat} {tl hi : Int32} {T : TV} {V : CV} (hT : WT T np nb nn) {b : Nat} {s : Int32} (hb : b < 10) : ∀ (g y : Nat) (X : CV) (q : Nat → Int32) (k : Nat → Int64), WV X nb → y + g = 100 → J m9_ripe (d + 6) 0 0 42 24 [(0, .ref 0), (1, .int (nI b)), (2, .int s), (3, .int (nI y))] [] (tcB tl hi T V (X, y1, q, k, 1, 29)) 0 0 (fun r w' => r = some (.int (rpL T nb nn b s g y X)) ∧ ∃ S', w' = tcB tl hi T V S') := by
  intro g
  induction g with
  | zero =>
    intro y X q k hX hy
    refine J_iload_n (pc := 24) D9_ripe_24 rfl ?_
    refine J_bipush (pc := 25) (v := (nI 99)) D9_ripe_25 (by decide) ?_
    refine J_icmp_gt (pc := 27) (tgt := 69) D9_ripe_27 (by decide) (fun h27 => ?_) (fun h27 => absurd (nI_lt (by omega) (by omega)) h27)
    refine J_bipush (pc := 69) (v := (-2)) D9_ripe_69 (by decide) ?_
    refine J_iret (pc := 71) D9_ripe_71 rfl ?_
    exact ⟨rfl, _, rfl⟩
  | succ g ih =>
    intro y X q k hX hy
    refine J_iload_n (pc := 24) D9_ripe_24 rfl ?_
    refine J_bipush (pc := 25) (v := (nI 99)) D9_ripe_25 (by decide) ?_
    refine J_icmp_gt (pc := 27) (tgt := 69) D9_ripe_27 (by decide) (fun h27 => absurd h27 (Int32.not_lt.mpr (nI_le (by omega) (by omega)))) (fun h27 => ?_)
    refine J_aload_n (pc := 30) D9_ripe_30 rfl ?_
    refine J_getf (pc := 31) D9_ripe_31 fl9_53 rfl rfl ?_
    refine J_iload_n (pc := 34) D9_ripe_34 rfl ?_
    refine J_callVR (pc := 35) (ι := [29, 30, 31, 32, 33, 34, 35, 36, 37, 38]) (ac := [.int _]) D9_ripe_35 m0_isLying_v t717 (c0_isLying (d := d) (V := X) (b := b) (by omega)) (by omega) rfl rfl ⟨rfl, rfl⟩ rfl rfl (fun _ => rfl) rfl rfl rfl ?_
    refine J_if_eq (pc := 38) (tgt := 69) D9_ripe_38 (by decide) (fun h38 => ?_) (fun h38 => ?_)
    · have h38' := eq_true h38
      replace h38 := i01_z h38
      refine J_bipush (pc := 69) (v := (-2)) D9_ripe_69 (by decide) ?_
      refine J_iret (pc := 71) D9_ripe_71 rfl ?_
      exact ⟨by rw [rpL, if_neg h38], _, rfl⟩
    · replace h38 := i01_nz h38
      refine J_aload_n (pc := 41) D9_ripe_41 rfl ?_
      refine J_getf (pc := 42) D9_ripe_42 fl9_53 rfl rfl ?_
      refine J_getf (pc := 45) D9_ripe_45 fl9_150 rfl rfl ?_
      refine J_iload_n (pc := 48) D9_ripe_48 rfl ?_
      refine J_iald (pc := 49) D9_ripe_49 rfl rfl (by omega) rfl ?_
      refine J_iload_n (pc := 50) D9_ripe_50 rfl ?_
      refine J_icmp_lt (pc := 51) (tgt := 56) D9_ripe_51 (by decide) (fun h51 => ?_) (fun h51 => ?_)
      · have h51' := Int32.not_le.mpr h51
        refine J_aload_n (pc := 56) D9_ripe_56 rfl ?_
        refine J_getf (pc := 57) D9_ripe_57 fl9_61 rfl rfl ?_
        refine J_callVP (pc := 60) (ι := [39, 40, 41, 1, 2, 3, 4, 5, 6, 7, 8, 9, 10, 11, 12, 13, 14, 15, 16, 17, 18, 29, 30, 31, 32, 33, 34, 35, 36, 37, 38]) (ac := []) D9_ripe_60 m8_passOne_v t926 (c8_passOne (d := d) (y := y1) (q := q) (k := k) (T := T) (V := X) hT hX) (by omega) rfl rfl ⟨rfl, rfl⟩ rfl rfl rfl rfl rfl (fun r w' hq hl => ?_)
        obtain ⟨rfl, q1, k1, rfl⟩ := hq
        refine ⟨tcB tl hi T V (passF T y1 nb nn X, y1, q1, k1, 1, 29), ⟨rfl, ⟨rfl, rfl⟩, rfl⟩, ?_⟩
        have hX2 : WV (passF T y1 nb nn X) nb := passF_V hX
        revert hX2
        obtain ⟨X2, eX2⟩ : ∃ x, passF T y1 nb nn X = x := ⟨_, rfl⟩
        rw [eX2]
        intro hX2
        refine J_iinc (pc := 63) D9_ripe_63 rfl (nI_inc _) rfl ?_
        refine J_goto (pc := 66) (tgt := 24) D9_ripe_66 (by decide) ?_
        rw [rpL, if_pos h38, if_neg h51', eX2]
        exact ih (y + 1) X2 q1 k1 hX2 (by omega)
      · have h51' := Int32.not_lt.mp h51
        refine J_iload_n (pc := 54) D9_ripe_54 rfl ?_
        refine J_iret (pc := 55) D9_ripe_55 rfl ?_
        exact ⟨by rw [rpL, if_pos h38, if_pos h51'], _, rfl⟩
theorem c9_ripe {d np nb nn : Nat} {tl hi : Int32} {T : TV} {V : CV} {S : SB} (hT : WT T np nb nn) (hV : WV V nb) {b s : Int32} : Tr (d + 6) 0 0 m9_ripe [.ref 0, .int b, .int s] (tcB tl hi T V S) (fun r w' => r = some (.int (ripF T V nb nn b s)) ∧ ∃ S', w' = tcB tl hi T V S') := by
  have hnb := hT.2.2.2.2.1
  refine Tr.intro (by decide) rfl ?_
  refine J_aload_n (pc := 0) D9_ripe_0 rfl ?_
  refine J_iload_n (pc := 1) D9_ripe_1 rfl ?_
  refine J_callVAR (pc := 2) (ac := [.int _]) D9_ripe_2 m9_isBottle_v t754 (c9_isBottle (d := d + 4) (V := V) hT) (by omega) rfl rfl rfl rfl rfl (fun _ => rfl) rfl rfl rfl ?_
  refine J_if_eq (pc := 5) (tgt := 15) D9_ripe_5 (by decide) (fun h5 => ?_) (fun h5 => ?_)
  · have h5' := eq_true h5
    replace h5 := i01_z h5
    refine J_iconst (pc := 15) (v := (-1)) D9_ripe_15 (by decide) ?_
    refine J_iret (pc := 16) D9_ripe_16 rfl ?_
    exact ⟨by rw [ripF, if_neg (fun q => h5 q.1)], S, rfl⟩
  · replace h5 := i01_nz h5
    refine J_iload_n (pc := 8) D9_ripe_8 rfl ?_
    refine J_callSR (pc := 9) (ι := []) (ac := [.int _]) D9_ripe_9 m9_isForce_s t985 (c9_isForce (d := d)) (by omega) ⟨rfl, rfl⟩ rfl rfl (fun _ => rfl) rfl rfl rfl ?_
    refine J_if_ne (pc := 12) (tgt := 17) D9_ripe_12 (by decide) (fun h12 => ?_) (fun h12 => ?_)
    · replace h12 := i01_nz h12
      refine J_aload_n (pc := 17) D9_ripe_17 rfl ?_
      refine J_iconst (pc := 18) (v := (nI 1)) D9_ripe_18 (by decide) ?_
      refine J_callVT (pc := 19) (ac := [.int _]) D9_ripe_19 m9_startTrial_v t883 (c9_startTrial (d := d + 3)) (by omega) rfl rfl rfl rfl rfl rfl rfl (fun r w' hq hl => ?_)
      obtain ⟨rfl, rfl⟩ := hq
      obtain ⟨q0, eq0⟩ : ∃ q, q = S.2.2.1 := ⟨_, rfl⟩
      obtain ⟨k0, ek0⟩ : ∃ q, q = S.2.2.2.1 := ⟨_, rfl⟩
      refine J_w (w2 := tcB tl hi T V (V, y1, q0, k0, 1, 29)) (by subst eq0 ek0; rfl) ?_
      refine J_iconst (pc := 22) (v := (nI 0)) D9_ripe_22 (by decide) ?_
      refine J_istore_n (pc := 23) D9_ripe_23 rfl ?_
      rw [ripF, if_pos ⟨h5, h12⟩]
      obtain ⟨b9, hb9, rfl⟩ := ixB_t h5 (by omega)
      rw [nI_clamp (by omega)]
      exact L9_ripe hT (by omega) 100 0 V q0 k0 hV (by omega)
    · have h12' := eq_true h12
      replace h12 := i01_z h12
      refine J_iconst (pc := 15) (v := (-1)) D9_ripe_15 (by decide) ?_
      refine J_iret (pc := 16) D9_ripe_16 rfl ?_
      exact ⟨by rw [ripF, if_neg (fun q => h12 q.2)], S, rfl⟩
