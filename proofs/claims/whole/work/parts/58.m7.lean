/-! THE MODEL: a year, years, copies (own program mod_m7.py) -/
theorem L10_p142 {d : Nat} {T : TV} {np nb nn c : Nat} {σ : Prop} {s0 : Nat → Int32} {A0 : Nat → Nat → Int32} {M0 : Nat → MR} (hR0 : RT A0 T np nb nn) (hT : WT T np nb nn) (hc : c < 23) {z : Int32} {y : Int32 × Int32 × Int32} : ∀ (g b : Nat) (V : CV) (s : Nat → Int32) (A : Nat → Nat → Int32) (L : LL) (M : Nat → MR), b + g = nn → IV σ np nb nn c s0 A0 M0 s A M V → J m10_passes (d + 5) 0 0 40 142 [(0, .ref 0), (1, .int (nI c)), (2, .int z), (3, .int (nI b))] [] (modW s A L M) 0 0 (mQ c s0 A0 M0 (fun m => CR σ np nb nn m (incY (p4L T nb g b V)))) := by
  have hnb := hT.2.2.2.2.1
  have hnp := hT.2.2.2.1
  have hnn := hT.2.2.2.2.2.1
  intro g
  induction g with
  | zero =>
    intro b V s A L M hb hI
    have hR := hI.1.rt hR0
    refine J_iload_n (pc := 142) D10_passes_142 rfl ?_
    refine J_aload_n (pc := 143) D10_passes_143 rfl ?_
    refine J_getf (pc := 144) D10_passes_144 fl10_13 rfl rfl ?_
    refine J_iconst (pc := 147) (v := (nI 2)) D10_passes_147 (by decide) ?_
    refine J_mald (pc := 148) D10_passes_148 ma_3 rfl (by omega) rfl ?_
    refine J_st [.int (nI nn), .int (nI b)] (by rw [← hR.2.2.1]) ?_
    refine J_icmp_ge (pc := 149) (tgt := 179) D10_passes_149 (by decide) (fun h149 => ?_) (fun h149 => absurd (nI_le (by omega) (by omega)) h149)
    refine J_aload_n (pc := 179) D10_passes_179 rfl ?_
    refine J_getf (pc := 180) D10_passes_180 fl10_75 rfl rfl ?_
    refine J_iload_n (pc := 183) D10_passes_183 rfl ?_
    refine J_dup2 (pc := 184) D10_passes_184 rfl rfl ?_
    refine J_msld (pc := 185) D10_passes_185 mq_year rfl (by omega) ?_
    refine J_iconst (pc := 186) (v := (nI 1)) D10_passes_186 (by decide) ?_
    refine J_iadd (pc := 187) D10_passes_187 ?_
    refine J_msst (pc := 188) D10_passes_188 mq_year rfl (by omega) ?_
    refine J_vret (pc := 189) D10_passes_189 rfl ?_
    exact (hI.put hI.2.2.yr).q
  | succ g ih =>
    intro b V s A L M hb hI
    have hR := hI.1.rt hR0
    have n13 := (hR.2.2.2.2.2.2.2.2.1 b (by omega)).2.1
    have eyr := hI.2.2.1
    refine J_iload_n (pc := 142) D10_passes_142 rfl ?_
    refine J_aload_n (pc := 143) D10_passes_143 rfl ?_
    refine J_getf (pc := 144) D10_passes_144 fl10_13 rfl rfl ?_
    refine J_iconst (pc := 147) (v := (nI 2)) D10_passes_147 (by decide) ?_
    refine J_mald (pc := 148) D10_passes_148 ma_3 rfl (by omega) rfl ?_
    refine J_st [.int (nI nn), .int (nI b)] (by rw [← hR.2.2.1]) ?_
    refine J_icmp_ge (pc := 149) (tgt := 179) D10_passes_149 (by decide) (fun h149 => absurd h149 (nI_ge (by omega) (by omega))) (fun h149 => ?_)
    refine J_aload_n (pc := 152) D10_passes_152 rfl ?_
    refine J_getf (pc := 153) D10_passes_153 fl10_43 rfl rfl ?_
    refine J_iload_n (pc := 156) D10_passes_156 rfl ?_
    refine J_mald (pc := 157) D10_passes_157 ma_13 rfl (by omega) rfl ?_
    refine J_aload_n (pc := 158) D10_passes_158 rfl ?_
    refine J_getf (pc := 159) D10_passes_159 fl10_75 rfl rfl ?_
    refine J_iload_n (pc := 162) D10_passes_162 rfl ?_
    refine J_msld (pc := 163) D10_passes_163 mq_year rfl (by omega) ?_
    refine J_icmp_ne (pc := 164) (tgt := 173) D10_passes_164 (by decide) (fun h164 => ?_) (fun h164 => ?_)
    · refine J_iinc (pc := 173) D10_passes_173 rfl (nI_inc _) rfl ?_
      refine J_goto (pc := 176) (tgt := 142) D10_passes_176 (by decide) ?_
      have e9 : p4S T nb V b = V := if_neg (fun q => h164 (n13.trans (q.trans eyr.symm)))
      refine J_lk [(0, .ref 0), (1, .int (nI c)), (2, .int z), (3, .int (nI (b + 1)))] rfl ?_
      rw [show p4L T nb (g + 1) b V = p4L T nb g (b + 1) V from congrArg (p4L T nb g (b + 1)) e9]
      exact ih (b + 1) V s A L M (by omega) hI
    · have h164' := eq_true h164
      refine J_aload_n (pc := 167) D10_passes_167 rfl ?_
      refine J_iload_n (pc := 168) D10_passes_168 rfl ?_
      refine J_iload_n (pc := 169) D10_passes_169 rfl ?_
      refine J_callVT (pc := 170) (ac := [.int _, .int _]) D10_passes_170 m10_comes_v t1702 (c10_comes (d := d + 2) hR hT hc hI.2.2 (n := b) (by omega)) (by omega) rfl rfl rfl rfl rfl rfl rfl (fun r w' hq hl => ?_)
      obtain ⟨rfl, s2, A2, L2, M2, rfl, hs2, hM2, hC2⟩ := hq
      refine J_iinc (pc := 173) D10_passes_173 rfl (nI_inc _) rfl ?_
      refine J_goto (pc := 176) (tgt := 142) D10_passes_176 (by decide) ?_
      have e9 : p4S T nb V b = meetF T nb V b := if_pos (n13.symm.trans (h164.trans eyr))
      refine J_lk [(0, .ref 0), (1, .int (nI c)), (2, .int z), (3, .int (nI (b + 1)))] rfl ?_
      rw [show p4L T nb (g + 1) b V = p4L T nb g (b + 1) (meetF T nb V b) from congrArg (p4L T nb g (b + 1)) e9]
      exact ih (b + 1) _ _ _ _ _ (by omega) (hI.go hs2 hM2 hC2)
theorem L10_p95 {d : Nat} {T : TV} {np nb nn c : Nat} {σ : Prop} {s0 : Nat → Int32} {A0 : Nat → Nat → Int32} {M0 : Nat → MR} (hR0 : RT A0 T np nb nn) (hT : WT T np nb nn) (hc : c < 23) {z : Int32} {y : Int32 × Int32 × Int32} (hY : RY (s0 48) z y) : ∀ (g b : Nat) (V : CV) (s : Nat → Int32) (A : Nat → Nat → Int32) (L : LL) (M : Nat → MR), b + g = nb → IV σ np nb nn c s0 A0 M0 s A M V → J m10_passes (d + 5) 0 0 40 95 [(0, .ref 0), (1, .int (nI c)), (2, .int z), (3, .int (nI b))] [] (modW s A L M) 0 0 (mQ c s0 A0 M0 (fun m => CR σ np nb nn m (incY (p4L T nb nn 0 (p3L T y nb g b V))))) := by
  have hnb := hT.2.2.2.2.1
  have hnp := hT.2.2.2.1
  have hnn := hT.2.2.2.2.2.1
  intro g
  induction g with
  | zero =>
    intro b V s A L M hb hI
    have hR := hI.1.rt hR0
    refine J_iload_n (pc := 95) D10_passes_95 rfl ?_
    refine J_aload_n (pc := 96) D10_passes_96 rfl ?_
    refine J_getf (pc := 97) D10_passes_97 fl10_13 rfl rfl ?_
    refine J_iconst (pc := 100) (v := (nI 1)) D10_passes_100 (by decide) ?_
    refine J_mald (pc := 101) D10_passes_101 ma_3 rfl (by omega) rfl ?_
    refine J_st [.int (nI nb), .int (nI b)] (by rw [← hR.2.1]) ?_
    refine J_icmp_ge (pc := 102) (tgt := 140) D10_passes_102 (by decide) (fun h102 => ?_) (fun h102 => absurd (nI_le (by omega) (by omega)) h102)
    refine J_iconst (pc := 140) (v := (nI 0)) D10_passes_140 (by decide) ?_
    refine J_istore_n (pc := 141) D10_passes_141 rfl ?_
    exact L10_p142 (y := y) hR0 hT hc nn 0 V s A L M (by omega) hI
  | succ g ih =>
    intro b V s A L M hb hI
    have hR := hI.1.rt hR0
    have ely := hI.2.2.ly (b := b) (by omega)
    have e2 := (hI.2.2.2.2.2.1 b (by omega)).2.2.1
    have es : s 48 = s0 48 := hI.1.1 48 (by decide)
    refine J_iload_n (pc := 95) D10_passes_95 rfl ?_
    refine J_aload_n (pc := 96) D10_passes_96 rfl ?_
    refine J_getf (pc := 97) D10_passes_97 fl10_13 rfl rfl ?_
    refine J_iconst (pc := 100) (v := (nI 1)) D10_passes_100 (by decide) ?_
    refine J_mald (pc := 101) D10_passes_101 ma_3 rfl (by omega) rfl ?_
    refine J_st [.int (nI nb), .int (nI b)] (by rw [← hR.2.1]) ?_
    refine J_icmp_ge (pc := 102) (tgt := 140) D10_passes_102 (by decide) (fun h102 => absurd h102 (nI_ge (by omega) (by omega))) (fun h102 => ?_)
    refine J_aload_n (pc := 105) D10_passes_105 rfl ?_
    refine J_iload_n (pc := 106) D10_passes_106 rfl ?_
    refine J_iload_n (pc := 107) D10_passes_107 rfl ?_
    refine J_callVTR (pc := 108) (ac := [.int _, .int _]) D10_passes_108 m10_isLying_v t1583 (c10_isLying (d := d + 4) (c := c) (b := b) hc (by omega)) (by omega) rfl rfl rfl rfl (fun _ => rfl) rfl rfl rfl ?_
    refine J_if_eq (pc := 111) (tgt := 134) D10_passes_111 (by decide) (fun h111 => ?_) (fun h111 => ?_)
    · have h111' := eq_true h111
      replace h111 := i01_z h111
      refine J_iinc (pc := 134) D10_passes_134 rfl (nI_inc _) rfl ?_
      refine J_goto (pc := 137) (tgt := 95) D10_passes_137 (by decide) ?_
      have e9 : p3S T y nb V b = V := if_neg (fun q => h111 (ely.mpr q.1))
      refine J_lk [(0, .ref 0), (1, .int (nI c)), (2, .int z), (3, .int (nI (b + 1)))] rfl ?_
      rw [show p3L T y nb (g + 1) b V = p3L T y nb g (b + 1) V from congrArg (p3L T y nb g (b + 1)) e9]
      exact ih (b + 1) V s A L M (by omega) hI
    · replace h111 := i01_nz h111
      refine J_aload_n (pc := 114) D10_passes_114 rfl ?_
      refine J_getf (pc := 115) D10_passes_115 fl10_90 rfl rfl ?_
      refine J_bipush (pc := 118) (v := (nI 10)) D10_passes_118 (by decide) ?_
      refine J_iload_n (pc := 120) D10_passes_120 rfl ?_
      refine J_imul (pc := 121) D10_passes_121 ?_
      refine J_iload_n (pc := 122) D10_passes_122 rfl ?_
      refine J_iadd (pc := 123) D10_passes_123 ?_
      refine J_mcld (pc := 124) (stp := 10) D10_passes_124 mc_2 (ixm _ _ _) (by omega) (by omega) rfl ?_
      refine J_if_ne (pc := 125) (tgt := 134) D10_passes_125 (by decide) (fun h125 => ?_) (fun h125 => ?_)
      · refine J_iinc (pc := 134) D10_passes_134 rfl (nI_inc _) rfl ?_
        refine J_goto (pc := 137) (tgt := 95) D10_passes_137 (by decide) ?_
        have e9 : p3S T y nb V b = V := if_neg (fun q => h125 (e2.trans q.2))
        refine J_lk [(0, .ref 0), (1, .int (nI c)), (2, .int z), (3, .int (nI (b + 1)))] rfl ?_
        rw [show p3L T y nb (g + 1) b V = p3L T y nb g (b + 1) V from congrArg (p3L T y nb g (b + 1)) e9]
        exact ih (b + 1) V s A L M (by omega) hI
      · have h125' := eq_true h125
        refine J_aload_n (pc := 128) D10_passes_128 rfl ?_
        refine J_iload_n (pc := 129) D10_passes_129 rfl ?_
        refine J_iload_n (pc := 130) D10_passes_130 rfl ?_
        refine J_callVT (pc := 131) (ac := [.int _, .int _]) D10_passes_131 m10_goesOff_v t1694 (c10_goesOff (d := d) hR hT hc hI.2.2 (by rw [es]; exact hY) (b := b) (by omega) (ely.mp h111)) (by omega) rfl rfl rfl rfl rfl rfl rfl (fun r w' hq hl => ?_)
        obtain ⟨rfl, s2, A2, L2, M2, rfl, hs2, hM2, hC2⟩ := hq
        refine J_iinc (pc := 134) D10_passes_134 rfl (nI_inc _) rfl ?_
        refine J_goto (pc := 137) (tgt := 95) D10_passes_137 (by decide) ?_
        have e9 : p3S T y nb V b = goOffF T y nb V b := if_pos ⟨ely.mp h111, e2.symm.trans h125⟩
        refine J_lk [(0, .ref 0), (1, .int (nI c)), (2, .int z), (3, .int (nI (b + 1)))] rfl ?_
        rw [show p3L T y nb (g + 1) b V = p3L T y nb g (b + 1) (goOffF T y nb V b) from congrArg (p3L T y nb g (b + 1)) e9]
        exact ih (b + 1) _ _ _ _ _ (by omega) (hI.go hs2 hM2 hC2)
theorem L10_p16 {d : Nat} {T : TV} {np nb nn c : Nat} {σ : Prop} {s0 : Nat → Int32} {A0 : Nat → Nat → Int32} {M0 : Nat → MR} (hR0 : RT A0 T np nb nn) (hT : WT T np nb nn) (hc : c < 23) {z : Int32} {y : Int32 × Int32 × Int32} (hY : RY (s0 48) z y) (h4 : ¬ s0 48 = nI 4) : ∀ (g b : Nat) (V : CV) (s : Nat → Int32) (A : Nat → Nat → Int32) (L : LL) (M : Nat → MR), b + g = nb → IV σ np nb nn c s0 A0 M0 s A M V → J m10_passes (d + 5) 0 0 40 16 [(0, .ref 0), (1, .int (nI c)), (2, .int z), (3, .int (nI b))] [] (modW s A L M) 0 0 (mQ c s0 A0 M0 (fun m => CR σ np nb nn m (incY (p4L T nb nn 0 (p3L T y nb nb 0 (agL T g b V)))))) := by
  have hnb := hT.2.2.2.2.1
  have hnp := hT.2.2.2.1
  have hnn := hT.2.2.2.2.2.1
  intro g
  induction g with
  | zero =>
    intro b V s A L M hb hI
    have hR := hI.1.rt hR0
    refine J_iload_n (pc := 16) D10_passes_16 rfl ?_
    refine J_aload_n (pc := 17) D10_passes_17 rfl ?_
    refine J_getf (pc := 18) D10_passes_18 fl10_13 rfl rfl ?_
    refine J_iconst (pc := 21) (v := (nI 1)) D10_passes_21 (by decide) ?_
    refine J_mald (pc := 22) D10_passes_22 ma_3 rfl (by omega) rfl ?_
    refine J_st [.int (nI nb), .int (nI b)] (by rw [← hR.2.1]) ?_
    refine J_icmp_ge (pc := 23) (tgt := 93) D10_passes_23 (by decide) (fun h23 => ?_) (fun h23 => absurd (nI_le (by omega) (by omega)) h23)
    refine J_iconst (pc := 93) (v := (nI 0)) D10_passes_93 (by decide) ?_
    refine J_istore_n (pc := 94) D10_passes_94 rfl ?_
    exact L10_p95 hR0 hT hc hY nb 0 V s A L M (by omega) hI
  | succ g ih =>
    intro b V s A L M hb hI
    have hR := hI.1.rt hR0
    have ely := hI.2.2.ly (b := b) (by omega)
    have e1 := (hI.2.2.2.2.2.1 b (by omega)).2.1
    have es : s 48 = s0 48 := hI.1.1 48 (by decide)
    refine J_iload_n (pc := 16) D10_passes_16 rfl ?_
    refine J_aload_n (pc := 17) D10_passes_17 rfl ?_
    refine J_getf (pc := 18) D10_passes_18 fl10_13 rfl rfl ?_
    refine J_iconst (pc := 21) (v := (nI 1)) D10_passes_21 (by decide) ?_
    refine J_mald (pc := 22) D10_passes_22 ma_3 rfl (by omega) rfl ?_
    refine J_st [.int (nI nb), .int (nI b)] (by rw [← hR.2.1]) ?_
    refine J_icmp_ge (pc := 23) (tgt := 93) D10_passes_23 (by decide) (fun h23 => absurd h23 (nI_ge (by omega) (by omega))) (fun h23 => ?_)
    refine J_aload_n (pc := 26) D10_passes_26 rfl ?_
    refine J_getf (pc := 27) D10_passes_27 fl10_356 rfl rfl ?_
    refine J_iconst (pc := 30) (v := (nI 4)) D10_passes_30 (by decide) ?_
    refine J_icmp_eq (pc := 31) (tgt := 93) D10_passes_31 (by decide) (fun h31 => absurd h31 (by rw [es]; exact h4)) (fun h31 => ?_)
    refine J_aload_n (pc := 34) D10_passes_34 rfl ?_
    refine J_iload_n (pc := 35) D10_passes_35 rfl ?_
    refine J_iload_n (pc := 36) D10_passes_36 rfl ?_
    refine J_callVTR (pc := 37) (ac := [.int _, .int _]) D10_passes_37 m10_isLying_v t1583 (c10_isLying (d := d + 4) (c := c) (b := b) hc (by omega)) (by omega) rfl rfl rfl rfl (fun _ => rfl) rfl rfl rfl ?_
    refine J_if_ne (pc := 40) (tgt := 46) D10_passes_40 (by decide) (fun h40 => ?_) (fun h40 => ?_)
    · replace h40 := i01_nz h40
      refine J_aload_n (pc := 46) D10_passes_46 rfl ?_
      refine J_iload_n (pc := 47) D10_passes_47 rfl ?_
      refine J_iload_n (pc := 48) D10_passes_48 rfl ?_
      refine J_callVT (pc := 49) (ac := [.int _, .int _]) D10_passes_49 m10_calls_v t1619 (c10_calls (d := d + 2) hR hT hc hI.2.2 (b := b) (by omega)) (by omega) rfl rfl rfl rfl rfl rfl rfl (fun r w' hq hl => ?_)
      obtain ⟨rfl, N, rfl, hN⟩ := hq
      refine J_bipush (pc := 52) (v := (nI 10)) D10_passes_52 (by decide) ?_
      refine J_iload_n (pc := 54) D10_passes_54 rfl ?_
      refine J_imul (pc := 55) D10_passes_55 ?_
      refine J_iload_n (pc := 56) D10_passes_56 rfl ?_
      refine J_iadd (pc := 57) D10_passes_57 ?_
      refine J_istore (pc := 58) D10_passes_58 rfl ?_
      refine J_lk [(0, .ref 0), (1, .int (nI c)), (2, .int z), (3, .int (nI b)), (4, .int (nI (10 * c + b)))] (by rw [← ixm]; rfl) ?_
      refine J_aload_n (pc := 60) D10_passes_60 rfl ?_
      refine J_getf (pc := 61) D10_passes_61 fl10_87 rfl rfl ?_
      refine J_iload (pc := 64) D10_passes_64 rfl ?_
      refine J_sipush (pc := 66) (v := (nI 199)) D10_passes_66 (by decide) ?_
      refine J_aload_n (pc := 69) D10_passes_69 rfl ?_
      refine J_getf (pc := 70) D10_passes_70 fl10_87 rfl rfl ?_
      refine J_iload (pc := 73) D10_passes_73 rfl ?_
      refine J_mcld (pc := 75) (stp := 10) D10_passes_75 mc_1 rfl (by omega) (by omega) rfl ?_
      refine J_aload_n (pc := 76) D10_passes_76 rfl ?_
      refine J_iconst (pc := 77) (v := (nI 0)) D10_passes_77 (by decide) ?_
      refine J_iconst (pc := 78) (v := (nI 1)) D10_passes_78 (by decide) ?_
      refine J_callVT (pc := 79) (ac := [.int _, .int _]) D10_passes_79 m10_within_v t1685 (c10_within (d := d + 1) (L := (N, L.2)) hR hT (lw := 0) (by decide) hN) (by omega) rfl rfl rfl rfl rfl rfl rfl (fun r w' hq hl => ?_)
      obtain ⟨rfl, x', k', rfl⟩ := hq
      refine J_iadd (pc := 82) D10_passes_82 ?_
      rw [e1]
      refine J_min (pc := 83) D10_passes_83 t1693 (by omega) rfl rfl rfl ?_
      refine J_mcst (pc := 86) (stp := 10) D10_passes_86 mc_1 rfl (by omega) (by omega) rfl ?_
      refine J_iinc (pc := 87) D10_passes_87 rfl (nI_inc _) rfl ?_
      refine J_goto (pc := 90) (tgt := 16) D10_passes_90 (by decide) ?_
      have e9 := agS_p (T := T) (ely.mp h40)
      refine J_lk [(0, .ref 0), (1, .int (nI c)), (2, .int z), (3, .int (nI (b + 1)))] rfl ?_
      rw [show agL T (g + 1) b V = agL T g (b + 1) (agS T V b) from rfl]
      refine ih (b + 1) _ _ _ _ _ (by omega) ?_
      rw [e9, imin_c]
      exact (hI.sc SC.s35).put (hI.2.2.val1 b _ (by rw [imin_c]; exact imin_b (hI.2.2.2.2.2.2.2.2.2.2.2.2.2.2.2 b (by omega)) (measF_b T V 0 b)))
    · have h40' := eq_true h40
      replace h40 := i01_z h40
      refine J_goto (pc := 43) (tgt := 87) D10_passes_43 (by decide) ?_
      refine J_iinc (pc := 87) D10_passes_87 rfl (nI_inc _) rfl ?_
      refine J_goto (pc := 90) (tgt := 16) D10_passes_90 (by decide) ?_
      have e9 : agS T V b = V := if_neg (fun q => h40 (ely.mpr q))
      refine J_lk [(0, .ref 0), (1, .int (nI c)), (2, .int z), (3, .int (nI (b + 1)))] rfl ?_
      rw [show agL T (g + 1) b V = agL T g (b + 1) V from congrArg (agL T g (b + 1)) e9]
      exact ih (b + 1) V s A L M (by omega) hI
theorem L10_p14 {d : Nat} {T : TV} {np nb nn c : Nat} {σ : Prop} {s0 : Nat → Int32} {A0 : Nat → Nat → Int32} {M0 : Nat → MR} (hR0 : RT A0 T np nb nn) (hT : WT T np nb nn) (hc : c < 23) {z : Int32} {y : Int32 × Int32 × Int32} {V : CV} (hY : RY (s0 48) z y) {s : Nat → Int32} {A : Nat → Nat → Int32} {L : LL} {M : Nat → MR} (hI : IV σ np nb nn c s0 A0 M0 s A M V) : J m10_passes (d + 5) 0 0 40 14 [(0, .ref 0), (1, .int (nI c)), (2, .int z)] [] (modW s A L M) 0 0 (mQ c s0 A0 M0 (fun m => CR σ np nb nn m (p2F T y nb nn V))) := by
  have hR := hI.1.rt hR0
  have hnb := hT.2.2.2.2.1
  have es : s 48 = s0 48 := hI.1.1 48 (by decide)
  by_cases h4 : s0 48 = nI 4
  · rw [show p2F T y nb nn V = incY (p4L T nb nn 0 (p3L T y nb nb 0 V)) from by unfold p2F; rw [if_pos (hY.o.2.mpr h4)]]
    by_cases h0 : 0 < nb
    · refine J_iconst (pc := 14) (v := (nI 0)) D10_passes_14 (by decide) ?_
      refine J_istore_n (pc := 15) D10_passes_15 rfl ?_
      refine J_iload_n (pc := 16) D10_passes_16 rfl ?_
      refine J_aload_n (pc := 17) D10_passes_17 rfl ?_
      refine J_getf (pc := 18) D10_passes_18 fl10_13 rfl rfl ?_
      refine J_iconst (pc := 21) (v := (nI 1)) D10_passes_21 (by decide) ?_
      refine J_mald (pc := 22) D10_passes_22 ma_3 rfl (by omega) rfl ?_
      refine J_st [.int (nI nb), .int (nI 0)] (by rw [← hR.2.1]) ?_
      refine J_icmp_ge (pc := 23) (tgt := 93) D10_passes_23 (by decide) (fun h23 => absurd h23 (nI_ge (by omega) (by omega))) (fun h23 => ?_)
      refine J_aload_n (pc := 26) D10_passes_26 rfl ?_
      refine J_getf (pc := 27) D10_passes_27 fl10_356 rfl rfl ?_
      refine J_iconst (pc := 30) (v := (nI 4)) D10_passes_30 (by decide) ?_
      refine J_icmp_eq (pc := 31) (tgt := 93) D10_passes_31 (by decide) (fun h31 => ?_) (fun h31 => absurd (es.trans h4) h31)
      refine J_iconst (pc := 93) (v := (nI 0)) D10_passes_93 (by decide) ?_
      refine J_istore_n (pc := 94) D10_passes_94 rfl ?_
      exact L10_p95 hR0 hT hc hY nb 0 V s A L M (by omega) hI
    · refine J_iconst (pc := 14) (v := (nI 0)) D10_passes_14 (by decide) ?_
      refine J_istore_n (pc := 15) D10_passes_15 rfl ?_
      refine J_iload_n (pc := 16) D10_passes_16 rfl ?_
      refine J_aload_n (pc := 17) D10_passes_17 rfl ?_
      refine J_getf (pc := 18) D10_passes_18 fl10_13 rfl rfl ?_
      refine J_iconst (pc := 21) (v := (nI 1)) D10_passes_21 (by decide) ?_
      refine J_mald (pc := 22) D10_passes_22 ma_3 rfl (by omega) rfl ?_
      refine J_st [.int (nI nb), .int (nI 0)] (by rw [← hR.2.1]) ?_
      refine J_icmp_ge (pc := 23) (tgt := 93) D10_passes_23 (by decide) (fun h23 => ?_) (fun h23 => absurd (nI_le (by omega) (by omega)) h23)
      refine J_iconst (pc := 93) (v := (nI 0)) D10_passes_93 (by decide) ?_
      refine J_istore_n (pc := 94) D10_passes_94 rfl ?_
      exact L10_p95 hR0 hT hc hY nb 0 V s A L M (by omega) hI
  · rw [show p2F T y nb nn V = incY (p4L T nb nn 0 (p3L T y nb nb 0 (agL T nb 0 V))) from by unfold p2F; rw [if_neg (fun q => h4 (hY.o.2.mp q))]]
    refine J_iconst (pc := 14) (v := (nI 0)) D10_passes_14 (by decide) ?_
    refine J_istore_n (pc := 15) D10_passes_15 rfl ?_
    exact L10_p16 hR0 hT hc hY h4 nb 0 V s A L M (by omega) hI
theorem c10_passes {d : Nat} {s : Nat → Int32} {A : Nat → Nat → Int32} {L : LL} {M : Nat → MR} {T : TV} {np nb nn : Nat} (hR : RT A T np nb nn) (hT : WT T np nb nn) {σ : Prop} {V : CV} {c : Nat} {z : Int32} {y : Int32 × Int32 × Int32} (hc : c < 23) (hC : CR σ np nb nn (M c) V) (hY : RY (s 48) z y) : Tr (d + 5) 0 0 m10_passes [.ref 0, .int (nI c), .int z] (modW s A L M) (mQ c s A M (fun m => CR σ np nb nn m (passF T y nb nn V))) := by
  refine Tr.intro (by decide) rfl ?_
  refine J_aload_n (pc := 0) D10_passes_0 rfl ?_
  refine J_iload_n (pc := 1) D10_passes_1 rfl ?_
  refine J_iload_n (pc := 2) D10_passes_2 rfl ?_
  refine J_callVT (pc := 3) (ac := [.int _, .int _]) D10_passes_3 m10_doesThunder_v t1675 (c10_doesThunder (d := d) hR hT hc hC hY) (by omega) rfl rfl rfl rfl rfl rfl rfl (fun r w' hq hl => ?_)
  obtain ⟨M2, rfl, hM2, hC2, rfl⟩ := hq
  refine J_if_eq (pc := 6) (tgt := 14) D10_passes_6 (by decide) (fun h6 => ?_) (fun h6 => ?_)
  · have h6' := eq_true h6
    rw [show passF T y nb nn V = p2F T y nb nn (thF y T V).2 from by unfold passF; rw [if_pos h6]]
    exact L10_p14 hR hT hc hY ⟨SC.rf, hM2, hC2⟩
  · refine J_aload_n (pc := 9) D10_passes_9 rfl ?_
    refine J_iload_n (pc := 10) D10_passes_10 rfl ?_
    refine J_callVT (pc := 11) (ac := [.int _]) D10_passes_11 m10_creeps_v t1681 (c10_creeps (d := d) hR hT hc hC2) (by omega) rfl rfl rfl rfl rfl rfl rfl (fun r w' hq hl => ?_)
    obtain ⟨rfl, s3, A3, L3, M3, rfl, hs3, hM3, hC3⟩ := hq
    rw [show passF T y nb nn V = p2F T y nb nn (creepF T nb (thF y T V).2) from by unfold passF; rw [if_neg h6]]
    exact L10_p14 hR hT hc hY ⟨hs3, fun i hi => (hM3 i hi).trans (hM2 i hi), hC3⟩
theorem L10_goesOn {d : Nat} {T : TV} {np nb nn : Nat} {σ : Prop} {s0 : Nat → Int32} {A0 : Nat → Nat → Int32} {M0 : Nat → MR} (hR0 : RT A0 T np nb nn) (hT : WT T np nb nn) {n : Nat} {y : Int32 × Int32 × Int32} (hY : RY (s0 48) (nI 0) y) (hn : n < 1000) : ∀ (g i : Nat) (V : CV) (s : Nat → Int32) (A : Nat → Nat → Int32) (L : LL) (M : Nat → MR), i + g = n → IV σ np nb nn 1 s0 A0 M0 s A M V → J m10_goesOn (d + 6) 0 0 40 2 [(0, .ref 0), (1, .int (nI n)), (2, .int (nI i))] [] (modW s A L M) 0 0 (mQ 1 s0 A0 M0 (fun m => CR σ np nb nn m (passN T y nb nn g V))) := by
  intro g
  induction g with
  | zero =>
    intro i V s A L M hi hI
    refine J_iload_n (pc := 2) D10_goesOn_2 rfl ?_
    refine J_iload_n (pc := 3) D10_goesOn_3 rfl ?_
    refine J_icmp_ge (pc := 4) (tgt := 19) D10_goesOn_4 (by decide) (fun h4 => ?_) (fun h4 => absurd (nI_le (by omega) (by omega)) h4)
    refine J_vret (pc := 19) D10_goesOn_19 rfl ?_
    exact hI.q
  | succ g ih =>
    intro i V s A L M hi hI
    have hR := hI.1.rt hR0
    have es : s 48 = s0 48 := hI.1.1 48 (by decide)
    refine J_iload_n (pc := 2) D10_goesOn_2 rfl ?_
    refine J_iload_n (pc := 3) D10_goesOn_3 rfl ?_
    refine J_icmp_ge (pc := 4) (tgt := 19) D10_goesOn_4 (by decide) (fun h4 => absurd h4 (nI_ge (by omega) (by omega))) (fun h4 => ?_)
    refine J_aload_n (pc := 7) D10_goesOn_7 rfl ?_
    refine J_iconst (pc := 8) (v := (nI 1)) D10_goesOn_8 (by decide) ?_
    refine J_iconst (pc := 9) (v := (nI 0)) D10_goesOn_9 (by decide) ?_
    refine J_callVT (pc := 10) (ac := [.int _, .int _]) D10_goesOn_10 m10_passes_v t1671 (c10_passes (d := d) hR hT (c := 1) (by decide) hI.2.2 (by rw [es]; exact hY)) (by omega) rfl rfl rfl rfl rfl rfl rfl (fun r w' hq hl => ?_)
    obtain ⟨rfl, s2, A2, L2, M2, rfl, hs2, hM2, hC2⟩ := hq
    refine J_iinc (pc := 13) D10_goesOn_13 rfl (nI_inc _) rfl ?_
    refine J_goto (pc := 16) (tgt := 2) D10_goesOn_16 (by decide) ?_
    exact ih (i + 1) _ _ _ _ _ (by omega) (hI.go hs2 hM2 hC2)
theorem c10_goesOn {d : Nat} {s : Nat → Int32} {A : Nat → Nat → Int32} {L : LL} {M : Nat → MR} {T : TV} {np nb nn : Nat} (hR : RT A T np nb nn) (hT : WT T np nb nn) {σ : Prop} {V : CV} {n : Nat} {y : Int32 × Int32 × Int32} (hC : CR σ np nb nn (M 1) V) (hY : RY (s 48) (nI 0) y) (hn : n < 1000) : Tr (d + 6) 0 0 m10_goesOn [.ref 0, .int (nI n)] (modW s A L M) (mQ 1 s A M (fun m => CR σ np nb nn m (passN T y nb nn n V))) := by
  refine Tr.intro (by decide) rfl ?_
  refine J_iconst (pc := 0) (v := (nI 0)) D10_goesOn_0 (by decide) ?_
  refine J_istore_n (pc := 1) D10_goesOn_1 rfl ?_
  exact L10_goesOn hR hT hY hn n 0 V s A L M (by omega) ⟨SC.rf, fun _ _ => rfl, hC⟩
