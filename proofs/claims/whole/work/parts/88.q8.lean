/-! THE MODEL: what a sum begins with; all levels (own program mod_q8.py) -/
theorem EXP.pa {s s1 s2 s3 : Nat → Int32} {A A3 : Nat → Nat → Int32} {R R1 R3 R4 : RS} {op : Nat} (h : EXP s1 A R1 s2 A3 R3) (hst : ST op s A R) (e1 : R1.2 = R.2) (e4 : R4.2 = R3.2) (e31 : s3 31 = s 31) (e32 : s3 32 = s2 32) : EXP s A R s3 A3 R4 := by
  obtain ⟨q1, q2, q3, q4, q5, q6, q7, q8, q9⟩ := h
  have el1 : lenR R1 = lenR R := by show R1.2.2.2.2.1.1 = _; rw [e1]
  have ek1 : knR R1 = knR R := by show R1.2.2.2.2.1.2 = _; rw [e1]
  have ea1 : lawA R1 = lawA R := by show R1.2.2.2.2.2.2 = _; rw [e1]
  have el4 : lenR R4 = lenR R3 := by show R4.2.2.2.2.1.1 = _; rw [e4]
  have ek4 : knR R4 = knR R3 := by show R4.2.2.2.2.1.2 = _; rw [e4]
  have ea4 : lawA R4 = lawA R3 := by show R4.2.2.2.2.2.2 = _; rw [e4]
  obtain ⟨r1, r2, r3, r4, r5, r6⟩ := q1
  rw [el1, ea1] at r6
  rw [ea1] at r5
  rw [el1] at q5 q8
  rw [el1, ek1] at q6
  refine ⟨⟨?_, ?_, ?_, ?_, fun k a b => by rw [ea4]; exact r5 k a b, fun i hi => by rw [ea4]; exact r6 i hi⟩, e31, by rw [e32, q3, ek4], by rw [q4, el4], by rw [el4]; exact q5, by rw [el4, ek4]; exact q6, by rw [ek4]; exact q7, q8, fun p x hx => (q9 p x (hx.c el1 ea1)).c el4 ea4⟩
  · rw [e4, r1, e1]
  · rw [e4, r2, e1]
  · rw [e4, r3, e1]
  · rw [e4, r4, e1]
theorem L10_prP {K : TK} {L cnt : Nat} (hK : KT K L cnt) {L0 : LL} {M : Nat → MR} {G : RS → RS} {op B : Nat} (hop : op ≤ 8) (H : op < 8 → LVC K L cnt L0 M m10_expression G (op + 1) B) (hG : ∀ R : RS, ¬ R.1.2.1 = 0 → G R = R) {D : Nat} {s : Nat → Int32} {A : Nat → Nat → Int32} {R : RS} (hTP : TP K.2.2.1 (A 1) L) (h : CRl K L cnt s R.1) (h0 : R.1.2.1 = 0) (hst : ST op s A R) (hD : B + 65 ≤ D + knR R) (hD9 : 9 ≤ D) (hk32 : kdR K R = nI 32) : J m10_primary D 0 0 40 0 [(0, .ref 0)] [] (modW s A L0 M) 0 0 (exQ K L cnt L0 M s A R (paR K G op R)) := by
  have kvr := (h.2.2 h0).2.2.2.1
  have h27 : s 27 = 0 := by rw [h.1]; exact h0
  have e9 : paR K G op R = paC K (nI 33) (G (paC K (nI 32) (if op < 8 then R else (refC K (nI 2) R.1, R.2)))) := by
    unfold paR
    rw [if_neg (fun q => by rw [show K.2.2.2.1 R.1.1 = nI 32 from hk32] at q; exact absurd q (by decide)), if_pos hk32]
  by_cases ho : op < 8
  · rw [if_pos ho] at e9
    have eC : paC K (nI 32) R = (stepC K R.1, R.2) := by unfold paC; rw [takC_y h0 hk32]
    rw [eC] at e9
    have H := H ho
    refine J_aload_n (pc := 0) D10_primary_0 rfl ?_
    refine J_getf (pc := 1) D10_primary_1 fl10_193 rfl rfl ?_
    rw [h27]
    refine J_if_eq (pc := 4) (tgt := 8) D10_primary_4 (by decide) (fun h4 => ?_) (fun h4 => absurd rfl h4)
    refine J_aload_n (pc := 8) D10_primary_8 rfl ?_
    refine J_bipush (pc := 9) (v := (nI 40)) D10_primary_9 (by decide) ?_
    refine J_callVTR (pc := 11) (ac := [.int _]) D10_primary_11 m10_isSign_v t1548 (c10_isSign (d := D - 2)) (by omega) rfl rfl rfl rfl (fun _ => rfl) rfl rfl rfl ?_
    refine J_if_eq (pc := 14) (tgt := 101) D10_primary_14 (by decide) (fun h14 => absurd h14 (by rw [i01_t ⟨h27, (kv_s40 kvr).mpr hk32⟩]; decide)) (fun h14 => ?_)
    refine J_aload_n (pc := 17) D10_primary_17 rfl ?_
    refine J_getf (pc := 18) D10_primary_18 fl10_282 rfl rfl ?_
    refine J_bipush (pc := 21) (v := (nI 8)) D10_primary_21 (by decide) ?_
    rw [hst.1]
    refine J_icmp_ne (pc := 23) (tgt := 31) D10_primary_23 (by decide) (fun h23 => ?_) (fun h23 => absurd h23 (fun q => absurd (nI_eqI (by omega) (by decide) q) (by omega)))
    refine J_aload_n (pc := 31) D10_primary_31 rfl ?_
    refine J_getf (pc := 32) D10_primary_32 fl10_193 rfl rfl ?_
    rw [h27]
    refine J_if_eq (pc := 35) (tgt := 39) D10_primary_35 (by decide) (fun h35 => ?_) (fun h35 => absurd rfl h35)
    refine J_aload_n (pc := 39) D10_primary_39 rfl ?_
    refine J_dup (pc := 40) D10_primary_40 rfl ?_
    refine J_getf (pc := 41) D10_primary_41 fl10_282 rfl rfl ?_
    refine J_iconst (pc := 44) (v := (nI 1)) D10_primary_44 (by decide) ?_
    refine J_iadd (pc := 45) D10_primary_45 ?_
    rw [hst.1, nI_add]
    refine J_mput (pc := 46) D10_primary_46 fp10_282 ms_31 ?_
    refine J_aload_n (pc := 49) D10_primary_49 rfl ?_
    refine J_callVT (pc := 50) (ac := []) D10_primary_50 m10_token_v t1435 (tokC_l (d := D - 7) (C := R.1) hK hTP (s := updI s 31 (nI (op + 1))) (h.c (fun k _ _ => updI_n (by omega))) h0) (by omega) rfl rfl rfl rfl rfl rfl rfl (fun r w' hq hl => ?_)
    obtain ⟨rfl, s2, rfl, a2, b2⟩ := hq
    refine J_aload_n (pc := 53) D10_primary_53 rfl ?_
    refine J_callVT (pc := 54) (ac := []) D10_primary_54 m10_expression_v t1512 (H (D - 1) s2 A (stepC K R.1, R.2) hTP b2 (by show (stepC K R.1).2.1 = 0; rw [step_2]; exact h0) ⟨(a2 31 (by decide)).trans updI_s, (a2 32 (by decide)).trans ((updI_n (by decide)).trans hst.2.1), hst.2.2⟩ (by show B + 64 ≤ D - 1 + knR R; omega)) (by omega) rfl rfl rfl rfl rfl rfl rfl (fun r w' hq hl => ?_)
    obtain ⟨rfl, s3, A3, rfl, f3, b3, e3⟩ := hq
    have fE : FE s A s3 A3 := (show FE s A (updI s 31 (nI (op + 1))) A from ⟨fun k hk => updI_n (by omega), fun _ _ _ _ => rfl, fun _ _ => rfl, fun _ _ => ⟨rfl, rfl⟩⟩).tr ((FE.fs a2).tr f3)
    refine J_aload_n (pc := 57) D10_primary_57 rfl ?_
    refine J_getf (pc := 58) D10_primary_58 fl10_193 rfl rfl ?_
    rw [b3.1]
    refine J_if_ne (pc := 61) (tgt := 78) D10_primary_61 (by decide) (fun h61 => ?_) (fun h61 => ?_)
    · refine J_aload_n (pc := 78) D10_primary_78 rfl ?_
      refine J_getf (pc := 79) D10_primary_79 fl10_193 rfl rfl ?_
      rw [b3.1]
      refine J_if_eq (pc := 82) (tgt := 86) D10_primary_82 (by decide) (fun h82 => absurd h82 h61) (fun h82 => ?_)
      refine J_vret (pc := 85) D10_primary_85 rfl ?_
      rw [e9, show paC K (nI 33) (G (stepC K R.1, R.2)) = G (stepC K R.1, R.2) from by unfold paC; rw [takC_f h61]]
      exact ⟨rfl, s3, A3, rfl, fE, b3, fun q => absurd q h61⟩
    · have h61' := eq_true h61
      have kvr3 := (b3.2.2 h61).2.2.2.1
      have h27c : s3 27 = 0 := by rw [b3.1]; exact h61
      refine J_aload_n (pc := 64) D10_primary_64 rfl ?_
      refine J_bipush (pc := 65) (v := (nI 41)) D10_primary_65 (by decide) ?_
      refine J_callVTR (pc := 67) (ac := [.int _]) D10_primary_67 m10_isSign_v t1548 (c10_isSign (d := D - 2)) (by omega) rfl rfl rfl rfl (fun _ => rfl) rfl rfl rfl ?_
      refine J_if_ne (pc := 70) (tgt := 78) D10_primary_70 (by decide) (fun h70 => ?_) (fun h70 => ?_)
      · replace h70 := (kv_s41 kvr3).mp (i01_nz h70).2
        refine J_aload_n (pc := 78) D10_primary_78 rfl ?_
        refine J_getf (pc := 79) D10_primary_79 fl10_193 rfl rfl ?_
        rw [b3.1]
        refine J_if_eq (pc := 82) (tgt := 86) D10_primary_82 (by decide) (fun h82 => ?_) (fun h82 => absurd h61 h82)
        refine J_aload_n (pc := 86) D10_primary_86 rfl ?_
        refine J_dup (pc := 87) D10_primary_87 rfl ?_
        refine J_getf (pc := 88) D10_primary_88 fl10_282 rfl rfl ?_
        refine J_iconst (pc := 91) (v := (nI 1)) D10_primary_91 (by decide) ?_
        refine J_isub (pc := 92) D10_primary_92 ?_
        rw [(e3 h61).2.1, (a2 31 (by decide)).trans updI_s, nI_sub1]
        refine J_mput (pc := 93) D10_primary_93 fp10_282 ms_31 ?_
        refine J_aload_n (pc := 96) D10_primary_96 rfl ?_
        refine J_callVT (pc := 97) (ac := []) D10_primary_97 m10_token_v t1435 (tokC_l (d := D - 7) (C := (G (stepC K R.1, R.2)).1) hK (f3.tp hTP) (s := updI s3 31 (nI op)) (b3.c (fun k _ _ => updI_n (by omega))) h61) (by omega) rfl rfl rfl rfl rfl rfl rfl (fun r w' hq hl => ?_)
        obtain ⟨rfl, s4, rfl, a4, b4⟩ := hq
        refine J_vret (pc := 100) D10_primary_100 rfl ?_
        rw [e9, show paC K (nI 33) (G (stepC K R.1, R.2)) = (stepC K (G (stepC K R.1, R.2)).1, (G (stepC K R.1, R.2)).2) from by unfold paC; rw [takC_y h61 h70]]
        refine ⟨rfl, s4, A3, rfl, fE.tr ((show FE s3 A3 (updI s3 31 (nI op)) A3 from ⟨fun k hk => updI_n (by omega), fun _ _ _ _ => rfl, fun _ _ => rfl, fun _ _ => ⟨rfl, rfl⟩⟩).tr (FE.fs a4)), b4, fun _ => ?_⟩
        exact EXP.pa (R1 := (stepC K R.1, R.2)) (R3 := G (stepC K R.1, R.2)) (e3 h61) hst rfl rfl ((a4 31 (by decide)).trans (updI_s.trans hst.1.symm)) ((a4 32 (by decide)).trans (updI_n (by decide)))
      · have h70' := eq_true h70
        replace h70 : ¬ kdR K (G (stepC K R.1, R.2)) = nI 33 := fun q => i01_z h70 ⟨h27c, (kv_s41 kvr3).mpr q⟩
        refine J_aload_n (pc := 73) D10_primary_73 rfl ?_
        refine J_iconst (pc := 74) (v := (nI 1)) D10_primary_74 (by decide) ?_
        refine J_callVT (pc := 75) (ac := [.int _]) D10_primary_75 m10_wrong_v t1469 (c10_wrong (d := D - 2) (C := (G (stepC K R.1, R.2)).1) b3 (by decide)) (by omega) rfl rfl rfl rfl rfl rfl rfl (fun r w' hq hl => ?_)
        obtain ⟨rfl, s4, rfl, a4, b4⟩ := hq
        refine J_aload_n (pc := 78) D10_primary_78 rfl ?_
        refine J_getf (pc := 79) D10_primary_79 fl10_193 rfl rfl ?_
        rw [b4.1]
        refine J_if_eq (pc := 82) (tgt := 86) D10_primary_82 (by decide) (fun h82 => absurd h82 (ref_nz h61 (by decide))) (fun h82 => ?_)
        refine J_vret (pc := 85) D10_primary_85 rfl ?_
        rw [e9, show paC K (nI 33) (G (stepC K R.1, R.2)) = (refC K (nI 1) (G (stepC K R.1, R.2)).1, (G (stepC K R.1, R.2)).2) from by unfold paC; rw [takC_n h61 h70]]
        exact ⟨rfl, s4, A3, rfl, fE.tr (FE.fs a4), b4, fun q => absurd q (ref_nz h61 (by decide))⟩
  · have e8 : op = 8 := by omega
    have hz : ¬ (refC K (nI 2) R.1).2.1 = 0 := ref_nz h0 (by decide)
    rw [if_neg ho, show paC K (nI 32) (refC K (nI 2) R.1, R.2) = (refC K (nI 2) R.1, R.2) from by unfold paC; rw [takC_f hz], hG _ hz, show paC K (nI 33) (refC K (nI 2) R.1, R.2) = (refC K (nI 2) R.1, R.2) from by unfold paC; rw [takC_f hz]] at e9
    refine J_aload_n (pc := 0) D10_primary_0 rfl ?_
    refine J_getf (pc := 1) D10_primary_1 fl10_193 rfl rfl ?_
    rw [h27]
    refine J_if_eq (pc := 4) (tgt := 8) D10_primary_4 (by decide) (fun h4 => ?_) (fun h4 => absurd rfl h4)
    refine J_aload_n (pc := 8) D10_primary_8 rfl ?_
    refine J_bipush (pc := 9) (v := (nI 40)) D10_primary_9 (by decide) ?_
    refine J_callVTR (pc := 11) (ac := [.int _]) D10_primary_11 m10_isSign_v t1548 (c10_isSign (d := D - 2)) (by omega) rfl rfl rfl rfl (fun _ => rfl) rfl rfl rfl ?_
    refine J_if_eq (pc := 14) (tgt := 101) D10_primary_14 (by decide) (fun h14 => absurd h14 (by rw [i01_t ⟨h27, (kv_s40 kvr).mpr hk32⟩]; decide)) (fun h14 => ?_)
    refine J_aload_n (pc := 17) D10_primary_17 rfl ?_
    refine J_getf (pc := 18) D10_primary_18 fl10_282 rfl rfl ?_
    refine J_bipush (pc := 21) (v := (nI 8)) D10_primary_21 (by decide) ?_
    rw [hst.1]
    refine J_icmp_ne (pc := 23) (tgt := 31) D10_primary_23 (by decide) (fun h23 => absurd (by rw [e8]) h23) (fun h23 => ?_)
    refine J_aload_n (pc := 26) D10_primary_26 rfl ?_
    refine J_iconst (pc := 27) (v := (nI 2)) D10_primary_27 (by decide) ?_
    refine J_callVT (pc := 28) (ac := [.int _]) D10_primary_28 m10_wrong_v t1469 (c10_wrong (d := D - 2) (C := R.1) h (by decide)) (by omega) rfl rfl rfl rfl rfl rfl rfl (fun r w' hq hl => ?_)
    obtain ⟨rfl, s1, rfl, a1, b1⟩ := hq
    refine J_aload_n (pc := 31) D10_primary_31 rfl ?_
    refine J_getf (pc := 32) D10_primary_32 fl10_193 rfl rfl ?_
    rw [b1.1]
    refine J_if_eq (pc := 35) (tgt := 39) D10_primary_35 (by decide) (fun h35 => absurd h35 hz) (fun h35 => ?_)
    refine J_vret (pc := 38) D10_primary_38 rfl ?_
    rw [e9]
    exact ⟨rfl, s1, A, rfl, FE.fs a1, b1, fun q => absurd q hz⟩
theorem primary_of {K : TK} {L cnt : Nat} (hK : KT K L cnt) {L0 : LL} {M : Nat → MR} {f op B : Nat} (hop : op ≤ 8) (hB : 10 ≤ B) (H : op < 8 → LVC K L cnt L0 M m10_expression (RL K f 0 (op + 1)) (op + 1) B) : LVC K L cnt L0 M m10_primary (RL K (f + 1) 6 op) op (B + 1) := by
  intro D s A R hTP h h0 hst hD
  have hkn := hst.2.2.2.2
  have kvr := (h.2.2 h0).2.2.2.1
  have h27 : s 27 = 0 := by rw [h.1]; exact h0
  have hDD : 9 ≤ D := by omega
  rw [RL, if_pos h0, if_neg (by decide), if_pos (by decide)]
  refine Tr.intro (by decide) rfl ?_
  by_cases hk32 : kdR K R = nI 32
  · exact L10_prP hK hop H (fun R h => RL_f h _ _ _) hTP h h0 hst (by omega) hDD hk32
  · by_cases hk29 : kdR K R = nI 29
    · have e9 : paR K (RL K f 0 (op + 1)) op R = paN K (nI 29) (K.2.2.2.2.2 R.1.1) R := by
        unfold paR
        rw [if_pos (Or.inl hk29), if_pos hk29, show K.2.2.2.1 R.1.1 = nI 29 from hk29]
      have nv := kv_nv kvr hk29
      have hso := (kv_num kvr).mpr hk29
      by_cases hv : K.2.2.2.2.2 R.1.1 ≤ nI 9999
      · have hva := nu_eq nv (by decide) hv
        have hnv : ∃ v, v ≤ 9999 ∧ K.2.2.2.2.2 R.1.1 = nI v := by
          obtain ⟨x, y, e1, e2, x1, x2, x3⟩ := nv
          rw [e1, nI_leI (by omega) (by omega)] at hv
          exact ⟨x, hv, e1⟩
        have e9 : paR K (RL K f 0 (op + 1)) op R = putR (nI 29) (K.2.2.2.2.2 R.1.1) (tkR K R) := by
          rw [e9]
          unfold paN
          rw [if_neg (Int32.not_lt.mpr hv)]
        refine J_aload_n (pc := 0) D10_primary_0 rfl ?_
        refine J_getf (pc := 1) D10_primary_1 fl10_193 rfl rfl ?_
        rw [h27]
        refine J_if_eq (pc := 4) (tgt := 8) D10_primary_4 (by decide) (fun h4 => ?_) (fun h4 => absurd rfl h4)
        refine J_aload_n (pc := 8) D10_primary_8 rfl ?_
        refine J_bipush (pc := 9) (v := (nI 40)) D10_primary_9 (by decide) ?_
        refine J_callVTR (pc := 11) (ac := [.int _]) D10_primary_11 m10_isSign_v t1548 (c10_isSign (d := D - 2)) (by omega) rfl rfl rfl rfl (fun _ => rfl) rfl rfl rfl ?_
        refine J_if_eq (pc := 14) (tgt := 101) D10_primary_14 (by decide) (fun h14 => ?_) (fun h14 => absurd (i01_f (fun q => hk32 ((kv_s40 kvr).mp q.2))) h14)
        refine J_aload_n (pc := 101) D10_primary_101 rfl ?_
        refine J_getf (pc := 102) D10_primary_102 fl10_158 rfl rfl ?_
        refine J_iconst (pc := 105) (v := (nI 2)) D10_primary_105 (by decide) ?_
        rw [hso]
        refine J_icmp_ne (pc := 106) (tgt := 113) D10_primary_106 (by decide) (fun h106 => absurd rfl h106) (fun h106 => ?_)
        refine J_iconst (pc := 109) (v := (nI 1)) D10_primary_109 (by decide) ?_
        refine J_goto (pc := 110) (tgt := 114) D10_primary_110 (by decide) ?_
        refine J_istore_n (pc := 114) D10_primary_114 rfl ?_
        refine J_iload_n (pc := 115) D10_primary_115 rfl ?_
        refine J_if_eq (pc := 116) (tgt := 137) D10_primary_116 (by decide) (fun h116 => absurd h116 (by decide)) (fun h116 => ?_)
        refine J_aload_n (pc := 119) D10_primary_119 rfl ?_
        refine J_getf (pc := 120) D10_primary_120 fl10_168 rfl rfl ?_
        refine J_sipush (pc := 123) (v := (nI 9999)) D10_primary_123 (by decide) ?_
        rw [hva]
        refine J_icmp_le (pc := 126) (tgt := 137) D10_primary_126 (by decide) (fun h126 => ?_) (fun h126 => absurd hv h126)
        refine J_iload_n (pc := 137) D10_primary_137 rfl ?_
        refine J_if_ne (pc := 138) (tgt := 162) D10_primary_138 (by decide) (fun h138 => ?_) (fun h138 => absurd h138 (by decide))
        refine J_aload_n (pc := 162) D10_primary_162 rfl ?_
        refine J_callVT (pc := 163) (ac := []) D10_primary_163 m10_knot_v t1528 (c10_knot (d := D - 3) h (kn := knR R) (fun _ => ⟨hst.2.1, hst.2.2.2.2⟩)) (by omega) rfl rfl rfl rfl rfl rfl rfl (fun r w' hq hl => ?_)
        obtain ⟨rfl, s2, rfl, a2, b2, c2⟩ := hq
        have hkl : (knC K (knR R) R.1).2.1 = 0 → knR R < 64 := fun q => Decidable.byContradiction (fun z => by
          rw [show knC K (knR R) R.1 = refC K (nI 2) R.1 from by unfold knC tkC; rw [if_pos h0, if_neg z]] at q
          exact ref_nz h0 (by decide) q)
        refine J_aload_n (pc := 166) D10_primary_166 rfl ?_
        refine J_iload_n (pc := 167) D10_primary_167 rfl ?_
        refine J_if_eq (pc := 168) (tgt := 175) D10_primary_168 (by decide) (fun h168 => absurd h168 (by decide)) (fun h168 => ?_)
        refine J_iconst (pc := 171) (v := (nI 0)) D10_primary_171 (by decide) ?_
        refine J_goto (pc := 172) (tgt := 176) D10_primary_172 (by decide) ?_
        refine J_iload_n (pc := 176) D10_primary_176 rfl ?_
        refine J_if_eq (pc := 177) (tgt := 187) D10_primary_177 (by decide) (fun h177 => absurd h177 (by decide)) (fun h177 => ?_)
        refine J_aload_n (pc := 180) D10_primary_180 rfl ?_
        refine J_getf (pc := 181) D10_primary_181 fl10_168 rfl rfl ?_
        refine J_goto (pc := 184) (tgt := 194) D10_primary_184 (by decide) ?_
        refine J_callVT (pc := 194) (ac := [.int _, .int _]) D10_primary_194 m10_puts_v t1532 (c10_puts (d := D - 3) (n := lenR R) b2 (fun q => ⟨hst.2.2.1, by have := hkl q; have := hst.2.2.2.1; omega⟩)) (by omega) rfl rfl rfl rfl rfl rfl rfl (fun r w' hq hl => ?_)
        obtain ⟨rfl, A3, rfl, f3, n3, y3⟩ := hq
        refine J_aload_n (pc := 197) D10_primary_197 rfl ?_
        refine J_callVT (pc := 198) (ac := []) D10_primary_198 m10_goOn_v t1504 (c10_goOn (d := D - 8) hK (f3.tp hTP) b2) (by omega) rfl rfl rfl rfl rfl rfl rfl (fun r w' hq hl => ?_)
        obtain ⟨rfl, s4, rfl, a4, b4⟩ := hq
        rw [← tkR_1] at b4
        refine J_vret (pc := 201) D10_primary_201 rfl ?_
        rw [e9]
        refine ⟨rfl, s4, A3, rfl, (FE.kn a2).tr (f3.tr (FE.fs a4)), by rw [putR_1]; exact b4, fun q => ?_⟩
        have q' : (tkR K R).1.2.1 = 0 := by rw [putR_1] at q; exact q
        have hk := tk_lt h0 q'
        have hk2 : (knC K (knR R) R.1).2.1 = 0 := by
          rw [show knC K (knR R) R.1 = R.1 from by unfold knC tkC; rw [if_pos h0, if_pos hk]]
          exact h0
        have b26 : s2 26 = s 26 := (c2 h0 hk).2 26 (by decide)
        exact EXP.one hst h0 hk ((a4 31 (by decide)).trans (a2 31 (by decide) (by decide))) ((a4 32 (by decide)).trans (c2 h0 hk).1) (y3 hk2) (fun x hx => Or.inl ⟨rfl, rfl, b26.trans hva, hnv, hx, rfl⟩)
      · have hva : ¬ s 26 ≤ nI 9999 := fun q => hv (by
          obtain ⟨x, y, e1, e2, x1, x2, x3⟩ := nv
          rw [e2, nI_leI (by omega) (by omega)] at q
          rw [e1, nI_leI (by omega) (by omega)]
          omega)
        have hz : ¬ (refC K (nI 2) R.1).2.1 = 0 := ref_nz h0 (by decide)
        have e9 : (paR K (RL K f 0 (op + 1)) op R).1 = refC K (nI 2) R.1 := by
          rw [e9]
          unfold paN
          rw [if_pos (Int32.not_le.mp hv), putR_1, tkR_f hz]
        refine J_aload_n (pc := 0) D10_primary_0 rfl ?_
        refine J_getf (pc := 1) D10_primary_1 fl10_193 rfl rfl ?_
        rw [h27]
        refine J_if_eq (pc := 4) (tgt := 8) D10_primary_4 (by decide) (fun h4 => ?_) (fun h4 => absurd rfl h4)
        refine J_aload_n (pc := 8) D10_primary_8 rfl ?_
        refine J_bipush (pc := 9) (v := (nI 40)) D10_primary_9 (by decide) ?_
        refine J_callVTR (pc := 11) (ac := [.int _]) D10_primary_11 m10_isSign_v t1548 (c10_isSign (d := D - 2)) (by omega) rfl rfl rfl rfl (fun _ => rfl) rfl rfl rfl ?_
        refine J_if_eq (pc := 14) (tgt := 101) D10_primary_14 (by decide) (fun h14 => ?_) (fun h14 => absurd (i01_f (fun q => hk32 ((kv_s40 kvr).mp q.2))) h14)
        refine J_aload_n (pc := 101) D10_primary_101 rfl ?_
        refine J_getf (pc := 102) D10_primary_102 fl10_158 rfl rfl ?_
        refine J_iconst (pc := 105) (v := (nI 2)) D10_primary_105 (by decide) ?_
        rw [hso]
        refine J_icmp_ne (pc := 106) (tgt := 113) D10_primary_106 (by decide) (fun h106 => absurd rfl h106) (fun h106 => ?_)
        refine J_iconst (pc := 109) (v := (nI 1)) D10_primary_109 (by decide) ?_
        refine J_goto (pc := 110) (tgt := 114) D10_primary_110 (by decide) ?_
        refine J_istore_n (pc := 114) D10_primary_114 rfl ?_
        refine J_iload_n (pc := 115) D10_primary_115 rfl ?_
        refine J_if_eq (pc := 116) (tgt := 137) D10_primary_116 (by decide) (fun h116 => absurd h116 (by decide)) (fun h116 => ?_)
        refine J_aload_n (pc := 119) D10_primary_119 rfl ?_
        refine J_getf (pc := 120) D10_primary_120 fl10_168 rfl rfl ?_
        refine J_sipush (pc := 123) (v := (nI 9999)) D10_primary_123 (by decide) ?_
        refine J_icmp_le (pc := 126) (tgt := 137) D10_primary_126 (by decide) (fun h126 => absurd h126 hva) (fun h126 => ?_)
        refine J_aload_n (pc := 129) D10_primary_129 rfl ?_
        refine J_iconst (pc := 130) (v := (nI 2)) D10_primary_130 (by decide) ?_
        refine J_callVT (pc := 131) (ac := [.int _]) D10_primary_131 m10_wrong_v t1469 (c10_wrong (d := D - 2) (C := R.1) h (by decide)) (by omega) rfl rfl rfl rfl rfl rfl rfl (fun r w' hq hl => ?_)
        obtain ⟨rfl, s1, rfl, a1, b1⟩ := hq
        refine J_goto (pc := 134) (tgt := 162) D10_primary_134 (by decide) ?_
        refine J_aload_n (pc := 162) D10_primary_162 rfl ?_
        refine J_callVT (pc := 163) (ac := []) D10_primary_163 m10_knot_v t1528 (c10_knot (d := D - 3) b1 (kn := knR R) (fun q => absurd q hz)) (by omega) rfl rfl rfl rfl rfl rfl rfl (fun r w' hq hl => ?_)
        obtain ⟨rfl, s2, rfl, a2, b2, c2⟩ := hq
        rw [show knC K (knR R) (refC K (nI 2) R.1) = refC K (nI 2) R.1 from if_neg hz] at b2
        refine J_aload_n (pc := 166) D10_primary_166 rfl ?_
        refine J_iload_n (pc := 167) D10_primary_167 rfl ?_
        refine J_if_eq (pc := 168) (tgt := 175) D10_primary_168 (by decide) (fun h168 => absurd h168 (by decide)) (fun h168 => ?_)
        refine J_iconst (pc := 171) (v := (nI 0)) D10_primary_171 (by decide) ?_
        refine J_goto (pc := 172) (tgt := 176) D10_primary_172 (by decide) ?_
        refine J_iload_n (pc := 176) D10_primary_176 rfl ?_
        refine J_if_eq (pc := 177) (tgt := 187) D10_primary_177 (by decide) (fun h177 => absurd h177 (by decide)) (fun h177 => ?_)
        refine J_aload_n (pc := 180) D10_primary_180 rfl ?_
        refine J_getf (pc := 181) D10_primary_181 fl10_168 rfl rfl ?_
        refine J_goto (pc := 184) (tgt := 194) D10_primary_184 (by decide) ?_
        refine J_callVT (pc := 194) (ac := [.int _, .int _]) D10_primary_194 m10_puts_v t1532 (c10_puts (d := D - 3) (n := 0) b2 (fun q => absurd q hz)) (by omega) rfl rfl rfl rfl rfl rfl rfl (fun r w' hq hl => ?_)
        obtain ⟨rfl, A3, rfl, f3, n3, y3⟩ := hq
        obtain rfl := (n3 hz).symm
        refine J_aload_n (pc := 197) D10_primary_197 rfl ?_
        refine J_callVT (pc := 198) (ac := []) D10_primary_198 m10_goOn_v t1504 (c10_goOn (d := D - 8) hK hTP b2) (by omega) rfl rfl rfl rfl rfl rfl rfl (fun r w' hq hl => ?_)
        obtain ⟨rfl, s4, rfl, a4, b4⟩ := hq
        rw [show goC K (refC K (nI 2) R.1) = refC K (nI 2) R.1 from if_neg hz] at b4
        refine J_vret (pc := 201) D10_primary_201 rfl ?_
        refine ⟨rfl, s4, A, rfl, (FE.fs a1).tr ((FE.kn a2).tr (FE.fs a4)), by rw [e9]; exact b4, fun q => absurd q (by rw [e9]; exact hz)⟩
    · have hso : ¬ s 25 = nI 2 := fun q => hk29 ((kv_num kvr).mp q)
      by_cases hn : nI 9 ≤ kdR K R ∧ kdR K R ≤ nI 15
      · obtain ⟨j, hj, ekd, eva⟩ := kv_n9 kvr hn
        have hs0 := (kv_nms kvr).mpr hn
        have e9 : paR K (RL K f 0 (op + 1)) op R = putR (kdR K R) (nI 0) (tkR K R) := by
          unfold paR
          rw [if_pos (Or.inr hn), if_neg hk29]
          unfold paN
          rw [if_neg (by decide)]
        refine J_aload_n (pc := 0) D10_primary_0 rfl ?_
        refine J_getf (pc := 1) D10_primary_1 fl10_193 rfl rfl ?_
        rw [h27]
        refine J_if_eq (pc := 4) (tgt := 8) D10_primary_4 (by decide) (fun h4 => ?_) (fun h4 => absurd rfl h4)
        refine J_aload_n (pc := 8) D10_primary_8 rfl ?_
        refine J_bipush (pc := 9) (v := (nI 40)) D10_primary_9 (by decide) ?_
        refine J_callVTR (pc := 11) (ac := [.int _]) D10_primary_11 m10_isSign_v t1548 (c10_isSign (d := D - 2)) (by omega) rfl rfl rfl rfl (fun _ => rfl) rfl rfl rfl ?_
        refine J_if_eq (pc := 14) (tgt := 101) D10_primary_14 (by decide) (fun h14 => ?_) (fun h14 => absurd (i01_f (fun q => hk32 ((kv_s40 kvr).mp q.2))) h14)
        refine J_aload_n (pc := 101) D10_primary_101 rfl ?_
        refine J_getf (pc := 102) D10_primary_102 fl10_158 rfl rfl ?_
        refine J_iconst (pc := 105) (v := (nI 2)) D10_primary_105 (by decide) ?_
        refine J_icmp_ne (pc := 106) (tgt := 113) D10_primary_106 (by decide) (fun h106 => ?_) (fun h106 => absurd h106 hso)
        refine J_iconst (pc := 113) (v := (nI 0)) D10_primary_113 (by decide) ?_
        refine J_istore_n (pc := 114) D10_primary_114 rfl ?_
        refine J_iload_n (pc := 115) D10_primary_115 rfl ?_
        refine J_if_eq (pc := 116) (tgt := 137) D10_primary_116 (by decide) (fun h116 => ?_) (fun h116 => absurd rfl h116)
        refine J_iload_n (pc := 137) D10_primary_137 rfl ?_
        refine J_if_ne (pc := 138) (tgt := 162) D10_primary_138 (by decide) (fun h138 => absurd rfl h138) (fun h138 => ?_)
        refine J_aload_n (pc := 141) D10_primary_141 rfl ?_
        refine J_getf (pc := 142) D10_primary_142 fl10_158 rfl rfl ?_
        rw [hs0.1]
        refine J_if_ne (pc := 145) (tgt := 157) D10_primary_145 (by decide) (fun h145 => absurd rfl h145) (fun h145 => ?_)
        refine J_aload_n (pc := 148) D10_primary_148 rfl ?_
        refine J_getf (pc := 149) D10_primary_149 fl10_168 rfl rfl ?_
        refine J_bipush (pc := 152) (v := (nI 12)) D10_primary_152 (by decide) ?_
        refine J_icmp_ge (pc := 154) (tgt := 162) D10_primary_154 (by decide) (fun h154 => ?_) (fun h154 => absurd hs0.2 h154)
        refine J_aload_n (pc := 162) D10_primary_162 rfl ?_
        refine J_callVT (pc := 163) (ac := []) D10_primary_163 m10_knot_v t1528 (c10_knot (d := D - 3) h (kn := knR R) (fun _ => ⟨hst.2.1, hst.2.2.2.2⟩)) (by omega) rfl rfl rfl rfl rfl rfl rfl (fun r w' hq hl => ?_)
        obtain ⟨rfl, s2, rfl, a2, b2, c2⟩ := hq
        have hkl : (knC K (knR R) R.1).2.1 = 0 → knR R < 64 := fun q => Decidable.byContradiction (fun z => by
          rw [show knC K (knR R) R.1 = refC K (nI 2) R.1 from by unfold knC tkC; rw [if_pos h0, if_neg z]] at q
          exact ref_nz h0 (by decide) q)
        refine J_aload_n (pc := 166) D10_primary_166 rfl ?_
        refine J_iload_n (pc := 167) D10_primary_167 rfl ?_
        refine J_if_eq (pc := 168) (tgt := 175) D10_primary_168 (by decide) (fun h168 => ?_) (fun h168 => absurd rfl h168)
        refine J_iconst (pc := 175) (v := (nI 1)) D10_primary_175 (by decide) ?_
        refine J_iload_n (pc := 176) D10_primary_176 rfl ?_
        refine J_if_eq (pc := 177) (tgt := 187) D10_primary_177 (by decide) (fun h177 => ?_) (fun h177 => absurd rfl h177)
        refine J_aload_n (pc := 187) D10_primary_187 rfl ?_
        refine J_getf (pc := 188) D10_primary_188 fl10_168 rfl rfl ?_
        refine J_bipush (pc := 191) (v := (nI 12)) D10_primary_191 (by decide) ?_
        refine J_isub (pc := 193) D10_primary_193 ?_
        refine J_callVT (pc := 194) (ac := [.int _, .int _]) D10_primary_194 m10_puts_v t1532 (c10_puts (d := D - 3) (n := lenR R) b2 (fun q => ⟨hst.2.2.1, by have := hkl q; have := hst.2.2.2.1; omega⟩)) (by omega) rfl rfl rfl rfl rfl rfl rfl (fun r w' hq hl => ?_)
        obtain ⟨rfl, A3, rfl, f3, n3, y3⟩ := hq
        refine J_aload_n (pc := 197) D10_primary_197 rfl ?_
        refine J_callVT (pc := 198) (ac := []) D10_primary_198 m10_goOn_v t1504 (c10_goOn (d := D - 8) hK (f3.tp hTP) b2) (by omega) rfl rfl rfl rfl rfl rfl rfl (fun r w' hq hl => ?_)
        obtain ⟨rfl, s4, rfl, a4, b4⟩ := hq
        rw [← tkR_1] at b4
        refine J_vret (pc := 201) D10_primary_201 rfl ?_
        rw [e9]
        refine ⟨rfl, s4, A3, rfl, (FE.kn a2).tr (f3.tr (FE.fs a4)), by rw [putR_1]; exact b4, fun q => ?_⟩
        have q' : (tkR K R).1.2.1 = 0 := by rw [putR_1] at q; exact q
        have hk := tk_lt h0 q'
        have hk2 : (knC K (knR R) R.1).2.1 = 0 := by
          rw [show knC K (knR R) R.1 = R.1 from by unfold knC tkC; rw [if_pos h0, if_pos hk]]
          exact h0
        have b26 : s2 26 = s 26 := (c2 h0 hk).2 26 (by decide)
        exact EXP.one hst h0 hk ((a4 31 (by decide)).trans (a2 31 (by decide) (by decide))) ((a4 32 (by decide)).trans (c2 h0 hk).1) (y3 hk2) (fun x hx => Or.inr (Or.inl ⟨j, hj, ekd, rfl, by rw [b26, eva, nI_subN (by omega)]; congr 1; omega, hx, rfl⟩))
      · have hz : ¬ (refC K (nI 1) R.1).2.1 = 0 := ref_nz h0 (by decide)
        have e9 : (paR K (RL K f 0 (op + 1)) op R).1 = refC K (nI 1) R.1 := by
          unfold paR
          rw [if_neg (fun q => q.elim hk29 hn), if_neg hk32]
        have hns : ¬ (s 25 = nI 0 ∧ nI 12 ≤ s 26) := fun q => hn ((kv_nms kvr).mp q)
        refine J_aload_n (pc := 0) D10_primary_0 rfl ?_
        refine J_getf (pc := 1) D10_primary_1 fl10_193 rfl rfl ?_
        rw [h27]
        refine J_if_eq (pc := 4) (tgt := 8) D10_primary_4 (by decide) (fun h4 => ?_) (fun h4 => absurd rfl h4)
        refine J_aload_n (pc := 8) D10_primary_8 rfl ?_
        refine J_bipush (pc := 9) (v := (nI 40)) D10_primary_9 (by decide) ?_
        refine J_callVTR (pc := 11) (ac := [.int _]) D10_primary_11 m10_isSign_v t1548 (c10_isSign (d := D - 2)) (by omega) rfl rfl rfl rfl (fun _ => rfl) rfl rfl rfl ?_
        refine J_if_eq (pc := 14) (tgt := 101) D10_primary_14 (by decide) (fun h14 => ?_) (fun h14 => absurd (i01_f (fun q => hk32 ((kv_s40 kvr).mp q.2))) h14)
        refine J_aload_n (pc := 101) D10_primary_101 rfl ?_
        refine J_getf (pc := 102) D10_primary_102 fl10_158 rfl rfl ?_
        refine J_iconst (pc := 105) (v := (nI 2)) D10_primary_105 (by decide) ?_
        refine J_icmp_ne (pc := 106) (tgt := 113) D10_primary_106 (by decide) (fun h106 => ?_) (fun h106 => absurd h106 hso)
        refine J_iconst (pc := 113) (v := (nI 0)) D10_primary_113 (by decide) ?_
        refine J_istore_n (pc := 114) D10_primary_114 rfl ?_
        refine J_iload_n (pc := 115) D10_primary_115 rfl ?_
        refine J_if_eq (pc := 116) (tgt := 137) D10_primary_116 (by decide) (fun h116 => ?_) (fun h116 => absurd rfl h116)
        refine J_iload_n (pc := 137) D10_primary_137 rfl ?_
        refine J_if_ne (pc := 138) (tgt := 162) D10_primary_138 (by decide) (fun h138 => absurd rfl h138) (fun h138 => ?_)
        refine J_aload_n (pc := 141) D10_primary_141 rfl ?_
        refine J_getf (pc := 142) D10_primary_142 fl10_158 rfl rfl ?_
        refine J_if_ne (pc := 145) (tgt := 157) D10_primary_145 (by decide) (fun h145 => ?_) (fun h145 => ?_)
        · refine J_aload_n (pc := 157) D10_primary_157 rfl ?_
          refine J_iconst (pc := 158) (v := (nI 1)) D10_primary_158 (by decide) ?_
          refine J_callVT (pc := 159) (ac := [.int _]) D10_primary_159 m10_wrong_v t1469 (c10_wrong (d := D - 2) (C := R.1) h (by decide)) (by omega) rfl rfl rfl rfl rfl rfl rfl (fun r w' hq hl => ?_)
          obtain ⟨rfl, s1, rfl, a1, b1⟩ := hq
          refine J_aload_n (pc := 162) D10_primary_162 rfl ?_
          refine J_callVT (pc := 163) (ac := []) D10_primary_163 m10_knot_v t1528 (c10_knot (d := D - 3) b1 (kn := knR R) (fun q => absurd q hz)) (by omega) rfl rfl rfl rfl rfl rfl rfl (fun r w' hq hl => ?_)
          obtain ⟨rfl, s2, rfl, a2, b2, c2⟩ := hq
          rw [show knC K (knR R) (refC K (nI 1) R.1) = refC K (nI 1) R.1 from if_neg hz] at b2
          refine J_aload_n (pc := 166) D10_primary_166 rfl ?_
          refine J_iload_n (pc := 167) D10_primary_167 rfl ?_
          refine J_if_eq (pc := 168) (tgt := 175) D10_primary_168 (by decide) (fun h168 => ?_) (fun h168 => absurd rfl h168)
          refine J_iconst (pc := 175) (v := (nI 1)) D10_primary_175 (by decide) ?_
          refine J_iload_n (pc := 176) D10_primary_176 rfl ?_
          refine J_if_eq (pc := 177) (tgt := 187) D10_primary_177 (by decide) (fun h177 => ?_) (fun h177 => absurd rfl h177)
          refine J_aload_n (pc := 187) D10_primary_187 rfl ?_
          refine J_getf (pc := 188) D10_primary_188 fl10_168 rfl rfl ?_
          refine J_bipush (pc := 191) (v := (nI 12)) D10_primary_191 (by decide) ?_
          refine J_isub (pc := 193) D10_primary_193 ?_
          refine J_callVT (pc := 194) (ac := [.int _, .int _]) D10_primary_194 m10_puts_v t1532 (c10_puts (d := D - 3) (n := 0) b2 (fun q => absurd q hz)) (by omega) rfl rfl rfl rfl rfl rfl rfl (fun r w' hq hl => ?_)
          obtain ⟨rfl, A3, rfl, f3, n3, y3⟩ := hq
          obtain rfl := (n3 hz).symm
          refine J_aload_n (pc := 197) D10_primary_197 rfl ?_
          refine J_callVT (pc := 198) (ac := []) D10_primary_198 m10_goOn_v t1504 (c10_goOn (d := D - 8) hK hTP b2) (by omega) rfl rfl rfl rfl rfl rfl rfl (fun r w' hq hl => ?_)
          obtain ⟨rfl, s4, rfl, a4, b4⟩ := hq
          rw [show goC K (refC K (nI 1) R.1) = refC K (nI 1) R.1 from if_neg hz] at b4
          refine J_vret (pc := 201) D10_primary_201 rfl ?_
          refine ⟨rfl, s4, A, rfl, (FE.fs a1).tr ((FE.kn a2).tr (FE.fs a4)), by rw [e9]; exact b4, fun q => absurd q (by rw [e9]; exact hz)⟩
        · have h145' := eq_true h145
          refine J_aload_n (pc := 148) D10_primary_148 rfl ?_
          refine J_getf (pc := 149) D10_primary_149 fl10_168 rfl rfl ?_
          refine J_bipush (pc := 152) (v := (nI 12)) D10_primary_152 (by decide) ?_
          refine J_icmp_ge (pc := 154) (tgt := 162) D10_primary_154 (by decide) (fun h154 => absurd h154 (fun q => hns ⟨h145, q⟩)) (fun h154 => ?_)
          refine J_aload_n (pc := 157) D10_primary_157 rfl ?_
          refine J_iconst (pc := 158) (v := (nI 1)) D10_primary_158 (by decide) ?_
          refine J_callVT (pc := 159) (ac := [.int _]) D10_primary_159 m10_wrong_v t1469 (c10_wrong (d := D - 2) (C := R.1) h (by decide)) (by omega) rfl rfl rfl rfl rfl rfl rfl (fun r w' hq hl => ?_)
          obtain ⟨rfl, s1, rfl, a1, b1⟩ := hq
          refine J_aload_n (pc := 162) D10_primary_162 rfl ?_
          refine J_callVT (pc := 163) (ac := []) D10_primary_163 m10_knot_v t1528 (c10_knot (d := D - 3) b1 (kn := knR R) (fun q => absurd q hz)) (by omega) rfl rfl rfl rfl rfl rfl rfl (fun r w' hq hl => ?_)
          obtain ⟨rfl, s2, rfl, a2, b2, c2⟩ := hq
          rw [show knC K (knR R) (refC K (nI 1) R.1) = refC K (nI 1) R.1 from if_neg hz] at b2
          refine J_aload_n (pc := 166) D10_primary_166 rfl ?_
          refine J_iload_n (pc := 167) D10_primary_167 rfl ?_
          refine J_if_eq (pc := 168) (tgt := 175) D10_primary_168 (by decide) (fun h168 => ?_) (fun h168 => absurd rfl h168)
          refine J_iconst (pc := 175) (v := (nI 1)) D10_primary_175 (by decide) ?_
          refine J_iload_n (pc := 176) D10_primary_176 rfl ?_
          refine J_if_eq (pc := 177) (tgt := 187) D10_primary_177 (by decide) (fun h177 => ?_) (fun h177 => absurd rfl h177)
          refine J_aload_n (pc := 187) D10_primary_187 rfl ?_
          refine J_getf (pc := 188) D10_primary_188 fl10_168 rfl rfl ?_
          refine J_bipush (pc := 191) (v := (nI 12)) D10_primary_191 (by decide) ?_
          refine J_isub (pc := 193) D10_primary_193 ?_
          refine J_callVT (pc := 194) (ac := [.int _, .int _]) D10_primary_194 m10_puts_v t1532 (c10_puts (d := D - 3) (n := 0) b2 (fun q => absurd q hz)) (by omega) rfl rfl rfl rfl rfl rfl rfl (fun r w' hq hl => ?_)
          obtain ⟨rfl, A3, rfl, f3, n3, y3⟩ := hq
          obtain rfl := (n3 hz).symm
          refine J_aload_n (pc := 197) D10_primary_197 rfl ?_
          refine J_callVT (pc := 198) (ac := []) D10_primary_198 m10_goOn_v t1504 (c10_goOn (d := D - 8) hK hTP b2) (by omega) rfl rfl rfl rfl rfl rfl rfl (fun r w' hq hl => ?_)
          obtain ⟨rfl, s4, rfl, a4, b4⟩ := hq
          rw [show goC K (refC K (nI 1) R.1) = refC K (nI 1) R.1 from if_neg hz] at b4
          refine J_vret (pc := 201) D10_primary_201 rfl ?_
          refine ⟨rfl, s4, A, rfl, (FE.fs a1).tr ((FE.kn a2).tr (FE.fs a4)), by rw [e9]; exact b4, fun q => absurd q (by rw [e9]; exact hz)⟩
/-- all levels, from the innermost bracket on -/
theorem expr_all {K : TK} {L cnt : Nat} (hK : KT K L cnt) {L0 : LL} {M : Nat → MR} : ∀ (g op : Nat), op + g = 8 → LVC K L cnt L0 M m10_expression (RL K (7 * g + 7) 0 op) op (16 + 6 * g)
  | 0, op, h => expression_of hK (by decide) (conjunction_of hK (by decide) (negation_of hK (by decide) (sum_of hK (by decide) (product_of hK (by decide) (primary_of (f := 0) (B := 10) hK (by omega) (by decide) (fun q => absurd q (by omega)))))))
  | g + 1, op, h => by
    have ih := expr_all hK (L0 := L0) (M := M) g (op + 1) (by omega)
    have := expression_of hK (by omega) (conjunction_of hK (by omega) (negation_of hK (by omega) (sum_of hK (by omega) (product_of hK (by omega) (primary_of (f := 7 * g + 7) (op := op) (B := 16 + 6 * g) hK (by omega) (by omega) (fun _ => ih))))))
    rw [show 7 * (g + 1) + 7 = 7 * g + 7 + 1 + 1 + 1 + 2 + 1 + 1 by omega, show 16 + 6 * (g + 1) = 16 + 6 * g + 1 + 1 + 1 + 1 + 1 + 1 by omega]
    exact this
theorem c10_expression {K : TK} {L cnt : Nat} (hK : KT K L cnt) {L0 : LL} {M : Nat → MR} {D : Nat} {s : Nat → Int32} {A : Nat → Nat → Int32} {R : RS} (hTP : TP K.2.2.1 (A 1) L) (h : CRl K L cnt s R.1) (hs : R.1.2.1 = 0 → ST 0 s A R) (hD : 128 ≤ D) : Tr D 0 0 m10_expression [.ref 0] (modW s A L0 M) (exQ K L cnt L0 M s A R (RL K 63 0 0 R)) := expression_a (expr_all hK 8 0 rfl) (fun R h => RL_f h _ _ _) hTP h hs (fun _ => by omega) (by omega)
