/-! THE MODEL: negations, conjunctions, expressions read (own program mod_q7.py) -/
theorem cmp_j {x : Int32} (h : nI 19 ≤ x ∧ x ≤ nI 24) : ∃ j, j < 13 ∧ j ≠ 2 ∧ x = nI (16 + j) := by
  have h0 : 0 ≤ x := Int32.le_trans (by decide) h.1
  obtain ⟨y, hy, e⟩ := ixB_t (n := 25) (x := x) (by unfold ixB; rw [decide_eq_true h0, decide_eq_true (Int32.lt_of_le_of_lt h.2 (by decide))]; rfl) (by decide)
  rw [e, nI_leI (by omega) (by omega)] at h
  exact ⟨y - 16, by omega, by omega, by rw [e]; congr 1; omega⟩
theorem L10_ng87 {K : TK} {L cnt : Nat} (hK : KT K L cnt) {L0 : LL} {M : Nat → MR} {F : RS → RS} {op B : Nat} (H : LVC K L cnt L0 M m10_sum F op B) (hF : ∀ R : RS, ¬ R.1.2.1 = 0 → F R = R) {D : Nat} {s0 s : Nat → Int32} {A0 A : Nat → Nat → Int32} {R0 R : RS} (hD : B + 65 ≤ D + knR R) (hD9 : 9 ≤ D) (hFE : FE s0 A0 s A) (hTP : TP K.2.2.1 (A 1) L) (h : CRl K L cnt s R.1) (h0 : R.1.2.1 = 0) (hE : EXP s0 A0 R0 s A R) (hst : ST op s A R) (hkd : nI 19 ≤ kdR K R ∧ kdR K R ≤ nI 24) : J m10_negation D 0 0 40 87 [(0, .ref 0)] [] (modW s A L0 M) 0 0 (exQ K L cnt L0 M s0 A0 R0 (lvL K F 3 1 R)) := by
  have kvr := (h.2.2 h0).2.2.2.1
  have hcv : s 26 = sgM (kdR K R) := kv_cmv kvr ⟨hkd.1, Int32.le_trans hkd.2 (by decide)⟩
  refine J_aload_n (pc := 87) D10_negation_87 rfl ?_
  refine J_getf (pc := 88) D10_negation_88 fl10_168 rfl rfl ?_
  refine J_istore_n (pc := 91) D10_negation_91 rfl ?_
  refine J_aload_n (pc := 92) D10_negation_92 rfl ?_
  refine J_callVT (pc := 93) (ac := []) D10_negation_93 m10_knot_v t1528 (c10_knot (d := D - 3) h (kn := knR R) (fun _ => ⟨hst.2.1, hst.2.2.2.2⟩)) (by omega) rfl rfl rfl rfl rfl rfl rfl (fun r w' hq hl => ?_)
  obtain ⟨rfl, s2, rfl, a2, b2, c2⟩ := hq
  refine J_aload_n (pc := 96) D10_negation_96 rfl ?_
  refine J_callVT (pc := 97) (ac := []) D10_negation_97 m10_goOn_v t1504 (c10_goOn (d := D - 8) hK hTP b2) (by omega) rfl rfl rfl rfl rfl rfl rfl (fun r w' hq hl => ?_)
  obtain ⟨rfl, s3, rfl, a3, b3⟩ := hq
  rw [← tkR_1] at b3
  have e31 : s3 31 = s 31 := (a3 31 (by decide)).trans (a2 31 (by decide) (by decide))
  have hst3 : (tkR K R).1.2.1 = 0 → ST op s3 A (tkR K R) := fun q => hst.tk h0 (tk_lt h0 q) e31 ((a3 32 (by decide)).trans (c2 h0 (tk_lt h0 q)).1)
  refine J_aload_n (pc := 100) D10_negation_100 rfl ?_
  refine J_callVT (pc := 101) (ac := []) D10_negation_101 m10_sum_v t1536 (sum_a (D := D - 1) H hF hTP b3 hst3 (fun q => by have e9 : knR (tkR K R) = knR R + 1 := (by rw [tkR_k h0 (tk_lt h0 q)]); omega) (by omega)) (by omega) rfl rfl rfl rfl rfl rfl rfl (fun r w' hq hl => ?_)
  obtain ⟨rfl, s4, A4, rfl, f4, b4, e4⟩ := hq
  have hl4 : (F (tkR K R)).1.2.1 = 0 → (tkR K R).1.2.1 = 0 := fun q => Decidable.byContradiction (fun z => z (by rw [hF _ z] at q; exact q))
  have hp4 : (F (tkR K R)).1.2.1 = 0 → A4 3 11 = nI (lenR (F (tkR K R))) ∧ lenR (F (tkR K R)) < 64 := fun q => EXP.lt hst h0 (tk_lt h0 (hl4 q)) (e4 q)
  refine J_aload_n (pc := 104) D10_negation_104 rfl ?_
  refine J_iconst (pc := 105) (v := (nI 2)) D10_negation_105 (by decide) ?_
  refine J_iload_n (pc := 106) D10_negation_106 rfl ?_
  refine J_callVT (pc := 107) (ac := [.int _, .int _]) D10_negation_107 m10_puts_v t1532 (c10_puts (d := D - 3) (n := lenR (F (tkR K R))) b4 hp4) (by omega) rfl rfl rfl rfl rfl rfl rfl (fun r w' hq hl => ?_)
  obtain ⟨rfl, A5, rfl, f5, n5, y5⟩ := hq
  refine J_vret (pc := 110) D10_negation_110 rfl ?_
  rw [lvL, if_pos ⟨h0, lvO_3.mpr hkd⟩]
  show exQ K L cnt L0 M s0 A0 R0 (putR (kdR K R) (nI 0) (F (tkR K R))) none (modW s4 A5 L0 M)
  refine ⟨rfl, s4, A5, rfl, hFE.tr ((FE.kn a2).tr ((FE.fs a3).tr (f4.tr f5))), by rw [putR_1]; exact b4, fun q => ?_⟩
  have q' : (F (tkR K R)).1.2.1 = 0 := by rw [putR_1] at q; exact q
  obtain ⟨j, j1, j2, j3⟩ := cmp_j hkd
  exact (EXP.bin (K := K) hE hst h0 (tk_lt h0 (hl4 q')) e31 (e4 q') (y5 q') ⟨j, j1, j2, j3, hcv⟩).1
def ngF (K : TK) (f op : Nat) : Nat → RS → RS
  | 0, R => RL K f 3 op R
  | m + 1, R => if R.1.2.1 = 0 ∧ kdR K R = nI 18 then putR (nI 18) (nI 0) (ngF K f op m (tkR K R)) else RL K f 3 op R
theorem ng_e {K : TK} {f op : Nat} : ∀ (m j : Nat) (R : RS), puN (ntL K m j R).1 (RL K f 3 op (ntL K m j R).2) = puN j (ngF K f op m R)
  | 0, j, R => rfl
  | m + 1, j, R => by
    rw [ntL, ngF]
    by_cases h : R.1.2.1 = 0 ∧ K.2.2.2.1 R.1.1 = nI 18
    · rw [if_pos h, if_pos h, ng_e m (j + 1) (tkR K R)]
      rfl
    · rw [if_neg h, if_neg h]
theorem ngF_f {K : TK} {f op : Nat} {R : RS} (h : ¬ R.1.2.1 = 0) : ∀ m, ngF K f op m R = R
  | 0 => RL_f h _ _ _
  | m + 1 => by rw [ngF, if_neg (fun q => h q.1)]; exact RL_f h _ _ _
theorem ng_t {K : TK} {L cnt : Nat} (hK : KT K L cnt) {L0 : LL} {M : Nat → MR} {f op B : Nat} (hB : 10 ≤ B) (H : LVC K L cnt L0 M m10_sum (RL K f 4 op) op B) : ∀ (m D : Nat) (s : Nat → Int32) (A : Nat → Nat → Int32) (R : RS), TP K.2.2.1 (A 1) L → CRl K L cnt s R.1 → R.1.2.1 = 0 → ST op s A R → B + 65 ≤ D + knR R → 65 ≤ knR R + m → Tr D 0 0 m10_negation [.ref 0] (modW s A L0 M) (exQ K L cnt L0 M s A R (ngF K (f + 1) op m R)) := by
  intro m
  induction m with
  | zero =>
    intro D s A R hTP h h0 hst hD hm
    have := hst.2.2.2.2
    omega
  | succ m ih =>
    intro D s A R hTP h h0 hst hD hm
    have hkn := hst.2.2.2.2
    have kvr := (h.2.2 h0).2.2.2.1
    have h27 : s 27 = 0 := by rw [h.1]; exact h0
    by_cases hk : kdR K R = nI 18
    · rw [ngF, if_pos ⟨h0, hk⟩]
      refine Tr.intro (by decide) rfl ?_
      refine J_aload_n (pc := 0) D10_negation_0 rfl ?_
      refine J_bipush (pc := 1) (v := (nI 11)) D10_negation_1 (by decide) ?_
      refine J_callVTR (pc := 3) (ac := [.int _]) D10_negation_3 m10_isWord_v t1524 (c10_isWord (d := D - 2)) (by omega) rfl rfl rfl rfl (fun _ => rfl) rfl rfl rfl ?_
      refine J_if_eq (pc := 6) (tgt := 30) D10_negation_6 (by decide) (fun h6 => absurd h6 (by rw [i01_t ⟨h27, (kv_not kvr).mpr hk⟩]; decide)) (fun h6 => ?_)
      refine J_aload_n (pc := 9) D10_negation_9 rfl ?_
      refine J_callVT (pc := 10) (ac := []) D10_negation_10 m10_knot_v t1528 (c10_knot (d := D - 3) h (kn := knR R) (fun _ => ⟨hst.2.1, hst.2.2.2.2⟩)) (by omega) rfl rfl rfl rfl rfl rfl rfl (fun r w' hq hl => ?_)
      obtain ⟨rfl, s2, rfl, a2, b2, c2⟩ := hq
      refine J_aload_n (pc := 13) D10_negation_13 rfl ?_
      refine J_callVT (pc := 14) (ac := []) D10_negation_14 m10_goOn_v t1504 (c10_goOn (d := D - 8) hK hTP b2) (by omega) rfl rfl rfl rfl rfl rfl rfl (fun r w' hq hl => ?_)
      obtain ⟨rfl, s3, rfl, a3, b3⟩ := hq
      rw [← tkR_1] at b3
      have e31 : s3 31 = s 31 := (a3 31 (by decide)).trans (a2 31 (by decide) (by decide))
      have hst3 : (tkR K R).1.2.1 = 0 → ST op s3 A (tkR K R) := fun q => hst.tk h0 (tk_lt h0 q) e31 ((a3 32 (by decide)).trans (c2 h0 (tk_lt h0 q)).1)
      have HN : Tr (D - 1) 0 0 m10_negation [.ref 0] (modW s3 A L0 M) (exQ K L cnt L0 M s3 A (tkR K R) (ngF K (f + 1) op m (tkR K R))) := by
        by_cases q : (tkR K R).1.2.1 = 0
        · have e9 : knR (tkR K R) = knR R + 1 := (by rw [tkR_k h0 (tk_lt h0 q)])
          exact ih (D - 1) s3 A (tkR K R) hTP b3 q (hst3 q) (by omega) (by omega)
        · refine Tr.intro (by decide) rfl (J_mono (L10_negation_f (by rw [b3.1]; exact q) (by omega)) ?_)
          rintro r w' ⟨rfl, rfl⟩
          exact exQ.f b3 q (ngF_f q m)
      refine J_aload_n (pc := 17) D10_negation_17 rfl ?_
      refine J_callVT (pc := 18) (ac := []) D10_negation_18 m10_negation_v t1520 (HN) (by omega) rfl rfl rfl rfl rfl rfl rfl (fun r w' hq hl => ?_)
      obtain ⟨rfl, s4, A4, rfl, f4, b4, e4⟩ := hq
      have hl4 : (ngF K (f + 1) op m (tkR K R)).1.2.1 = 0 → (tkR K R).1.2.1 = 0 := fun q => Decidable.byContradiction (fun z => z (by rw [ngF_f z] at q; exact q))
      have hp4 : (ngF K (f + 1) op m (tkR K R)).1.2.1 = 0 → A4 3 11 = nI (lenR (ngF K (f + 1) op m (tkR K R))) ∧ lenR (ngF K (f + 1) op m (tkR K R)) < 64 := fun q => EXP.lt hst h0 (tk_lt h0 (hl4 q)) (e4 q)
      refine J_aload_n (pc := 21) D10_negation_21 rfl ?_
      refine J_iconst (pc := 22) (v := (nI 2)) D10_negation_22 (by decide) ?_
      refine J_sipush (pc := 23) (v := (nI 260)) D10_negation_23 (by decide) ?_
      refine J_callVT (pc := 26) (ac := [.int _, .int _]) D10_negation_26 m10_puts_v t1532 (c10_puts (d := D - 3) (n := lenR (ngF K (f + 1) op m (tkR K R))) b4 hp4) (by omega) rfl rfl rfl rfl rfl rfl rfl (fun r w' hq hl => ?_)
      obtain ⟨rfl, A5, rfl, f5, n5, y5⟩ := hq
      refine J_vret (pc := 29) D10_negation_29 rfl ?_
      refine ⟨rfl, s4, A5, rfl, (FE.kn a2).tr ((FE.fs a3).tr (f4.tr f5)), by rw [putR_1]; exact b4, fun q => ?_⟩
      have q' : (ngF K (f + 1) op m (tkR K R)).1.2.1 = 0 := by rw [putR_1] at q; exact q
      exact (EXP.neg (K := K) hst h0 (tk_lt h0 (hl4 q')) e31 (e4 q') (y5 q')).1
    · rw [ngF, if_neg (fun q => hk q.2), RL, if_pos h0, if_neg (by decide), if_neg (by decide), if_pos rfl]
      refine Tr.intro (by decide) rfl ?_
      refine J_aload_n (pc := 0) D10_negation_0 rfl ?_
      refine J_bipush (pc := 1) (v := (nI 11)) D10_negation_1 (by decide) ?_
      refine J_callVTR (pc := 3) (ac := [.int _]) D10_negation_3 m10_isWord_v t1524 (c10_isWord (d := D - 2)) (by omega) rfl rfl rfl rfl (fun _ => rfl) rfl rfl rfl ?_
      refine J_if_eq (pc := 6) (tgt := 30) D10_negation_6 (by decide) (fun h6 => ?_) (fun h6 => absurd (i01_f (fun q => hk ((kv_not kvr).mp q.2))) h6)
      refine J_aload_n (pc := 30) D10_negation_30 rfl ?_
      refine J_callVT (pc := 31) (ac := []) D10_negation_31 m10_sum_v t1536 (H (D - 1) s A R hTP h h0 hst (by omega)) (by omega) rfl rfl rfl rfl rfl rfl rfl (fun r w' hq hl => ?_)
      obtain ⟨rfl, s1, A1, rfl, f1, b1, e1⟩ := hq
      refine J_aload_n (pc := 34) D10_negation_34 rfl ?_
      refine J_getf (pc := 35) D10_negation_35 fl10_193 rfl rfl ?_
      rw [b1.1]
      refine J_if_ne (pc := 38) (tgt := 86) D10_negation_38 (by decide) (fun h38 => ?_) (fun h38 => ?_)
      · refine J_vret (pc := 86) D10_negation_86 rfl ?_
        rw [lvL_f h38]
        exact ⟨rfl, s1, A1, rfl, f1, b1, fun q => absurd q h38⟩
      · have h38' := eq_true h38
        have kvr1 := (b1.2.2 h38).2.2.2.1
        refine J_aload_n (pc := 41) D10_negation_41 rfl ?_
        refine J_getf (pc := 42) D10_negation_42 fl10_158 rfl rfl ?_
        refine J_iconst (pc := 45) (v := (nI 3)) D10_negation_45 (by decide) ?_
        refine J_icmp_ne (pc := 46) (tgt := 86) D10_negation_46 (by decide) (fun h46 => ?_) (fun h46 => ?_)
        · refine J_vret (pc := 86) D10_negation_86 rfl ?_
          rw [lvL, if_neg (fun q => absurd (lvO_3.mp q.2) (fun z => h46 ((kv_cmp kvr1).mpr z).1))]
          exact ⟨rfl, s1, A1, rfl, f1, b1, fun _ => e1 h38⟩
        · have h46' := eq_true h46
          refine J_aload_n (pc := 49) D10_negation_49 rfl ?_
          refine J_getf (pc := 50) D10_negation_50 fl10_168 rfl rfl ?_
          refine J_bipush (pc := 53) (v := (nI 60)) D10_negation_53 (by decide) ?_
          refine J_icmp_eq (pc := 55) (tgt := 87) D10_negation_55 (by decide) (fun h55 => ?_) (fun h55 => ?_)
          · have h55' := eq_true h55
            have hkd := (kv_cmp kvr1).mp ⟨h46, Or.inl h55⟩
            have hE1 := e1 h38
            have e9 := hE1.2.2.2.2.2.1
            have e8 := hE1.2.2.2.2.1
            exact L10_ng87 hK H (fun R h => RL_f h _ _ _) (by show B + 65 ≤ D + knR (RL K f 4 op R); omega) (by omega) f1 (f1.tp hTP) b1 h38 hE1 (hE1.st hst) hkd
          · refine J_aload_n (pc := 58) D10_negation_58 rfl ?_
            refine J_getf (pc := 59) D10_negation_59 fl10_168 rfl rfl ?_
            refine J_bipush (pc := 62) (v := (nI 62)) D10_negation_62 (by decide) ?_
            refine J_icmp_eq (pc := 64) (tgt := 87) D10_negation_64 (by decide) (fun h64 => ?_) (fun h64 => ?_)
            · have h64' := eq_true h64
              have hkd := (kv_cmp kvr1).mp ⟨h46, Or.inr (Or.inl h64)⟩
              have hE1 := e1 h38
              have e9 := hE1.2.2.2.2.2.1
              have e8 := hE1.2.2.2.2.1
              exact L10_ng87 hK H (fun R h => RL_f h _ _ _) (by show B + 65 ≤ D + knR (RL K f 4 op R); omega) (by omega) f1 (f1.tp hTP) b1 h38 hE1 (hE1.st hst) hkd
            · refine J_aload_n (pc := 67) D10_negation_67 rfl ?_
              refine J_getf (pc := 68) D10_negation_68 fl10_168 rfl rfl ?_
              refine J_bipush (pc := 71) (v := (nI 61)) D10_negation_71 (by decide) ?_
              refine J_icmp_eq (pc := 73) (tgt := 87) D10_negation_73 (by decide) (fun h73 => ?_) (fun h73 => ?_)
              · have h73' := eq_true h73
                have hkd := (kv_cmp kvr1).mp ⟨h46, Or.inr (Or.inr (Or.inl h73))⟩
                have hE1 := e1 h38
                have e9 := hE1.2.2.2.2.2.1
                have e8 := hE1.2.2.2.2.1
                exact L10_ng87 hK H (fun R h => RL_f h _ _ _) (by show B + 65 ≤ D + knR (RL K f 4 op R); omega) (by omega) f1 (f1.tp hTP) b1 h38 hE1 (hE1.st hst) hkd
              · refine J_aload_n (pc := 76) D10_negation_76 rfl ?_
                refine J_getf (pc := 77) D10_negation_77 fl10_168 rfl rfl ?_
                refine J_sipush (pc := 80) (v := (nI 256)) D10_negation_80 (by decide) ?_
                refine J_icmp_ge (pc := 83) (tgt := 87) D10_negation_83 (by decide) (fun h83 => ?_) (fun h83 => ?_)
                · have h83' := Int32.not_lt.mpr h83
                  have hkd := (kv_cmp kvr1).mp ⟨h46, Or.inr (Or.inr (Or.inr h83))⟩
                  have hE1 := e1 h38
                  have e9 := hE1.2.2.2.2.2.1
                  have e8 := hE1.2.2.2.2.1
                  exact L10_ng87 hK H (fun R h => RL_f h _ _ _) (by show B + 65 ≤ D + knR (RL K f 4 op R); omega) (by omega) f1 (f1.tp hTP) b1 h38 hE1 (hE1.st hst) hkd
                · have h83' := Int32.not_le.mp h83
                  refine J_vret (pc := 86) D10_negation_86 rfl ?_
                  rw [lvL, if_neg (fun q => absurd (lvO_3.mp q.2) (fun z => (kv_cmp kvr1).mpr z |>.2 |>.elim h55 (fun y => y.elim h64 (fun x => x.elim h73 (fun w => h83 w)))))]
                  exact ⟨rfl, s1, A1, rfl, f1, b1, fun _ => e1 h38⟩
theorem negation_of {K : TK} {L cnt : Nat} (hK : KT K L cnt) {L0 : LL} {M : Nat → MR} {f op B : Nat} (hB : 10 ≤ B) (H : LVC K L cnt L0 M m10_sum (RL K f 4 op) op B) : LVC K L cnt L0 M m10_negation (RL K (f + 2) 2 op) op (B + 1) := by
  intro D s A R hTP h h0 hst hD
  rw [RL, if_pos h0, if_pos rfl, ng_e 65 0 R]
  exact ng_t hK hB H 65 D s A R hTP h h0 hst (by omega) (by omega)
theorem L10_conjunction4 {K : TK} {L cnt : Nat} (hK : KT K L cnt) {L0 : LL} {M : Nat → MR} {F : RS → RS} {op B : Nat} (H : LVC K L cnt L0 M m10_negation F op B) (hF : ∀ R : RS, ¬ R.1.2.1 = 0 → F R = R) {D : Nat} {s0 : Nat → Int32} {A0 : Nat → Nat → Int32} {R0 : RS} (hD : B + 65 ≤ D + knR R0) (hD9 : 9 ≤ D) (hs0 : ST op s0 A0 R0) : ∀ (m : Nat) (s : Nat → Int32) (A : Nat → Nat → Int32) (R : RS), FE s0 A0 s A → TP K.2.2.1 (A 1) L → CRl K L cnt s R.1 → (R.1.2.1 = 0 → EXP s0 A0 R0 s A R ∧ 65 ≤ knR R + m) → J m10_conjunction D 0 0 40 4 [(0, .ref 0)] [] (modW s A L0 M) 0 0 (exQ K L cnt L0 M s0 A0 R0 (lvL K F 1 m R)) := by
  intro m
  induction m with
  | zero =>
    intro s A R hFE hTP h hE
    by_cases h0 : R.1.2.1 = 0
    · obtain ⟨hE1, hm⟩ := hE h0
      have := (hE1.st hs0).2.2.2.2
      omega
    · have h27 : ¬ s 27 = 0 := by rw [h.1]; exact h0
      refine J_aload_n (pc := 4) D10_conjunction_4 rfl ?_
      refine J_bipush (pc := 5) (v := (nI 10)) D10_conjunction_5 (by decide) ?_
      refine J_callVTR (pc := 7) (ac := [.int _]) D10_conjunction_7 m10_isWord_v t1524 (c10_isWord (d := D - 2)) (by omega) rfl rfl rfl rfl (fun _ => rfl) rfl rfl rfl ?_
      refine J_if_eq (pc := 10) (tgt := 36) D10_conjunction_10 (by decide) (fun h10 => ?_) (fun h10 => absurd (i01_f (fun q => h27 q.1)) h10)
      refine J_vret (pc := 36) D10_conjunction_36 rfl ?_
      exact ⟨rfl, s, A, rfl, hFE, h, fun q => absurd q h0⟩
  | succ m ih =>
    intro s A R hFE hTP h hE
    by_cases h0 : R.1.2.1 = 0
    · obtain ⟨hE, hm⟩ := hE h0
      have hst := hE.st hs0
      have hkn : knR R0 ≤ knR R := by have := hE.2.2.2.2.2.1; have := hE.2.2.2.2.1; omega
      have kvr := (h.2.2 h0).2.2.2.1
      have h27 : s 27 = 0 := by rw [h.1]; exact h0
      refine J_aload_n (pc := 4) D10_conjunction_4 rfl ?_
      refine J_bipush (pc := 5) (v := (nI 10)) D10_conjunction_5 (by decide) ?_
      refine J_callVTR (pc := 7) (ac := [.int _]) D10_conjunction_7 m10_isWord_v t1524 (c10_isWord (d := D - 2)) (by omega) rfl rfl rfl rfl (fun _ => rfl) rfl rfl rfl ?_
      refine J_if_eq (pc := 10) (tgt := 36) D10_conjunction_10 (by decide) (fun h10 => ?_) (fun h10 => ?_)
      · have h10' := eq_true h10
        replace h10 := i01_z h10
        refine J_vret (pc := 36) D10_conjunction_36 rfl ?_
        rw [lvL, if_neg (fun q => h10 ⟨h27, (kv_and kvr).mpr (lvO_1.mp q.2)⟩)]
        exact ⟨rfl, s, A, rfl, hFE, h, fun _ => hE⟩
      · replace h10 := i01_nz h10
        have hkd := (kv_and kvr).mp h10.2
        refine J_aload_n (pc := 13) D10_conjunction_13 rfl ?_
        refine J_callVT (pc := 14) (ac := []) D10_conjunction_14 m10_knot_v t1528 (c10_knot (d := D - 3) h (kn := knR R) (fun _ => ⟨hst.2.1, hst.2.2.2.2⟩)) (by omega) rfl rfl rfl rfl rfl rfl rfl (fun r w' hq hl => ?_)
        obtain ⟨rfl, s2, rfl, a2, b2, c2⟩ := hq
        refine J_aload_n (pc := 17) D10_conjunction_17 rfl ?_
        refine J_callVT (pc := 18) (ac := []) D10_conjunction_18 m10_goOn_v t1504 (c10_goOn (d := D - 8) hK hTP b2) (by omega) rfl rfl rfl rfl rfl rfl rfl (fun r w' hq hl => ?_)
        obtain ⟨rfl, s3, rfl, a3, b3⟩ := hq
        rw [← tkR_1] at b3
        have e31 : s3 31 = s 31 := (a3 31 (by decide)).trans (a2 31 (by decide) (by decide))
        have hst3 : (tkR K R).1.2.1 = 0 → ST op s3 A (tkR K R) := fun q => hst.tk h0 (tk_lt h0 q) e31 ((a3 32 (by decide)).trans (c2 h0 (tk_lt h0 q)).1)
        refine J_aload_n (pc := 21) D10_conjunction_21 rfl ?_
        refine J_callVT (pc := 22) (ac := []) D10_conjunction_22 m10_negation_v t1520 (negation_a (D := D - 1) H hF hTP b3 hst3 (fun q => by have e9 : knR (tkR K R) = knR R + 1 := (by rw [tkR_k h0 (tk_lt h0 q)]); omega) (by omega)) (by omega) rfl rfl rfl rfl rfl rfl rfl (fun r w' hq hl => ?_)
        obtain ⟨rfl, s4, A4, rfl, f4, b4, e4⟩ := hq
        have hl4 : (F (tkR K R)).1.2.1 = 0 → (tkR K R).1.2.1 = 0 := fun q => Decidable.byContradiction (fun z => z (by rw [hF _ z] at q; exact q))
        have hp4 : (F (tkR K R)).1.2.1 = 0 → A4 3 11 = nI (lenR (F (tkR K R))) ∧ lenR (F (tkR K R)) < 64 := fun q => EXP.lt hst h0 (tk_lt h0 (hl4 q)) (e4 q)
        refine J_aload_n (pc := 25) D10_conjunction_25 rfl ?_
        refine J_iconst (pc := 26) (v := (nI 2)) D10_conjunction_26 (by decide) ?_
        refine J_sipush (pc := 27) (v := (nI 261)) D10_conjunction_27 (by decide) ?_
        refine J_callVT (pc := 30) (ac := [.int _, .int _]) D10_conjunction_30 m10_puts_v t1532 (c10_puts (d := D - 3) (n := lenR (F (tkR K R))) b4 hp4) (by omega) rfl rfl rfl rfl rfl rfl rfl (fun r w' hq hl => ?_)
        obtain ⟨rfl, A5, rfl, f5, n5, y5⟩ := hq
        refine J_goto (pc := 33) (tgt := 4) D10_conjunction_33 (by decide) ?_
        rw [lvL, if_pos ⟨h0, lvO_1.mpr hkd⟩]
        have hb : (putR (kdR K R) (nI 0) (F (tkR K R))).1.2.1 = 0 → EXP s0 A0 R0 s4 A5 (putR (kdR K R) (nI 0) (F (tkR K R))) := fun q => by
          have q' : (F (tkR K R)).1.2.1 = 0 := by rw [putR_1] at q; exact q
          exact (EXP.bin (K := K) hE hst h0 (tk_lt h0 (hl4 q')) e31 (e4 q') (y5 q') (⟨1, by decide, by decide, hkd, by rw [hkd]; rfl⟩)).1
        have hFE5 : FE s0 A0 s4 A5 := hFE.tr ((FE.kn a2).tr ((FE.fs a3).tr (f4.tr f5)))
        exact ih s4 A5 _ hFE5 (f5.tp (f4.tp hTP)) (by rw [putR_1]; exact b4) (fun q => ⟨hb q, by
          have q' : (F (tkR K R)).1.2.1 = 0 := by rw [putR_1] at q; exact q
          have e9 : knR (tkR K R) = knR R + 1 := (by rw [tkR_k h0 (tk_lt h0 (hl4 q'))])
          have e8 := (e4 q').2.2.2.2.2.1
          have e7 := (e4 q').2.2.2.2.1
          have e6 : knR (putR (kdR K R) (nI 0) (F (tkR K R))) = knR (F (tkR K R)) := by rw [putR_l (hp4 q').2]
          show 65 ≤ knR (putR (kdR K R) (nI 0) (F (tkR K R))) + m
          omega⟩)
    · have h27 : ¬ s 27 = 0 := by rw [h.1]; exact h0
      rw [lvL_f h0]
      refine J_aload_n (pc := 4) D10_conjunction_4 rfl ?_
      refine J_bipush (pc := 5) (v := (nI 10)) D10_conjunction_5 (by decide) ?_
      refine J_callVTR (pc := 7) (ac := [.int _]) D10_conjunction_7 m10_isWord_v t1524 (c10_isWord (d := D - 2)) (by omega) rfl rfl rfl rfl (fun _ => rfl) rfl rfl rfl ?_
      refine J_if_eq (pc := 10) (tgt := 36) D10_conjunction_10 (by decide) (fun h10 => ?_) (fun h10 => absurd (i01_f (fun q => h27 q.1)) h10)
      refine J_vret (pc := 36) D10_conjunction_36 rfl ?_
      exact ⟨rfl, s, A, rfl, hFE, h, fun q => absurd q h0⟩
theorem conjunction_of {K : TK} {L cnt : Nat} (hK : KT K L cnt) {L0 : LL} {M : Nat → MR} {f op B : Nat} (hB : 10 ≤ B) (H : LVC K L cnt L0 M m10_negation (RL K f 2 op) op B) : LVC K L cnt L0 M m10_conjunction (RL K (f + 1) 1 op) op (B + 1) := by
  intro D s A R hTP h h0 hst hD
  have hkn := hst.2.2.2.2
  rw [RL, if_pos h0, if_neg (by decide), if_neg (by decide), if_neg (by decide)]
  refine Tr.intro (by decide) rfl ?_
  refine J_aload_n (pc := 0) D10_conjunction_0 rfl ?_
  refine J_callVT (pc := 1) (ac := []) D10_conjunction_1 m10_negation_v t1520 (H (D - 1) s A R hTP h h0 hst (by omega)) (by omega) rfl rfl rfl rfl rfl rfl rfl (fun r w' hq hl => ?_)
  obtain ⟨rfl, s1, A1, rfl, f1, b1, e1⟩ := hq
  exact L10_conjunction4 hK H (fun R h => RL_f h _ _ _) (by omega) (by omega) hst 64 s1 A1 _ f1 (f1.tp hTP) b1 (fun q => ⟨e1 q, by have e2 := (e1 q).2.2.2.2.2.1; have e3 := (e1 q).2.2.2.2.1; show 65 ≤ knR (RL K f 2 op R) + 64; omega⟩)
theorem L10_expression4 {K : TK} {L cnt : Nat} (hK : KT K L cnt) {L0 : LL} {M : Nat → MR} {F : RS → RS} {op B : Nat} (H : LVC K L cnt L0 M m10_conjunction F op B) (hF : ∀ R : RS, ¬ R.1.2.1 = 0 → F R = R) {D : Nat} {s0 : Nat → Int32} {A0 : Nat → Nat → Int32} {R0 : RS} (hD : B + 65 ≤ D + knR R0) (hD9 : 9 ≤ D) (hs0 : ST op s0 A0 R0) : ∀ (m : Nat) (s : Nat → Int32) (A : Nat → Nat → Int32) (R : RS), FE s0 A0 s A → TP K.2.2.1 (A 1) L → CRl K L cnt s R.1 → (R.1.2.1 = 0 → EXP s0 A0 R0 s A R ∧ 65 ≤ knR R + m) → J m10_expression D 0 0 40 4 [(0, .ref 0)] [] (modW s A L0 M) 0 0 (exQ K L cnt L0 M s0 A0 R0 (lvL K F 0 m R)) := by
  intro m
  induction m with
  | zero =>
    intro s A R hFE hTP h hE
    by_cases h0 : R.1.2.1 = 0
    · obtain ⟨hE1, hm⟩ := hE h0
      have := (hE1.st hs0).2.2.2.2
      omega
    · have h27 : ¬ s 27 = 0 := by rw [h.1]; exact h0
      refine J_aload_n (pc := 4) D10_expression_4 rfl ?_
      refine J_bipush (pc := 5) (v := (nI 9)) D10_expression_5 (by decide) ?_
      refine J_callVTR (pc := 7) (ac := [.int _]) D10_expression_7 m10_isWord_v t1524 (c10_isWord (d := D - 2)) (by omega) rfl rfl rfl rfl (fun _ => rfl) rfl rfl rfl ?_
      refine J_if_eq (pc := 10) (tgt := 36) D10_expression_10 (by decide) (fun h10 => ?_) (fun h10 => absurd (i01_f (fun q => h27 q.1)) h10)
      refine J_vret (pc := 36) D10_expression_36 rfl ?_
      exact ⟨rfl, s, A, rfl, hFE, h, fun q => absurd q h0⟩
  | succ m ih =>
    intro s A R hFE hTP h hE
    by_cases h0 : R.1.2.1 = 0
    · obtain ⟨hE, hm⟩ := hE h0
      have hst := hE.st hs0
      have hkn : knR R0 ≤ knR R := by have := hE.2.2.2.2.2.1; have := hE.2.2.2.2.1; omega
      have kvr := (h.2.2 h0).2.2.2.1
      have h27 : s 27 = 0 := by rw [h.1]; exact h0
      refine J_aload_n (pc := 4) D10_expression_4 rfl ?_
      refine J_bipush (pc := 5) (v := (nI 9)) D10_expression_5 (by decide) ?_
      refine J_callVTR (pc := 7) (ac := [.int _]) D10_expression_7 m10_isWord_v t1524 (c10_isWord (d := D - 2)) (by omega) rfl rfl rfl rfl (fun _ => rfl) rfl rfl rfl ?_
      refine J_if_eq (pc := 10) (tgt := 36) D10_expression_10 (by decide) (fun h10 => ?_) (fun h10 => ?_)
      · have h10' := eq_true h10
        replace h10 := i01_z h10
        refine J_vret (pc := 36) D10_expression_36 rfl ?_
        rw [lvL, if_neg (fun q => h10 ⟨h27, (kv_or kvr).mpr (lvO_0.mp q.2)⟩)]
        exact ⟨rfl, s, A, rfl, hFE, h, fun _ => hE⟩
      · replace h10 := i01_nz h10
        have hkd := (kv_or kvr).mp h10.2
        refine J_aload_n (pc := 13) D10_expression_13 rfl ?_
        refine J_callVT (pc := 14) (ac := []) D10_expression_14 m10_knot_v t1528 (c10_knot (d := D - 3) h (kn := knR R) (fun _ => ⟨hst.2.1, hst.2.2.2.2⟩)) (by omega) rfl rfl rfl rfl rfl rfl rfl (fun r w' hq hl => ?_)
        obtain ⟨rfl, s2, rfl, a2, b2, c2⟩ := hq
        refine J_aload_n (pc := 17) D10_expression_17 rfl ?_
        refine J_callVT (pc := 18) (ac := []) D10_expression_18 m10_goOn_v t1504 (c10_goOn (d := D - 8) hK hTP b2) (by omega) rfl rfl rfl rfl rfl rfl rfl (fun r w' hq hl => ?_)
        obtain ⟨rfl, s3, rfl, a3, b3⟩ := hq
        rw [← tkR_1] at b3
        have e31 : s3 31 = s 31 := (a3 31 (by decide)).trans (a2 31 (by decide) (by decide))
        have hst3 : (tkR K R).1.2.1 = 0 → ST op s3 A (tkR K R) := fun q => hst.tk h0 (tk_lt h0 q) e31 ((a3 32 (by decide)).trans (c2 h0 (tk_lt h0 q)).1)
        refine J_aload_n (pc := 21) D10_expression_21 rfl ?_
        refine J_callVT (pc := 22) (ac := []) D10_expression_22 m10_conjunction_v t1516 (conjunction_a (D := D - 1) H hF hTP b3 hst3 (fun q => by have e9 : knR (tkR K R) = knR R + 1 := (by rw [tkR_k h0 (tk_lt h0 q)]); omega) (by omega)) (by omega) rfl rfl rfl rfl rfl rfl rfl (fun r w' hq hl => ?_)
        obtain ⟨rfl, s4, A4, rfl, f4, b4, e4⟩ := hq
        have hl4 : (F (tkR K R)).1.2.1 = 0 → (tkR K R).1.2.1 = 0 := fun q => Decidable.byContradiction (fun z => z (by rw [hF _ z] at q; exact q))
        have hp4 : (F (tkR K R)).1.2.1 = 0 → A4 3 11 = nI (lenR (F (tkR K R))) ∧ lenR (F (tkR K R)) < 64 := fun q => EXP.lt hst h0 (tk_lt h0 (hl4 q)) (e4 q)
        refine J_aload_n (pc := 25) D10_expression_25 rfl ?_
        refine J_iconst (pc := 26) (v := (nI 2)) D10_expression_26 (by decide) ?_
        refine J_sipush (pc := 27) (v := (nI 262)) D10_expression_27 (by decide) ?_
        refine J_callVT (pc := 30) (ac := [.int _, .int _]) D10_expression_30 m10_puts_v t1532 (c10_puts (d := D - 3) (n := lenR (F (tkR K R))) b4 hp4) (by omega) rfl rfl rfl rfl rfl rfl rfl (fun r w' hq hl => ?_)
        obtain ⟨rfl, A5, rfl, f5, n5, y5⟩ := hq
        refine J_goto (pc := 33) (tgt := 4) D10_expression_33 (by decide) ?_
        rw [lvL, if_pos ⟨h0, lvO_0.mpr hkd⟩]
        have hb : (putR (kdR K R) (nI 0) (F (tkR K R))).1.2.1 = 0 → EXP s0 A0 R0 s4 A5 (putR (kdR K R) (nI 0) (F (tkR K R))) := fun q => by
          have q' : (F (tkR K R)).1.2.1 = 0 := by rw [putR_1] at q; exact q
          exact (EXP.bin (K := K) hE hst h0 (tk_lt h0 (hl4 q')) e31 (e4 q') (y5 q') (⟨0, by decide, by decide, hkd, by rw [hkd]; rfl⟩)).1
        have hFE5 : FE s0 A0 s4 A5 := hFE.tr ((FE.kn a2).tr ((FE.fs a3).tr (f4.tr f5)))
        exact ih s4 A5 _ hFE5 (f5.tp (f4.tp hTP)) (by rw [putR_1]; exact b4) (fun q => ⟨hb q, by
          have q' : (F (tkR K R)).1.2.1 = 0 := by rw [putR_1] at q; exact q
          have e9 : knR (tkR K R) = knR R + 1 := (by rw [tkR_k h0 (tk_lt h0 (hl4 q'))])
          have e8 := (e4 q').2.2.2.2.2.1
          have e7 := (e4 q').2.2.2.2.1
          have e6 : knR (putR (kdR K R) (nI 0) (F (tkR K R))) = knR (F (tkR K R)) := by rw [putR_l (hp4 q').2]
          show 65 ≤ knR (putR (kdR K R) (nI 0) (F (tkR K R))) + m
          omega⟩)
    · have h27 : ¬ s 27 = 0 := by rw [h.1]; exact h0
      rw [lvL_f h0]
      refine J_aload_n (pc := 4) D10_expression_4 rfl ?_
      refine J_bipush (pc := 5) (v := (nI 9)) D10_expression_5 (by decide) ?_
      refine J_callVTR (pc := 7) (ac := [.int _]) D10_expression_7 m10_isWord_v t1524 (c10_isWord (d := D - 2)) (by omega) rfl rfl rfl rfl (fun _ => rfl) rfl rfl rfl ?_
      refine J_if_eq (pc := 10) (tgt := 36) D10_expression_10 (by decide) (fun h10 => ?_) (fun h10 => absurd (i01_f (fun q => h27 q.1)) h10)
      refine J_vret (pc := 36) D10_expression_36 rfl ?_
      exact ⟨rfl, s, A, rfl, hFE, h, fun q => absurd q h0⟩
theorem expression_of {K : TK} {L cnt : Nat} (hK : KT K L cnt) {L0 : LL} {M : Nat → MR} {f op B : Nat} (hB : 10 ≤ B) (H : LVC K L cnt L0 M m10_conjunction (RL K f 1 op) op B) : LVC K L cnt L0 M m10_expression (RL K (f + 1) 0 op) op (B + 1) := by
  intro D s A R hTP h h0 hst hD
  have hkn := hst.2.2.2.2
  rw [RL, if_pos h0, if_neg (by decide), if_neg (by decide), if_neg (by decide)]
  refine Tr.intro (by decide) rfl ?_
  refine J_aload_n (pc := 0) D10_expression_0 rfl ?_
  refine J_callVT (pc := 1) (ac := []) D10_expression_1 m10_conjunction_v t1516 (H (D - 1) s A R hTP h h0 hst (by omega)) (by omega) rfl rfl rfl rfl rfl rfl rfl (fun r w' hq hl => ?_)
  obtain ⟨rfl, s1, A1, rfl, f1, b1, e1⟩ := hq
  exact L10_expression4 hK H (fun R h => RL_f h _ _ _) (by omega) (by omega) hst 64 s1 A1 _ f1 (f1.tp hTP) b1 (fun q => ⟨e1 q, by have e2 := (e1 q).2.2.2.2.2.1; have e3 := (e1 q).2.2.2.2.1; show 65 ≤ knR (RL K f 1 op R) + 64; omega⟩)
