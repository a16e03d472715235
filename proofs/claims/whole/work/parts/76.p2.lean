/-! THE MODEL: racking (own program mod_p2.py) -/
theorem cnN_mono {P Q : Nat → Bool} : ∀ n, (∀ i, i < n → P i = true → Q i = true) → cnN P n ≤ cnN Q n
  | 0, _ => Nat.le_refl 0
  | n + 1, h => by
    have := cnN_mono n (fun i hi => h i (by omega))
    rw [cnN, cnN]
    by_cases e : P n = true
    · rw [if_pos e, if_pos (h n (by omega) e)]; omega
    · rw [if_neg e]; omega
def oN (V : CV) : Nat := cnN (fun i => decide (V.2.2.2 3 i = nI 2)) 10
theorem offN_e (V : CV) : offN V = nI (oN V) := bcnt_e
theorem oN_le (V : CV) : oN V ≤ 10 := cnN_le 10
theorem oN_pass {T : TV} {y : Int32 × Int32 × Int32} {nb nn : Nat} (X : CV) : oN X ≤ oN (passF T y nb nn X) := cnN_mono 10 (fun i _ h => by
  have h2 : X.2.2.2 3 i = nI 2 := of_decide_eq_true h
  refine decide_eq_true ?_
  rw [passF_k (by rw [h2]; decide)]
  exact h2)
theorem oN_passN {T : TV} {y : Int32 × Int32 × Int32} {nb nn : Nat} : ∀ (g : Nat) (X : CV), oN X ≤ oN (passN T y nb nn g X)
  | 0, _ => Nat.le_refl _
  | g + 1, X => Nat.le_trans (oN_pass X) (oN_passN g _)
theorem offN_s {V X : CV} (h : oN V ≤ oN X) : offN X - offN V = nI (oN X - oN V) := by rw [offN_e, offN_e]; exact nI_subN h
theorem yrL_e {T : TV} {V : CV} {nb nn f : Nat} (hf : f ≤ 11) : ∀ (g : Nat) (X : CV), oN V ≤ oN X →
    (oN (passN T y1 nb nn g X) - oN V < f → yrL T V nb nn (nI f) g (nI (oN X - oN V)) X = nI (oN (passN T y1 nb nn g X) - oN V)) ∧
    (f ≤ oN (passN T y1 nb nn g X) - oN V → ∃ v, f ≤ v ∧ v ≤ 10 ∧ yrL T V nb nn (nI f) g (nI (oN X - oN V)) X = nI v)
  | 0, X, h => ⟨fun _ => rfl, fun q => ⟨oN X - oN V, q, by have := oN_le X; omega, rfl⟩⟩
  | g + 1, X, h => by
    have hX := oN_le X
    have h1 := oN_pass (T := T) (y := y1) (nb := nb) (nn := nn) X
    have ih := yrL_e (T := T) (V := V) (nb := nb) (nn := nn) hf g (passF T y1 nb nn X) (by omega)
    have hg := oN_passN (T := T) (y := y1) (nb := nb) (nn := nn) g (passF T y1 nb nn X)
    rw [show passN T y1 nb nn (g + 1) X = passN T y1 nb nn g (passF T y1 nb nn X) from rfl]
    by_cases hc : oN X - oN V < f
    · rw [yrL, if_pos (Int32.not_le.mp (nI_ge hc (by omega))), offN_s (by omega)]
      exact ih
    · rw [yrL, if_neg (Int32.not_lt.mpr (nI_le (by omega) (by omega)))]
      exact ⟨fun q => absurd q (by omega), fun _ => ⟨oN X - oN V, by omega, by omega, rfl⟩⟩
def rkM (F : Nat → Nat) : Nat → Nat → Nat × Nat → Nat × Nat
  | 0, _, P => P
  | g + 1, w, P => rkM F g (w + 1) (if F w < P.1 then (F w, w) else P)
theorem rkM_0 {F : Nat → Nat} : ∀ (g w : Nat) (P : Nat × Nat), P.1 = 0 → rkM F g w P = P
  | 0, _, _, _ => rfl
  | g + 1, w, P, h => by rw [rkM, if_neg (by omega)]; exact rkM_0 g (w + 1) P h
theorem mvL_3 {R : Nat → Int32} {way : Int32} {c : Nat} : ∀ (g w : Nat) (X : CV), (mvL R way c g w X).2.2.2 3 = X.2.2.2 3
  | 0, _, _ => rfl
  | g + 1, w, X => (mvL_3 g (w + 1) _).trans rfl
theorem oN_3 {V X : CV} (h : X.2.2.2 3 = V.2.2.2 3) : oN X = oN V := by unfold oN; rw [h]
/-- how many more are off, racked so -/
def rkF (T : TV) (V : CV) (nb nn : Nat) (R : Nat → Int32) (c n w : Nat) : Nat := oN (passN T y1 nb nn n (mvL R (nI w) c c 0 V)) - oN V
theorem rkF_le {T : TV} {V : CV} {nb nn : Nat} {R : Nat → Int32} {c n w : Nat} : rkF T V nb nn R c n w ≤ 10 := by
  have := oN_le (passN T y1 nb nn n (mvL R (nI w) c c 0 V))
  unfold rkF
  omega
theorem rgL_e {T : TV} {V : CV} {nb nn : Nat} {R : Nat → Int32} {c n : Nat} : ∀ (g w : Nat) (P : Nat × Nat), P.1 ≤ 11 → rgL T V nb nn R c n g w (nI P.1) (nI P.2) = (nI (rkM (rkF T V nb nn R c n) g w P).1, nI (rkM (rkF T V nb nn R c n) g w P).2)
  | 0, _, _, _ => rfl
  | g + 1, w, P, h => by
    by_cases h0 : P.1 = 0
    · rw [rkM_0 _ _ _ h0, rgL, if_neg (by rw [h0]; decide)]
    · have e3 : oN (mvL R (nI w) c c 0 V) = oN V := oN_3 (mvL_3 _ _ _)
      have hy := yrL_e (T := T) (V := V) (nb := nb) (nn := nn) (f := P.1) h n (mvL R (nI w) c c 0 V) (by omega)
      rw [e3, Nat.sub_self] at hy
      rw [rgL, if_pos (show (0 : Int32) < nI P.1 from Int32.not_le.mp (nI_ge (a := 0) (by omega) (by omega))), rkM]
      by_cases hF : rkF T V nb nn R c n w < P.1
      · have e : oiF T V nb nn R c n (nI w) (nI P.1) = nI (rkF T V nb nn R c n w) := hy.1 hF
        have hle := rkF_le (T := T) (V := V) (nb := nb) (nn := nn) (R := R) (c := c) (n := n) (w := w)
        rw [e, if_pos (Int32.not_le.mp (nI_ge hF (by omega))), if_pos hF]
        exact rgL_e g (w + 1) (rkF T V nb nn R c n w, w) (by show rkF T V nb nn R c n w ≤ 11; omega)
      · obtain ⟨v, hv1, hv2, ev⟩ := hy.2 (by unfold rkF at hF; omega)
        have e : oiF T V nb nn R c n (nI w) (nI P.1) = nI v := ev
        rw [e, if_neg (Int32.not_lt.mpr (nI_le hv1 (by omega))), if_neg hF]
        exact rgL_e g (w + 1) P h
/-- those that are racked, on both sides -/
def RR (V : CV) (nb : Nat) (s : Nat → Int32) (A : Nat → Nat → Int32) (c : Nat) (R : Nat → Int32) : Prop := s 51 = nI c ∧ c ≤ 4 ∧ ∀ i, i < c → A 50 i = R i ∧ ∃ b, b < nb ∧ R i = nI b ∧ V.2.2.2 3 b = 0
theorem RR.c {V : CV} {nb : Nat} {s s' : Nat → Int32} {A A' : Nat → Nat → Int32} {c : Nat} {R : Nat → Int32} (h : RR V nb s A c R) (e : s' 51 = s 51) (e2 : A' 50 = A 50) : RR V nb s' A' c R := ⟨e.trans h.1, h.2.1, by rw [e2]; exact h.2.2⟩
theorem RR.add {V : CV} {nb : Nat} {s : Nat → Int32} {A : Nat → Nat → Int32} {c b : Nat} {R : Nat → Int32} (h : RR V nb s A c R) (hc : c < 4) (hb : b < nb) (hl : V.2.2.2 3 b = 0) : RR V nb (updI s 51 (nI c + nI 1)) (upA A 50 (upd (A 50) c (nI b))) (c + 1) (upd R c (nI b)) := by
  refine ⟨updI_s.trans (nI_add c 1), hc, fun i hi => ?_⟩
  rw [upA_s]
  by_cases e : i = c
  · rw [e, pk_us, pk_us]; exact ⟨rfl, b, hb, rfl, hl⟩
  · rw [pk_un e, pk_un e]; exact h.2.2 i (by omega)
theorem sh4 : ∀ c, c < 5 → nI 1 <<< ((nI 2 * nI c) &&& 31) = nI (4 ^ c) := by decide
theorem L10_rk7 {d : Nat} {T : TV} {np nb nn : Nat} (hT : WT T np nb nn) {L : LL} {M : Nat → MR} {V : CV} (hC : CR False np nb nn (M 0) V) {s0 : Nat → Int32} {A0 : Nat → Nat → Int32} (hR0 : RT A0 T np nb nn) {n : Int32} {Q : Option Value → List EC → Prop} : ∀ (g b c : Nat) (R : Nat → Int32) (s : Nat → Int32) (A : Nat → Nat → Int32), b + g = nb → PX s0 A0 M s A M → RR V nb s A c R →
    (∀ s' A', PX s0 A0 M s' A' M → RR V nb s' A' (frL V g b c R).1 (frL V g b c R).2 → J m10_layRacks (d + 7) 0 0 40 63 [(0, .ref 0), (1, .int n)] [] (modW s' A' L M) 0 0 Q) → J m10_layRacks (d + 7) 0 0 40 7 [(0, .ref 0), (1, .int n), (2, .int (nI b))] [] (modW s A L M) 0 0 Q := by
  have hnb := hT.2.2.2.2.1
  intro g
  induction g with
  | zero =>
    intro b c R s A hb hP hc K
    have hR := hP.rt hR0
    refine J_iload_n (pc := 7) D10_layRacks_7 rfl ?_
    refine J_aload_n (pc := 8) D10_layRacks_8 rfl ?_
    refine J_getf (pc := 9) D10_layRacks_9 fl10_13 rfl rfl ?_
    refine J_iconst (pc := 12) (v := (nI 1)) D10_layRacks_12 (by decide) ?_
    refine J_mald (pc := 13) D10_layRacks_13 ma_3 rfl (by omega) rfl ?_
    refine J_st [.int (nI nb), .int (nI b)] (by rw [← hR.2.1]) ?_
    refine J_icmp_ge (pc := 14) (tgt := 63) D10_layRacks_14 (by decide) (fun h14 => ?_) (fun h14 => absurd (nI_le (by omega) (by omega)) h14)
    refine J_lk [(0, .ref 0), (1, .int n)] rfl ?_
    exact K s A hP hc
  | succ g ih =>
    intro b c R s A hb hP hc K
    have hR := hP.rt hR0
    have ely := hC.ly (b := b) (by omega)
    have hc4 := hc.2.1
    by_cases h4 : c < 4
    · refine J_iload_n (pc := 7) D10_layRacks_7 rfl ?_
      refine J_aload_n (pc := 8) D10_layRacks_8 rfl ?_
      refine J_getf (pc := 9) D10_layRacks_9 fl10_13 rfl rfl ?_
      refine J_iconst (pc := 12) (v := (nI 1)) D10_layRacks_12 (by decide) ?_
      refine J_mald (pc := 13) D10_layRacks_13 ma_3 rfl (by omega) rfl ?_
      refine J_st [.int (nI nb), .int (nI b)] (by rw [← hR.2.1]) ?_
      refine J_icmp_ge (pc := 14) (tgt := 63) D10_layRacks_14 (by decide) (fun h14 => absurd h14 (nI_ge (by omega) (by omega))) (fun h14 => ?_)
      refine J_aload_n (pc := 17) D10_layRacks_17 rfl ?_
      refine J_getf (pc := 18) D10_layRacks_18 fl10_444 rfl rfl ?_
      refine J_iconst (pc := 21) (v := (nI 4)) D10_layRacks_21 (by decide) ?_
      rw [hc.1]
      refine J_icmp_ge (pc := 22) (tgt := 63) D10_layRacks_22 (by decide) (fun h22 => absurd h22 (nI_ge h4 (by omega))) (fun h22 => ?_)
      refine J_aload_n (pc := 25) D10_layRacks_25 rfl ?_
      refine J_iconst (pc := 26) (v := (nI 0)) D10_layRacks_26 (by decide) ?_
      refine J_iload_n (pc := 27) D10_layRacks_27 rfl ?_
      refine J_callVTR (pc := 28) (ac := [.int _, .int _]) D10_layRacks_28 m10_isLying_v t1583 (c10_isLying (d := d + 6) (c := 0) (b := b) (by decide) (by omega)) (by omega) rfl rfl rfl rfl (fun _ => rfl) rfl rfl rfl ?_
      refine J_if_ne (pc := 31) (tgt := 37) D10_layRacks_31 (by decide) (fun h31 => ?_) (fun h31 => ?_)
      · replace h31 := ely.mp (i01_nz h31)
        refine J_aload_n (pc := 37) D10_layRacks_37 rfl ?_
        refine J_getf (pc := 38) D10_layRacks_38 fl10_108 rfl rfl ?_
        refine J_aload_n (pc := 41) D10_layRacks_41 rfl ?_
        refine J_getf (pc := 42) D10_layRacks_42 fl10_444 rfl rfl ?_
        refine J_iload_n (pc := 45) D10_layRacks_45 rfl ?_
        refine J_mast (pc := 46) D10_layRacks_46 ma_50 hc.1 (by omega) rfl ?_
        refine J_aload_n (pc := 47) D10_layRacks_47 rfl ?_
        refine J_dup (pc := 48) D10_layRacks_48 rfl ?_
        refine J_getf (pc := 49) D10_layRacks_49 fl10_444 rfl rfl ?_
        refine J_iconst (pc := 52) (v := (nI 1)) D10_layRacks_52 (by decide) ?_
        refine J_iadd (pc := 53) D10_layRacks_53 ?_
        rw [hc.1]
        refine J_mput (pc := 54) D10_layRacks_54 fp10_444 ms_51 ?_
        refine J_iinc (pc := 57) D10_layRacks_57 rfl (nI_inc _) rfl ?_
        refine J_goto (pc := 60) (tgt := 7) D10_layRacks_60 (by decide) ?_
        refine ih (b + 1) (c + 1) (upd R c (nI b)) _ _ (by omega) (hP.tr ⟨fun k _ _ a _ _ _ => updI_n a, fun k _ a _ _ _ => upA_n a, fun _ _ => rfl⟩) (hc.add h4 (by omega) h31) (fun s' A' p q => ?_)
        refine K s' A' p ?_
        rw [frL, if_pos h4, if_pos h31]
        exact q
      · have h31' := eq_true h31
        replace h31 : ¬ V.2.2.2 3 b = 0 := fun q => i01_z h31 (ely.mpr q)
        refine J_goto (pc := 34) (tgt := 57) D10_layRacks_34 (by decide) ?_
        refine J_iinc (pc := 57) D10_layRacks_57 rfl (nI_inc _) rfl ?_
        refine J_goto (pc := 60) (tgt := 7) D10_layRacks_60 (by decide) ?_
        refine ih (b + 1) c R _ _ (by omega) hP hc (fun s' A' p q => ?_)
        refine K s' A' p ?_
        rw [frL, if_pos h4, if_neg h31]
        exact q
    · refine J_iload_n (pc := 7) D10_layRacks_7 rfl ?_
      refine J_aload_n (pc := 8) D10_layRacks_8 rfl ?_
      refine J_getf (pc := 9) D10_layRacks_9 fl10_13 rfl rfl ?_
      refine J_iconst (pc := 12) (v := (nI 1)) D10_layRacks_12 (by decide) ?_
      refine J_mald (pc := 13) D10_layRacks_13 ma_3 rfl (by omega) rfl ?_
      refine J_st [.int (nI nb), .int (nI b)] (by rw [← hR.2.1]) ?_
      refine J_icmp_ge (pc := 14) (tgt := 63) D10_layRacks_14 (by decide) (fun h14 => absurd h14 (nI_ge (by omega) (by omega))) (fun h14 => ?_)
      refine J_aload_n (pc := 17) D10_layRacks_17 rfl ?_
      refine J_getf (pc := 18) D10_layRacks_18 fl10_444 rfl rfl ?_
      refine J_iconst (pc := 21) (v := (nI 4)) D10_layRacks_21 (by decide) ?_
      rw [hc.1]
      refine J_icmp_ge (pc := 22) (tgt := 63) D10_layRacks_22 (by decide) (fun h22 => ?_) (fun h22 => absurd (nI_le (by omega) (by omega)) h22)
      refine J_lk [(0, .ref 0), (1, .int n)] rfl ?_
      refine K s A hP ?_
      rw [frL, if_neg h4]
      exact hc
theorem L10_rk90 {d np nb nn : Nat} (hnb : nb ≤ 10) {s : Nat → Int32} {A : Nat → Nat → Int32} {L : LL} {V : CV} {M0 : Nat → MR} {c w : Nat} {R : Nat → Int32} (hc : RR V nb s A c R) {n : Int32} {Q : Option Value → List EC → Prop} : ∀ (g k : Nat) (X : CV) (M : Nat → MR), k + g = c → X.2.2.2 3 = V.2.2.2 3 → (∀ i, i ≠ 1 → M i = M0 i) → CR False np nb nn (M 1) X →
    (∀ M', (∀ i, i ≠ 1 → M' i = M0 i) → CR False np nb nn (M' 1) (mvL R (nI w) c g k X) → J m10_layRacks (d + 7) 0 0 40 132 [(0, .ref 0), (1, .int n), (2, .int (nI w))] [] (modW s A L M') 0 0 Q) → J m10_layRacks (d + 7) 0 0 40 90 [(0, .ref 0), (1, .int n), (2, .int (nI w)), (3, .int (nI k))] [] (modW s A L M) 0 0 Q := by
  have e51 := hc.1
  have hc4 := hc.2.1
  intro g
  induction g with
  | zero =>
    intro k X M hk h3 hM hX K
    refine J_iload_n (pc := 90) D10_layRacks_90 rfl ?_
    refine J_aload_n (pc := 91) D10_layRacks_91 rfl ?_
    refine J_getf (pc := 92) D10_layRacks_92 fl10_444 rfl rfl ?_
    rw [e51]
    refine J_icmp_ge (pc := 95) (tgt := 132) D10_layRacks_95 (by decide) (fun h95 => ?_) (fun h95 => absurd (nI_le (by omega) (by omega)) h95)
    refine J_lk [(0, .ref 0), (1, .int n), (2, .int (nI w))] rfl ?_
    exact K M hM hX
  | succ g ih =>
    intro k X M hk h3 hM hX K
    obtain ⟨eA, b, hb, eR, hl⟩ := hc.2.2 k (by omega)
    obtain ⟨q, hq, eq⟩ := byW_lt (nI w) (nI c) (nI k)
    refine J_iload_n (pc := 90) D10_layRacks_90 rfl ?_
    refine J_aload_n (pc := 91) D10_layRacks_91 rfl ?_
    refine J_getf (pc := 92) D10_layRacks_92 fl10_444 rfl rfl ?_
    rw [e51]
    refine J_icmp_ge (pc := 95) (tgt := 132) D10_layRacks_95 (by decide) (fun h95 => absurd h95 (nI_ge (by omega) (by omega))) (fun h95 => ?_)
    refine J_aload_n (pc := 98) D10_layRacks_98 rfl ?_
    refine J_getf (pc := 99) D10_layRacks_99 fl10_93 rfl rfl ?_
    refine J_bipush (pc := 102) (v := (nI 10)) D10_layRacks_102 (by decide) ?_
    refine J_aload_n (pc := 104) D10_layRacks_104 rfl ?_
    refine J_getf (pc := 105) D10_layRacks_105 fl10_108 rfl rfl ?_
    refine J_iload_n (pc := 108) D10_layRacks_108 rfl ?_
    refine J_mald (pc := 109) D10_layRacks_109 ma_50 rfl (by omega) rfl ?_
    refine J_st (.int (nI b) :: .int (nI 10) :: .ref 27 :: []) (by rw [eA, eR]) ?_
    refine J_iadd (pc := 110) D10_layRacks_110 ?_
    refine J_iload_n (pc := 111) D10_layRacks_111 rfl ?_
    refine J_iconst (pc := 112) (v := (nI 2)) D10_layRacks_112 (by decide) ?_
    refine J_aload_n (pc := 113) D10_layRacks_113 rfl ?_
    refine J_getf (pc := 114) D10_layRacks_114 fl10_444 rfl rfl ?_
    refine J_iconst (pc := 117) (v := (nI 1)) D10_layRacks_117 (by decide) ?_
    refine J_isub (pc := 118) D10_layRacks_118 ?_
    refine J_iload_n (pc := 119) D10_layRacks_119 rfl ?_
    refine J_isub (pc := 120) D10_layRacks_120 ?_
    refine J_imul (pc := 121) D10_layRacks_121 ?_
    refine J_ishr (pc := 122) D10_layRacks_122 ?_
    refine J_iconst (pc := 123) (v := (nI 3)) D10_layRacks_123 (by decide) ?_
    refine J_iand (pc := 124) D10_layRacks_124 ?_
    refine J_st (.int (nI q) :: .int (nI 10 + nI b) :: .ref 27 :: []) (by rw [← eq, ← e51]; rfl) ?_
    refine J_mcst (pc := 125) (stp := 10) D10_layRacks_125 mc_0 (ix1 _ _) (by omega) (by omega) rfl ?_
    refine J_iinc (pc := 126) D10_layRacks_126 rfl (nI_inc _) rfl ?_
    refine J_goto (pc := 129) (tgt := 90) D10_layRacks_129 (by decide) ?_
    have hX2 := hX.move hb (by rw [h3]; exact hl) hq
    refine ih (k + 1) (mvV X b q) _ (by omega) h3 (fun i hi => (upM_n hi).trans (hM i hi)) (by rw [upM_s]; exact hX2) (fun M' p1 p2 => K M' p1 ?_)
    rw [mvL, eR, eq, nI_clamp (by omega), nI_clamp (by omega)]
    exact p2
theorem L10_rk70 {d : Nat} {T : TV} {np nb nn : Nat} (hT : WT T np nb nn) {V : CV} {s0 : Nat → Int32} {A0 : Nat → Nat → Int32} {M0 : Nat → MR} (hR0 : RT A0 T np nb nn) (hC : CR False np nb nn (M0 0) V) (h48 : s0 48 = 0) {c n : Nat} {R : Nat → Int32} (hn : n < 1000) : ∀ (g w : Nat) (P : Nat × Nat) (s : Nat → Int32) (A : Nat → Nat → Int32) (L : LL) (M : Nat → MR), w + g = 4 ^ c → PX s0 A0 M0 s A M → RR V nb s A c R → ((w = 0 ∧ s 52 = -1 ∧ P = (11, 0)) ∨ (s 52 = nI P.1 ∧ s 53 = nI P.2 ∧ P.1 ≤ 10)) → rkM (rkF T V nb nn R c n) g w P = rkM (rkF T V nb nn R c n) (4 ^ c) 0 (11, 0) →
    J m10_layRacks (d + 7) 0 0 40 70 [(0, .ref 0), (1, .int (nI n)), (2, .int (nI w))] [] (modW s A L M) 0 0 (fun r w' => r = none ∧ ∃ s' A' L' M', w' = modW s' A' L' M' ∧ PX s0 A0 M0 s' A' M' ∧ s' 51 = nI c ∧ s' 52 = nI (rkM (rkF T V nb nn R c n) (4 ^ c) 0 (11, 0)).1 ∧ s' 53 = nI (rkM (rkF T V nb nn R c n) (4 ^ c) 0 (11, 0)).2) := by
  have hnb := hT.2.2.2.2.1
  have hnp := hT.2.2.2.1
  intro g
  induction g with
  | zero =>
    intro w P s A L M hw hP hc hO eP
    have hc4 := hc.2.1
    have hp4 : 4 ^ c ≤ 4 ^ 4 := Nat.pow_le_pow_right (by decide) hc4
    have hp0 : 0 < 4 ^ c := Nat.pow_pos (by decide)
    rcases hO with ⟨h0, -, -⟩ | ⟨h52, h53, hP1⟩
    · omega
    · refine J_iload_n (pc := 70) D10_layRacks_70 rfl ?_
      refine J_iconst (pc := 71) (v := (nI 1)) D10_layRacks_71 (by decide) ?_
      refine J_iconst (pc := 72) (v := (nI 2)) D10_layRacks_72 (by decide) ?_
      refine J_aload_n (pc := 73) D10_layRacks_73 rfl ?_
      refine J_getf (pc := 74) D10_layRacks_74 fl10_444 rfl rfl ?_
      refine J_imul (pc := 77) D10_layRacks_77 ?_
      refine J_ishl (pc := 78) D10_layRacks_78 ?_
      rw [hc.1, sh4 c (by omega)]
      refine J_icmp_ge (pc := 79) (tgt := 186) D10_layRacks_79 (by decide) (fun h79 => ?_) (fun h79 => absurd (nI_le (by omega) (by omega)) h79)
      refine J_vret (pc := 186) D10_layRacks_186 rfl ?_
      refine ⟨rfl, s, A, L, M, rfl, hP, hc.1, ?_, ?_⟩
      · rw [← eP]; exact h52
      · rw [← eP]; exact h53
  | succ g ih =>
    intro w P s A L M hw hP hc hO eP
    have hc4 := hc.2.1
    have hp4 : 4 ^ c ≤ 4 ^ 4 := Nat.pow_le_pow_right (by decide) hc4
    have hR := hP.rt hR0
    have e48 : s 48 = 0 := (hP.1 48 (by decide) (by decide) (by decide) (by decide) (by decide) (by decide)).trans h48
    have hV : CR False np nb nn (M 0) V := by rw [hP.2.2 0 (by decide)]; exact hC
    have hFl := rkF_le (T := T) (V := V) (nb := nb) (nn := nn) (R := R) (c := c) (n := n) (w := w)
    rcases hO with ⟨h0, h52, hP0⟩ | ⟨h52, h53, hP1⟩
    · refine J_iload_n (pc := 70) D10_layRacks_70 rfl ?_
      refine J_iconst (pc := 71) (v := (nI 1)) D10_layRacks_71 (by decide) ?_
      refine J_iconst (pc := 72) (v := (nI 2)) D10_layRacks_72 (by decide) ?_
      refine J_aload_n (pc := 73) D10_layRacks_73 rfl ?_
      refine J_getf (pc := 74) D10_layRacks_74 fl10_444 rfl rfl ?_
      refine J_imul (pc := 77) D10_layRacks_77 ?_
      refine J_ishl (pc := 78) D10_layRacks_78 ?_
      rw [hc.1, sh4 c (by omega)]
      refine J_icmp_ge (pc := 79) (tgt := 186) D10_layRacks_79 (by decide) (fun h79 => absurd h79 (nI_ge (by omega) (by omega))) (fun h79 => ?_)
      refine J_aload_n (pc := 82) D10_layRacks_82 rfl ?_
      refine J_iconst (pc := 83) (v := (nI 1)) D10_layRacks_83 (by decide) ?_
      refine J_iconst (pc := 84) (v := (nI 0)) D10_layRacks_84 (by decide) ?_
      refine J_callVT (pc := 85) (ac := [.int _, .int _]) D10_layRacks_85 m10_copies_v t1655 (c10_copies (d := d) (t := 1) (a := 0) (by decide) (by decide) (by decide)) (by omega) rfl rfl rfl rfl rfl rfl rfl (fun r w' hq hl => ?_)
      obtain ⟨rfl, M2, rfl, hM2, hE2⟩ := hq
      have hX2 : CR False np nb nn (M2 1) V := hV.eqR hE2 hnp hnb
      refine J_iconst (pc := 88) (v := (nI 0)) D10_layRacks_88 (by decide) ?_
      refine J_istore_n (pc := 89) D10_layRacks_89 rfl ?_
      refine L10_rk90 (M0 := M) hnb hc c 0 V M2 (by omega) rfl hM2 hX2 (fun M3 hM3 hX3 => ?_)
      refine J_aload_n (pc := 132) D10_layRacks_132 rfl ?_
      refine J_iload_n (pc := 133) D10_layRacks_133 rfl ?_
      refine J_callVT (pc := 134) (ac := [.int _]) D10_layRacks_134 m10_goesOn_v t1718 (c10_goesOn (d := d) hR hT hX3 (RY.y1 e48) (by omega)) (by omega) rfl rfl rfl rfl rfl rfl rfl (fun r w' hq hl => ?_)
      obtain ⟨rfl, s4, A4, L4, M4, rfl, hs4, hM4, hC4⟩ := hq
      have hR4 := hs4.rt hR
      have hV4 : CR False np nb nn (M4 0) V := by rw [hM4 0 (by decide), hM3 0 (by decide)]; exact hV
      have e52 : s4 52 = -1 := (hs4.1 52 (by decide)).trans h52
      have hc4x : RR V nb s4 A4 c R := hc.c (hs4.1 51 (by decide)) (hs4.2 50 (by decide))
      have hP4 : PX s0 A0 M0 s4 A4 M4 := hP.tr (PX.sc hs4 (fun i hi => (hM4 i hi).trans (hM3 i hi)))
      refine J_aload_n (pc := 137) D10_layRacks_137 rfl ?_
      refine J_iconst (pc := 138) (v := (nI 1)) D10_layRacks_138 (by decide) ?_
      refine J_iconst (pc := 139) (v := (nI 2)) D10_layRacks_139 (by decide) ?_
      refine J_callVTR (pc := 140) (ac := [.int _, .int _]) D10_layRacks_140 m10_manyOf_v t1722 (c10_manyOf (d := d + 6) (c := 1) hR4 hT (by decide)) (by omega) rfl rfl rfl rfl (fun _ => rfl) rfl rfl rfl ?_
      refine J_aload_n (pc := 143) D10_layRacks_143 rfl ?_
      refine J_iconst (pc := 144) (v := (nI 0)) D10_layRacks_144 (by decide) ?_
      refine J_iconst (pc := 145) (v := (nI 2)) D10_layRacks_145 (by decide) ?_
      refine J_callVTR (pc := 146) (ac := [.int _, .int _]) D10_layRacks_146 m10_manyOf_v t1722 (c10_manyOf (d := d + 6) (c := 0) hR4 hT (by decide)) (by omega) rfl rfl rfl rfl (fun _ => rfl) rfl rfl rfl ?_
      have eF : nI (cnN (mnP (M4 1) (nI 2)) nb) - nI (cnN (mnP (M4 0) (nI 2)) nb) = nI (rkF T V nb nn R c n w) := by
        rw [off_e hC4 hnb, off_e hV4 hnb]
        exact offN_s (by have := oN_passN (T := T) (y := y1) (nb := nb) (nn := nn) n (mvL R (nI w) c c 0 V); rw [oN_3 (mvL_3 _ _ _)] at this; exact this)
      refine J_isub (pc := 149) D10_layRacks_149 ?_
      refine J_istore_n (pc := 150) D10_layRacks_150 rfl ?_
      refine J_lk [(0, .ref 0), (1, .int (nI n)), (2, .int (nI w)), (3, .int (nI (rkF T V nb nn R c n w)))] (by rw [eF]; rfl) ?_
      refine J_aload_n (pc := 151) D10_layRacks_151 rfl ?_
      refine J_getf (pc := 152) D10_layRacks_152 fl10_447 rfl rfl ?_
      refine J_iconst (pc := 155) (v := (-1)) D10_layRacks_155 (by decide) ?_
      rw [e52]
      refine J_icmp_eq (pc := 156) (tgt := 170) D10_layRacks_156 (by decide) (fun h156 => ?_) (fun h156 => absurd rfl h156)
      refine J_aload_n (pc := 170) D10_layRacks_170 rfl ?_
      refine J_iload_n (pc := 171) D10_layRacks_171 rfl ?_
      refine J_mput (pc := 172) D10_layRacks_172 fp10_447 ms_52 ?_
      refine J_aload_n (pc := 175) D10_layRacks_175 rfl ?_
      refine J_iload_n (pc := 176) D10_layRacks_176 rfl ?_
      refine J_mput (pc := 177) D10_layRacks_177 fp10_450 ms_53 ?_
      refine J_iinc (pc := 180) D10_layRacks_180 rfl (nI_inc _) rfl ?_
      refine J_goto (pc := 183) (tgt := 70) D10_layRacks_183 (by decide) ?_
      refine J_lk [(0, .ref 0), (1, .int (nI n)), (2, .int (nI (w + 1)))] rfl ?_
      refine ih (w + 1) (rkF T V nb nn R c n w, w) _ _ _ _ (by omega) (hP4.tr ⟨fun k _ _ _ a b _ => (updI_n b).trans (updI_n a), fun _ _ _ _ _ _ => rfl, fun _ _ => rfl⟩) (hc4x.c rfl rfl) (Or.inr ⟨rfl, rfl, hFl⟩) ?_
      rw [← eP, rkM, if_pos (by rw [hP0]; show _ < 11; omega)]
    · refine J_iload_n (pc := 70) D10_layRacks_70 rfl ?_
      refine J_iconst (pc := 71) (v := (nI 1)) D10_layRacks_71 (by decide) ?_
      refine J_iconst (pc := 72) (v := (nI 2)) D10_layRacks_72 (by decide) ?_
      refine J_aload_n (pc := 73) D10_layRacks_73 rfl ?_
      refine J_getf (pc := 74) D10_layRacks_74 fl10_444 rfl rfl ?_
      refine J_imul (pc := 77) D10_layRacks_77 ?_
      refine J_ishl (pc := 78) D10_layRacks_78 ?_
      rw [hc.1, sh4 c (by omega)]
      refine J_icmp_ge (pc := 79) (tgt := 186) D10_layRacks_79 (by decide) (fun h79 => absurd h79 (nI_ge (by omega) (by omega))) (fun h79 => ?_)
      refine J_aload_n (pc := 82) D10_layRacks_82 rfl ?_
      refine J_iconst (pc := 83) (v := (nI 1)) D10_layRacks_83 (by decide) ?_
      refine J_iconst (pc := 84) (v := (nI 0)) D10_layRacks_84 (by decide) ?_
      refine J_callVT (pc := 85) (ac := [.int _, .int _]) D10_layRacks_85 m10_copies_v t1655 (c10_copies (d := d) (t := 1) (a := 0) (by decide) (by decide) (by decide)) (by omega) rfl rfl rfl rfl rfl rfl rfl (fun r w' hq hl => ?_)
      obtain ⟨rfl, M2, rfl, hM2, hE2⟩ := hq
      have hX2 : CR False np nb nn (M2 1) V := hV.eqR hE2 hnp hnb
      refine J_iconst (pc := 88) (v := (nI 0)) D10_layRacks_88 (by decide) ?_
      refine J_istore_n (pc := 89) D10_layRacks_89 rfl ?_
      refine L10_rk90 (M0 := M) hnb hc c 0 V M2 (by omega) rfl hM2 hX2 (fun M3 hM3 hX3 => ?_)
      refine J_aload_n (pc := 132) D10_layRacks_132 rfl ?_
      refine J_iload_n (pc := 133) D10_layRacks_133 rfl ?_
      refine J_callVT (pc := 134) (ac := [.int _]) D10_layRacks_134 m10_goesOn_v t1718 (c10_goesOn (d := d) hR hT hX3 (RY.y1 e48) (by omega)) (by omega) rfl rfl rfl rfl rfl rfl rfl (fun r w' hq hl => ?_)
      obtain ⟨rfl, s4, A4, L4, M4, rfl, hs4, hM4, hC4⟩ := hq
      have hR4 := hs4.rt hR
      have hV4 : CR False np nb nn (M4 0) V := by rw [hM4 0 (by decide), hM3 0 (by decide)]; exact hV
      have e52 : s4 52 = nI P.1 := (hs4.1 52 (by decide)).trans h52
      have hc4x : RR V nb s4 A4 c R := hc.c (hs4.1 51 (by decide)) (hs4.2 50 (by decide))
      have hP4 : PX s0 A0 M0 s4 A4 M4 := hP.tr (PX.sc hs4 (fun i hi => (hM4 i hi).trans (hM3 i hi)))
      refine J_aload_n (pc := 137) D10_layRacks_137 rfl ?_
      refine J_iconst (pc := 138) (v := (nI 1)) D10_layRacks_138 (by decide) ?_
      refine J_iconst (pc := 139) (v := (nI 2)) D10_layRacks_139 (by decide) ?_
      refine J_callVTR (pc := 140) (ac := [.int _, .int _]) D10_layRacks_140 m10_manyOf_v t1722 (c10_manyOf (d := d + 6) (c := 1) hR4 hT (by decide)) (by omega) rfl rfl rfl rfl (fun _ => rfl) rfl rfl rfl ?_
      refine J_aload_n (pc := 143) D10_layRacks_143 rfl ?_
      refine J_iconst (pc := 144) (v := (nI 0)) D10_layRacks_144 (by decide) ?_
      refine J_iconst (pc := 145) (v := (nI 2)) D10_layRacks_145 (by decide) ?_
      refine J_callVTR (pc := 146) (ac := [.int _, .int _]) D10_layRacks_146 m10_manyOf_v t1722 (c10_manyOf (d := d + 6) (c := 0) hR4 hT (by decide)) (by omega) rfl rfl rfl rfl (fun _ => rfl) rfl rfl rfl ?_
      have eF : nI (cnN (mnP (M4 1) (nI 2)) nb) - nI (cnN (mnP (M4 0) (nI 2)) nb) = nI (rkF T V nb nn R c n w) := by
        rw [off_e hC4 hnb, off_e hV4 hnb]
        exact offN_s (by have := oN_passN (T := T) (y := y1) (nb := nb) (nn := nn) n (mvL R (nI w) c c 0 V); rw [oN_3 (mvL_3 _ _ _)] at this; exact this)
      refine J_isub (pc := 149) D10_layRacks_149 ?_
      refine J_istore_n (pc := 150) D10_layRacks_150 rfl ?_
      refine J_lk [(0, .ref 0), (1, .int (nI n)), (2, .int (nI w)), (3, .int (nI (rkF T V nb nn R c n w)))] (by rw [eF]; rfl) ?_
      refine J_aload_n (pc := 151) D10_layRacks_151 rfl ?_
      refine J_getf (pc := 152) D10_layRacks_152 fl10_447 rfl rfl ?_
      refine J_iconst (pc := 155) (v := (-1)) D10_layRacks_155 (by decide) ?_
      rw [e52]
      refine J_icmp_eq (pc := 156) (tgt := 170) D10_layRacks_156 (by decide) (fun h156 => absurd h156 (nI_nm (by omega))) (fun h156 => ?_)
      refine J_iload_n (pc := 159) D10_layRacks_159 rfl ?_
      refine J_aload_n (pc := 160) D10_layRacks_160 rfl ?_
      refine J_getf (pc := 161) D10_layRacks_161 fl10_447 rfl rfl ?_
      rw [e52]
      refine J_icmp_lt (pc := 164) (tgt := 170) D10_layRacks_164 (by decide) (fun h164 => ?_) (fun h164 => ?_)
      · have h164' := Int32.not_le.mpr h164
        refine J_aload_n (pc := 170) D10_layRacks_170 rfl ?_
        refine J_iload_n (pc := 171) D10_layRacks_171 rfl ?_
        refine J_mput (pc := 172) D10_layRacks_172 fp10_447 ms_52 ?_
        refine J_aload_n (pc := 175) D10_layRacks_175 rfl ?_
        refine J_iload_n (pc := 176) D10_layRacks_176 rfl ?_
        refine J_mput (pc := 177) D10_layRacks_177 fp10_450 ms_53 ?_
        refine J_iinc (pc := 180) D10_layRacks_180 rfl (nI_inc _) rfl ?_
        refine J_goto (pc := 183) (tgt := 70) D10_layRacks_183 (by decide) ?_
        refine J_lk [(0, .ref 0), (1, .int (nI n)), (2, .int (nI (w + 1)))] rfl ?_
        refine ih (w + 1) (rkF T V nb nn R c n w, w) _ _ _ _ (by omega) (hP4.tr ⟨fun k _ _ _ a b _ => (updI_n b).trans (updI_n a), fun _ _ _ _ _ _ => rfl, fun _ _ => rfl⟩) (hc4x.c rfl rfl) (Or.inr ⟨rfl, rfl, hFl⟩) ?_
        rw [← eP, rkM, if_pos (Nat.not_le.mp (fun q => absurd h164 (Int32.not_lt.mpr (nI_le q (by omega)))))]
      · have h164' := Int32.not_lt.mp h164
        refine J_goto (pc := 167) (tgt := 180) D10_layRacks_167 (by decide) ?_
        refine J_iinc (pc := 180) D10_layRacks_180 rfl (nI_inc _) rfl ?_
        refine J_goto (pc := 183) (tgt := 70) D10_layRacks_183 (by decide) ?_
        refine J_lk [(0, .ref 0), (1, .int (nI n)), (2, .int (nI (w + 1)))] rfl ?_
        refine ih (w + 1) P _ _ _ _ (by omega) hP4 hc4x (Or.inr ⟨e52, (hs4.1 53 (by decide)).trans h53, hP1⟩) ?_
        rw [← eP, rkM, if_neg (fun q => h164 (Int32.not_le.mp (nI_ge q (by omega))))]
theorem c10_layRacks {d : Nat} {s : Nat → Int32} {A : Nat → Nat → Int32} {L : LL} {M : Nat → MR} {T : TV} {np nb nn : Nat} (hR : RT A T np nb nn) (hT : WT T np nb nn) {V : CV} (hC : CR False np nb nn (M 0) V) (h48 : s 48 = 0) {n : Nat} (hn : n < 1000) {R : Nat → Int32} : Tr (d + 7) 0 0 m10_layRacks [.ref 0, .int (nI n)] (modW s A L M) (fun r w' => r = none ∧ ∃ s' A' L' M', w' = modW s' A' L' M' ∧ PX s A M s' A' M' ∧ s' 51 = nI (frL V nb 0 0 R).1 ∧ s' 52 = nI (rkM (rkF T V nb nn (frL V nb 0 0 R).2 (frL V nb 0 0 R).1 n) (4 ^ (frL V nb 0 0 R).1) 0 (11, 0)).1 ∧ s' 53 = nI (rkM (rkF T V nb nn (frL V nb 0 0 R).2 (frL V nb 0 0 R).1 n) (4 ^ (frL V nb 0 0 R).1) 0 (11, 0)).2) := by
  refine Tr.intro (by decide) rfl ?_
  refine J_aload_n (pc := 0) D10_layRacks_0 rfl ?_
  refine J_iconst (pc := 1) (v := (nI 0)) D10_layRacks_1 (by decide) ?_
  refine J_mput (pc := 2) D10_layRacks_2 fp10_444 ms_51 ?_
  refine J_iconst (pc := 5) (v := (nI 0)) D10_layRacks_5 (by decide) ?_
  refine J_istore_n (pc := 6) D10_layRacks_6 rfl ?_
  refine L10_rk7 hT hC hR (s0 := s) (A0 := A) nb 0 0 R (updI s 51 (nI 0)) A (by omega) ⟨fun k _ _ a _ _ _ => updI_n a, fun _ _ _ _ _ _ => rfl, fun _ _ => rfl⟩ ⟨updI_s, by omega, fun i hi => absurd hi (by omega)⟩ (fun s1 A1 hP1 hc1 => ?_)
  refine J_aload_n (pc := 63) D10_layRacks_63 rfl ?_
  refine J_iconst (pc := 64) (v := (-1)) D10_layRacks_64 (by decide) ?_
  refine J_mput (pc := 65) D10_layRacks_65 fp10_447 ms_52 ?_
  refine J_iconst (pc := 68) (v := (nI 0)) D10_layRacks_68 (by decide) ?_
  refine J_istore_n (pc := 69) D10_layRacks_69 rfl ?_
  refine L10_rk70 hT hR hC h48 hn (4 ^ (frL V nb 0 0 R).1) 0 (11, 0) _ A1 L M (by omega) (hP1.tr ⟨fun k _ _ _ a _ _ => updI_n a, fun _ _ _ _ _ _ => rfl, fun _ _ => rfl⟩) (hc1.c rfl rfl) (Or.inl ⟨rfl, updI_s, rfl⟩) rfl
theorem c10_racking {d : Nat} {s : Nat → Int32} {A : Nat → Nat → Int32} {L : LL} {M : Nat → MR} {T : TV} {np nb nn : Nat} (hR : RT A T np nb nn) (hT : WT T np nb nn) {V : CV} (hC : CR False np nb nn (M 0) V) (h48 : s 48 = 0) {n x : Int32} {R : Nat → Int32} : Tr (d + 8) 0 0 m10_racking [.ref 0, .int n, .int x] (modW s A L M) (mR s A M (.int (rgF T V nb nn R n x))) := by
  have hnb := hT.2.2.2.2.1
  have hnp := hT.2.2.2.1
  have hnn := hT.2.2.2.2.2.1
  refine Tr.intro (by decide) rfl ?_
  refine J_aload_n (pc := 0) D10_racking_0 rfl ?_
  refine J_iconst (pc := 1) (v := (nI 0)) D10_racking_1 (by decide) ?_
  refine J_mput (pc := 2) D10_racking_2 fp10_139 ms_0 ?_
  refine J_iload_n (pc := 5) D10_racking_5 rfl ?_
  refine J_iconst (pc := 6) (v := (nI 1)) D10_racking_6 (by decide) ?_
  refine J_icmp_lt (pc := 7) (tgt := 25) D10_racking_7 (by decide) (fun h7 => ?_) (fun h7 => ?_)
  · have h7' := Int32.not_le.mpr h7
    refine J_iconst (pc := 25) (v := (-1)) D10_racking_25 (by decide) ?_
    refine J_iret (pc := 26) D10_racking_26 rfl ?_
    exact ⟨congrArg (fun q => some (Value.int q)) (by rw [rgF, if_neg (fun z => absurd z.1.1 (Int32.not_le.mpr h7))]), _, _, _, _, rfl, PX.s0⟩
  · have h7' := Int32.not_lt.mp h7
    refine J_iload_n (pc := 10) D10_racking_10 rfl ?_
    refine J_bipush (pc := 11) (v := (nI 60)) D10_racking_11 (by decide) ?_
    refine J_icmp_gt (pc := 13) (tgt := 25) D10_racking_13 (by decide) (fun h13 => ?_) (fun h13 => ?_)
    · have h13' := Int32.not_le.mpr h13
      refine J_iconst (pc := 25) (v := (-1)) D10_racking_25 (by decide) ?_
      refine J_iret (pc := 26) D10_racking_26 rfl ?_
      exact ⟨congrArg (fun q => some (Value.int q)) (by rw [rgF, if_neg (fun z => absurd z.1.2 (Int32.not_le.mpr h13))]), _, _, _, _, rfl, PX.s0⟩
    · have h13' := Int32.not_lt.mp h13
      refine J_iload_n (pc := 16) D10_racking_16 rfl ?_
      refine J_if_lt (pc := 17) (tgt := 25) D10_racking_17 (by decide) (fun h17 => ?_) (fun h17 => ?_)
      · have h17' := Int32.not_le.mpr h17
        refine J_iconst (pc := 25) (v := (-1)) D10_racking_25 (by decide) ?_
        refine J_iret (pc := 26) D10_racking_26 rfl ?_
        exact ⟨congrArg (fun q => some (Value.int q)) (by rw [rgF, if_neg (fun z => ixB_0 h17 z.2)]), _, _, _, _, rfl, PX.s0⟩
      · have h17' := Int32.not_lt.mp h17
        refine J_iload_n (pc := 20) D10_racking_20 rfl ?_
        refine J_iconst (pc := 21) (v := (nI 4)) D10_racking_21 (by decide) ?_
        refine J_icmp_le (pc := 22) (tgt := 27) D10_racking_22 (by decide) (fun h22 => ?_) (fun h22 => ?_)
        · have h22' := Int32.not_lt.mpr h22
          refine J_aload_n (pc := 27) D10_racking_27 rfl ?_
          refine J_iload_n (pc := 28) D10_racking_28 rfl ?_
          have h7' : nI 1 ≤ n := Int32.not_lt.mp h7
          have h13' : n ≤ nI 60 := Int32.not_lt.mp h13
          have hx5 := ixB_in (n := 4) (by decide) h17 h22
          obtain ⟨n1, hn1, rfl⟩ := ixB_t (n := 61) (ixB_in (n := 60) (by decide) (fun q => absurd (Int32.lt_of_lt_of_le (show (0 : Int32) < nI 1 by decide) h7') (Int32.not_lt.mpr (Int32.le_of_lt q))) h13') (by decide)
          obtain ⟨x1, hx1, rfl⟩ := ixB_t hx5 (by decide)
          have eG : rgF T V nb nn R (nI n1) (nI x1) = rgR T V nb nn (frL V nb 0 0 R).1 n1 (frL V nb 0 0 R).2 (nI x1) := by rw [rgF, if_pos ⟨⟨h7', h13'⟩, hx5⟩, nI_clamp (by omega)]
          generalize ec : (frL V nb 0 0 R).1 = c at eG
          generalize eR : (frL V nb 0 0 R).2 = R2 at eG
          refine J_callVT (pc := 29) (ac := [.int _]) D10_racking_29 m10_layRacks_v t1750 (c10_layRacks (d := d) (s := updI s 0 (nI 0)) (R := R) hR hT hC (by rw [updI_n (by decide)]; exact h48) (by omega)) (by omega) rfl rfl rfl rfl rfl rfl rfl (fun r w' hq hl => ?_)
          rw [ec, eR] at hq
          obtain ⟨rfl, s2, A2, L2, M2, rfl, hP2, e51, e52, e53⟩ := hq
          have eL := rgL_e (T := T) (V := V) (nb := nb) (nn := nn) (R := R2) (c := c) (n := n1) (4 ^ c) 0 (11, 0) (by show 11 ≤ 11; omega)
          have hPx := PX.s0.tr hP2
          refine J_iload_n (pc := 32) D10_racking_32 rfl ?_
          refine J_iconst (pc := 33) (v := (nI 4)) D10_racking_33 (by decide) ?_
          refine J_icmp_ne (pc := 34) (tgt := 42) D10_racking_34 (by decide) (fun h34 => ?_) (fun h34 => ?_)
          · refine J_iload_n (pc := 42) D10_racking_42 rfl ?_
            refine J_aload_n (pc := 43) D10_racking_43 rfl ?_
            refine J_getf (pc := 44) D10_racking_44 fl10_444 rfl rfl ?_
            refine J_icmp_ge (pc := 47) (tgt := 70) D10_racking_47 (by decide) (fun h47 => ?_) (fun h47 => ?_)
            · have h47' := Int32.not_lt.mpr h47
              refine J_bipush (pc := 70) (v := (-2)) D10_racking_70 (by decide) ?_
              refine J_iret (pc := 72) D10_racking_72 rfl ?_
              exact ⟨congrArg (fun q => some (Value.int q)) (by rw [eG, rgR, if_pos ⟨Int32.lt_of_le_of_ne h22 h34, (e51 ▸ h47)⟩]), _, _, _, _, rfl, hPx⟩
            · have h47' := Int32.not_le.mp h47
              refine J_aload_n (pc := 50) D10_racking_50 rfl ?_
              refine J_getf (pc := 51) D10_racking_51 fl10_450 rfl rfl ?_
              refine J_iconst (pc := 54) (v := (nI 2)) D10_racking_54 (by decide) ?_
              refine J_aload_n (pc := 55) D10_racking_55 rfl ?_
              refine J_getf (pc := 56) D10_racking_56 fl10_444 rfl rfl ?_
              refine J_iconst (pc := 59) (v := (nI 1)) D10_racking_59 (by decide) ?_
              refine J_isub (pc := 60) D10_racking_60 ?_
              refine J_iload_n (pc := 61) D10_racking_61 rfl ?_
              refine J_isub (pc := 62) D10_racking_62 ?_
              refine J_imul (pc := 63) D10_racking_63 ?_
              refine J_ishr (pc := 64) D10_racking_64 ?_
              refine J_iconst (pc := 65) (v := (nI 3)) D10_racking_65 (by decide) ?_
              refine J_iand (pc := 66) D10_racking_66 ?_
              refine J_goto (pc := 67) (tgt := 72) D10_racking_67 (by decide) ?_
              refine J_iret (pc := 72) D10_racking_72 rfl ?_
              exact ⟨congrArg (fun q => some (Value.int q)) (by rw [eG, rgR, if_neg (fun z => h47 (by rw [e51]; exact z.2)), rgE, if_neg h34, byW, ← e51, ← show s2 53 = _ from e53.trans (congrArg Prod.snd eL).symm]), _, _, _, _, rfl, hPx⟩
          · have h34' := eq_true h34
            refine J_aload_n (pc := 37) D10_racking_37 rfl ?_
            refine J_getf (pc := 38) D10_racking_38 fl10_447 rfl rfl ?_
            refine J_iret (pc := 41) D10_racking_41 rfl ?_
            exact ⟨congrArg (fun q => some (Value.int q)) (by rw [eG, rgR, if_neg (fun z => absurd z.1 (by rw [h34]; decide)), rgE, if_pos h34]; exact e52.trans (congrArg Prod.fst eL).symm), _, _, _, _, rfl, hPx⟩
        · have h22' := Int32.not_le.mp h22
          refine J_iconst (pc := 25) (v := (-1)) D10_racking_25 (by decide) ?_
          refine J_iret (pc := 26) D10_racking_26 rfl ?_
          exact ⟨congrArg (fun q => some (Value.int q)) (by rw [rgF, if_neg (fun z => ixB_gt (n := 4) (by decide) (Int32.not_le.mp h22) z.2)]), _, _, _, _, rfl, PX.s0⟩
