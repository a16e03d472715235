/-! THE MODEL: serve, served (own program mod_p3.py) -/
/-- the year, and which needs are still to come -/
def YI (T : TV) (V : CV) (nn : Nat) : Prop := ∃ y, y ≤ 9900 ∧ V.1 = nI y ∧ ∀ n, n < nn → ∃ v, v ≤ 99 ∧ T.2.1 12 n = nI v ∧ (V.2.2.2 5 n = -1 ↔ y ≤ v)
def lyM (V : CV) : Int32 := bitsF (V.2.2.2 3) (nI 0) 10
/-- what is free, others used -/
def frU (V : CV) (u : Nat) : Int32 := lyM V &&& (nI u ^^^ -1)
theorem hb_n {u b : Nat} (hb9 : b < 31) : hb (nI u) b = u.testBit b := by
  rw [hb_l hb9, show (nI u).toBitVec = BitVec.ofNat 32 u from rfl, BitVec.getLsbD_ofNat, decide_eq_true (show b < 32 by omega), Bool.true_and]
theorem hb_ly {V : CV} {b : Nat} (hb9 : b < 10) : hb (lyM V) b = decide (V.2.2.2 3 b = 0) := by
  unfold lyM
  rw [bitsF_e 10 (by omega), hb_n (by omega), bN_tb, decide_eq_true hb9, Bool.true_and]
  rfl
theorem hb_fr {V : CV} {u b : Nat} (hb9 : b < 10) : hb (frU V u) b = (decide (V.2.2.2 3 b = 0) && !u.testBit b) := by
  unfold frU
  rw [hb_l (by omega), Int32.toBitVec_and, BitVec.getLsbD_and, Int32.toBitVec_xor, BitVec.getLsbD_xor, m1_bv, BitVec.getLsbD_allOnes, decide_eq_true (show b < 32 by omega), ← hb_l (by omega), ← hb_l (by omega), hb_ly hb9, hb_n (by omega)]
  cases u.testBit b <;> rfl
theorem tb_or {u b m : Nat} : (u ||| 2 ^ b).testBit m = (u.testBit m || decide (m = b)) := by
  rw [Nat.testBit_or, Nat.testBit_two_pow]
  congr 1
  exact decide_eq_decide.mpr ⟨fun h => h.symm, fun h => h.symm⟩
theorem fr_or {V : CV} {u b m : Nat} (hb9 : b < 10) (hm : m < 10) : hb (frU V (u ||| 2 ^ b)) m = hb (frU V u &&& (bt b ^^^ -1)) m := by
  rw [hb_fr hm, hb_cl (by omega) (by omega), hb_fr hm, tb_or]
  cases decide (V.2.2.2 3 m = 0) <;> cases u.testBit m <;> cases decide (m = b) <;> rfl
theorem fr_0 {V : CV} {m : Nat} (hm : m < 10) : hb (frU V 0) m = hb (lyM V) m := by
  rw [hb_fr hm, hb_ly hm, Nat.zero_testBit]
  cases decide (V.2.2.2 3 m = 0) <;> rfl
abbrev FT (T : TV) (V : CV) (n b : Nat) : Prop := V.2.2.2 3 b = 0 ∧ (T.2.1 13 n ≤ V.2.2.2 1 b ∧ V.2.2.2 1 b ≤ T.2.1 14 n)
theorem ftB_u {T : TV} {V : CV} {n b u : Nat} (hm : V.2.2.2 5 n = -1) (hb9 : b < 10) : ftB T V n b (frU V u) = true ↔ (u.testBit b = false ∧ FT T V n b) := by
  rw [ftB_e, hb_fr hb9, Bool.and_eq_true_iff, decide_eq_true_iff]
  constructor
  · rintro ⟨-, ⟨h1, h2⟩, h3⟩
    refine ⟨?_, h1, h3⟩
    cases hv : u.testBit b with
    | false => rfl
    | true => rw [hv] at h2; cases h2
  · rintro ⟨h1, h2, h3⟩
    exact ⟨hm, ⟨h2, by rw [h1]; rfl⟩, h3⟩
theorem us_1 {u b : Nat} (hb9 : b < 31) : ((nI u >>> (nI b &&& 31)) &&& nI 1 = nI 1) ↔ u.testBit b = true := by
  rw [← hb_n hb9]
  unfold hb
  rw [decide_eq_true_iff]
  rcases and1 (nI u >>> (nI b &&& 31)) with h | h
  · rw [h]; decide
  · rw [h]; decide
theorem or_lt {u b : Nat} (hu : u < 1024) (hb9 : b < 10) : u ||| 2 ^ b < 1024 := Nat.or_lt_two_pow (n := 10) hu (Nat.pow_lt_pow_right (by decide) hb9)
theorem most_le8 {T : TV} {V : CV} {nb nn f : Nat} {fr : Int32} (h : nn ≤ 8) : mostF T V nb nn f fr ≤ 8 := Nat.le_trans mostF_le h
theorem imax_n {a b : Nat} (ha : a < 2 ^ 31) (hb9 : b < 2 ^ 31) : imax (nI a) (nI b) = nI (max a b) := by
  unfold imax
  by_cases h : a < b
  · rw [if_pos (Int32.not_le.mp (nI_ge h (by omega))), Nat.max_eq_right (by omega)]
  · rw [if_neg (Int32.not_lt.mpr (nI_le (by omega) (by omega))), Nat.max_eq_left (by omega)]
theorem most_gap {T : TV} {V : CV} {nb nn : Nat} {fr : Int32} (hnn : nn ≤ 8) (hnb : nb ≤ 10) : ∀ (g f : Nat), f + g ≤ nn → (∀ n, f ≤ n → n < f + g → ¬ V.2.2.2 5 n = -1) → mostF T V nb nn f fr = mostF T V nb nn (f + g) fr
  | 0, _, _, _ => rfl
  | g + 1, f, h, hm => by
    rw [most_sk hnn hnb (by omega) (hm f (by omega) (by omega)), most_gap hnn hnb g (f + 1) (by omega) (fun n h1 h2 => hm n (by omega) (by omega)), show f + 1 + g = f + (g + 1) by omega]
def tcU (tc : Nat → Nat) (cm f : Nat) : Nat → Nat := fun j => if j = cm then f else tc j
theorem tcU_s {tc : Nat → Nat} {cm f : Nat} : tcU tc cm f cm = f := if_pos rfl
theorem tcU_n {tc : Nat → Nat} {cm f j : Nat} (h : ¬ j = cm) : tcU tc cm f j = tc j := if_neg h
/-- the needs to come, of the first f -/
def TC (V : CV) (s : Nat → Int32) (A : Nat → Nat → Int32) (cm : Nat) (tc : Nat → Nat) (f : Nat) : Prop := s 55 = nI cm ∧ cm ≤ f ∧ (∀ j, j < cm → A 54 j = nI (tc j) ∧ tc j < f ∧ V.2.2.2 5 (tc j) = -1) ∧ (∀ i j, i < j → j < cm → tc i < tc j) ∧ ∀ n, n < f → V.2.2.2 5 n = -1 → ∃ j, j < cm ∧ tc j = n
def tcn (cm nn : Nat) (tc : Nat → Nat) (k : Nat) : Nat := if k < cm then tc k else nn
theorem TC.c {V : CV} {s s' : Nat → Int32} {A A' : Nat → Nat → Int32} {cm f : Nat} {tc : Nat → Nat} (h : TC V s A cm tc f) (e : s' 55 = s 55) (e2 : A' 54 = A 54) : TC V s' A' cm tc f := ⟨e.trans h.1, h.2.1, by rw [e2]; exact h.2.2⟩
theorem TC.sk {V : CV} {s : Nat → Int32} {A : Nat → Nat → Int32} {cm f : Nat} {tc : Nat → Nat} (h : TC V s A cm tc f) (hm : ¬ V.2.2.2 5 f = -1) : TC V s A cm tc (f + 1) := ⟨h.1, by have := h.2.1; omega, fun j hj => ⟨(h.2.2.1 j hj).1, by have := (h.2.2.1 j hj).2.1; omega, (h.2.2.1 j hj).2.2⟩, h.2.2.2.1, fun n hn hv => by
  by_cases e : n = f
  · rw [e] at hv; exact absurd hv hm
  · exact h.2.2.2.2 n (by omega) hv⟩
theorem TC.ad {V : CV} {s : Nat → Int32} {A : Nat → Nat → Int32} {cm f : Nat} {tc : Nat → Nat} (h : TC V s A cm tc f) (hm : V.2.2.2 5 f = -1) : TC V (updI s 55 (nI cm + nI 1)) (upA A 54 (upd (A 54) cm (nI f))) (cm + 1) (tcU tc cm f) (f + 1) := by
  obtain ⟨h1, h2, h3, h4, h5⟩ := h
  refine ⟨updI_s.trans (nI_add cm 1), by omega, fun j hj => ?_, fun i j hi hj => ?_, fun n hn hv => ?_⟩
  · rw [upA_s]
    by_cases e : j = cm
    · rw [e, tcU_s, pk_us]; exact ⟨rfl, by omega, hm⟩
    · rw [tcU_n e, pk_un e]; exact ⟨(h3 j (by omega)).1, by have := (h3 j (by omega)).2.1; omega, (h3 j (by omega)).2.2⟩
  · by_cases e : j = cm
    · rw [e, tcU_s, tcU_n (show ¬ i = cm by omega)]
      exact (h3 i (by omega)).2.1
    · rw [tcU_n e, tcU_n (show ¬ i = cm by omega)]
      exact h4 i j hi (by omega)
  · by_cases e : n = f
    · exact ⟨cm, by omega, by rw [tcU_s, e]⟩
    · obtain ⟨j, hj, ej⟩ := h5 n (by omega) hv
      exact ⟨j, by omega, by rw [tcU_n (show ¬ j = cm by omega)]; exact ej⟩
theorem TC.gap {V : CV} {s : Nat → Int32} {A : Nat → Nat → Int32} {cm nn : Nat} {tc : Nat → Nat} (h : TC V s A cm tc nn) {k : Nat} (hk : k < cm) : tc k + 1 ≤ tcn cm nn tc (k + 1) ∧ tcn cm nn tc (k + 1) ≤ nn ∧ ∀ n, tc k + 1 ≤ n → n < tcn cm nn tc (k + 1) → ¬ V.2.2.2 5 n = -1 := by
  obtain ⟨h1, h2, h3, h4, h5⟩ := h
  have hkk := (h3 k hk).2.1
  have hle : ∀ i j, i ≤ j → j < cm → tc i ≤ tc j := fun i j h1 h2 => by
    by_cases e : i = j
    · rw [e]; exact Nat.le_refl _
    · exact Nat.le_of_lt (h4 i j (by omega) h2)
  unfold tcn
  by_cases q : k + 1 < cm
  · rw [if_pos q]
    refine ⟨h4 k (k + 1) (by omega) q, Nat.le_of_lt (h3 (k + 1) q).2.1, fun n hn1 hn2 hv => ?_⟩
    obtain ⟨j, hj, ej⟩ := h5 n (by have := (h3 (k + 1) q).2.1; omega) hv
    by_cases z : j ≤ k
    · have := hle j k z hk; omega
    · have := hle (k + 1) j (by omega) hj; omega
  · rw [if_neg q]
    refine ⟨hkk, Nat.le_refl _, fun n hn1 hn2 hv => ?_⟩
    obtain ⟨j, hj, ej⟩ := h5 n hn2 hv
    have := hle j k (by omega) hk
    omega
theorem TC.gap0 {V : CV} {s : Nat → Int32} {A : Nat → Nat → Int32} {cm nn : Nat} {tc : Nat → Nat} (h : TC V s A cm tc nn) : tcn cm nn tc 0 ≤ nn ∧ ∀ n, n < tcn cm nn tc 0 → ¬ V.2.2.2 5 n = -1 := by
  obtain ⟨h1, h2, h3, h4, h5⟩ := h
  unfold tcn
  by_cases q : 0 < cm
  · rw [if_pos q]
    refine ⟨Nat.le_of_lt (h3 0 q).2.1, fun n hn hv => ?_⟩
    obtain ⟨j, hj, ej⟩ := h5 n (by have := (h3 0 q).2.1; omega) hv
    by_cases z : j = 0
    · rw [z] at ej; omega
    · have := h4 0 j (by omega) hj; omega
  · rw [if_neg q]
    refine ⟨Nat.le_refl _, fun n hn hv => ?_⟩
    obtain ⟨j, hj, ej⟩ := h5 n hn hv
    omega
/-- the table, from row k on -/
def TB (T : TV) (V : CV) (nb nn cm : Nat) (tc : Nat → Nat) (A : Nat → Nat → Int32) (k : Nat) : Prop := ∀ j, k ≤ j → j ≤ cm → ∀ u, u < 1024 → A 56 (1024 * j + u) = nI (mostF T V nb nn (tcn cm nn tc j) (frU V u))
theorem TB.nx {T : TV} {V : CV} {nb nn cm : Nat} {tc : Nat → Nat} {s : Nat → Int32} {A : Nat → Nat → Int32} {k : Nat} (h : TB T V nb nn cm tc A (k + 1)) (hk : k < cm) (hc : TC V s A cm tc nn) (hnn : nn ≤ 8) (hnb : nb ≤ 10) : ∀ u, u < 1024 → A 56 (1024 * (k + 1) + u) = nI (mostF T V nb nn (tc k + 1) (frU V u)) := fun u hu => by
  obtain ⟨g1, g2, g3⟩ := hc.gap hk
  rw [h (k + 1) (Nat.le_refl _) (by omega) u hu]
  have := most_gap (T := T) (V := V) (nb := nb) (fr := frU V u) hnn hnb (tcn cm nn tc (k + 1) - (tc k + 1)) (tc k + 1) (by omega) (fun n a b => g3 n a (by omega))
  rw [this, show tc k + 1 + (tcn cm nn tc (k + 1) - (tc k + 1)) = tcn cm nn tc (k + 1) by omega]
theorem c10_fits {d : Nat} {s : Nat → Int32} {A : Nat → Nat → Int32} {L : LL} {M : Nat → MR} {T : TV} {np nb nn : Nat} (hR : RT A T np nb nn) (hT : WT T np nb nn) {V : CV} (hC : CR False np nb nn (M 0) V) {n b : Nat} (hn : n < nn) (hb9 : b < nb) : TR (d + 1) m10_fits [.ref 0, .int (nI n), .int (nI b)] (modW s A L M) (.int (i01 (V.2.2.2 3 b = 0 ∧ (T.2.1 13 n ≤ V.2.2.2 1 b ∧ V.2.2.2 1 b ≤ T.2.1 14 n)))) := by
  have hnb := hT.2.2.2.2.1
  have hnp := hT.2.2.2.1
  have hnn := hT.2.2.2.2.2.1
  have ely := hC.ly hb9
  have e1 := (hC.2.2.2.1 b hb9).2.1
  obtain ⟨-, -, e14, e15⟩ := hR.2.2.2.2.2.2.2.2.1 n hn
  refine Tr.intro (by decide) rfl ?_
  refine J_aload_n (pc := 0) D10_fits_0 rfl ?_
  refine J_iconst (pc := 1) (v := (nI 0)) D10_fits_1 (by decide) ?_
  refine J_iload_n (pc := 2) D10_fits_2 rfl ?_
  refine J_callVTR (pc := 3) (ac := [.int _, .int _]) D10_fits_3 m10_isLying_v t1583 (c10_isLying (d := d) (c := 0) (b := b) (by decide) (by omega)) (by omega) rfl rfl rfl rfl (fun _ => rfl) rfl rfl rfl ?_
  refine J_if_eq (pc := 6) (tgt := 43) D10_fits_6 (by decide) (fun h6 => ?_) (fun h6 => ?_)
  · have h6' := eq_true h6
    replace h6 := i01_z h6
    refine J_iconst (pc := 43) (v := (nI 0)) D10_fits_43 (by decide) ?_
    refine J_zret (pc := 44) D10_fits_44 rfl (by decide) ?_
    exact ⟨rfl, congrArg (fun q => some (Value.int q)) (i01_f (fun q => h6 (ely.mpr q.1))).symm⟩
  · replace h6 := i01_nz h6
    refine J_aload_n (pc := 9) D10_fits_9 rfl ?_
    refine J_getf (pc := 10) D10_fits_10 fl10_87 rfl rfl ?_
    refine J_iload_n (pc := 13) D10_fits_13 rfl ?_
    refine J_mcld (pc := 14) (stp := 10) D10_fits_14 mc_1 (ix0 _ _) (by omega) (by omega) rfl ?_
    refine J_aload_n (pc := 15) D10_fits_15 rfl ?_
    refine J_getf (pc := 16) D10_fits_16 fl10_46 rfl rfl ?_
    refine J_iload_n (pc := 19) D10_fits_19 rfl ?_
    refine J_mald (pc := 20) D10_fits_20 ma_14 rfl (by omega) rfl ?_
    rw [e1, e14]
    refine J_icmp_lt (pc := 21) (tgt := 43) D10_fits_21 (by decide) (fun h21 => ?_) (fun h21 => ?_)
    · have h21' := Int32.not_le.mpr h21
      refine J_iconst (pc := 43) (v := (nI 0)) D10_fits_43 (by decide) ?_
      refine J_zret (pc := 44) D10_fits_44 rfl (by decide) ?_
      exact ⟨rfl, congrArg (fun q => some (Value.int q)) (i01_f (fun q => absurd q.2.1 (Int32.not_le.mpr h21))).symm⟩
    · have h21' := Int32.not_lt.mp h21
      refine J_aload_n (pc := 24) D10_fits_24 rfl ?_
      refine J_getf (pc := 25) D10_fits_25 fl10_87 rfl rfl ?_
      refine J_iload_n (pc := 28) D10_fits_28 rfl ?_
      refine J_mcld (pc := 29) (stp := 10) D10_fits_29 mc_1 (ix0 _ _) (by omega) (by omega) rfl ?_
      refine J_aload_n (pc := 30) D10_fits_30 rfl ?_
      refine J_getf (pc := 31) D10_fits_31 fl10_49 rfl rfl ?_
      refine J_iload_n (pc := 34) D10_fits_34 rfl ?_
      refine J_mald (pc := 35) D10_fits_35 ma_15 rfl (by omega) rfl ?_
      rw [e1, e15]
      refine J_icmp_gt (pc := 36) (tgt := 43) D10_fits_36 (by decide) (fun h36 => ?_) (fun h36 => ?_)
      · have h36' := Int32.not_le.mpr h36
        refine J_iconst (pc := 43) (v := (nI 0)) D10_fits_43 (by decide) ?_
        refine J_zret (pc := 44) D10_fits_44 rfl (by decide) ?_
        exact ⟨rfl, congrArg (fun q => some (Value.int q)) (i01_f (fun q => absurd q.2.2 (Int32.not_le.mpr h36))).symm⟩
      · have h36' := Int32.not_lt.mp h36
        refine J_iconst (pc := 39) (v := (nI 1)) D10_fits_39 (by decide) ?_
        refine J_goto (pc := 40) (tgt := 44) D10_fits_40 (by decide) ?_
        refine J_zret (pc := 44) D10_fits_44 rfl (by decide) ?_
        exact ⟨rfl, congrArg (fun q => some (Value.int q)) (i01_t ⟨ely.mp h6, Int32.not_lt.mp h21, Int32.not_lt.mp h36⟩).symm⟩
theorem L10_ls7 {d : Nat} {T : TV} {np nb nn : Nat} (hT : WT T np nb nn) {L : LL} {M : Nat → MR} {V : CV} (hC : CR False np nb nn (M 0) V) (hY : YI T V nn) {s0 : Nat → Int32} {A0 : Nat → Nat → Int32} (hR0 : RT A0 T np nb nn) {Q : Option Value → List EC → Prop} : ∀ (g n cm : Nat) (tc : Nat → Nat) (s : Nat → Int32) (A : Nat → Nat → Int32), n + g = nn → PX s0 A0 M s A M → TC V s A cm tc n →
    (∀ cm tc s A, PX s0 A0 M s A M → TC V s A cm tc nn → J m10_layServe (d + 2) 0 0 40 71 [(0, .ref 0)] [] (modW s A L M) 0 0 Q) → J m10_layServe (d + 2) 0 0 40 7 [(0, .ref 0), (1, .int (nI n))] [] (modW s A L M) 0 0 Q := by
  have hnn := hT.2.2.2.2.2.1
  obtain ⟨y, hy, eY, hN⟩ := hY
  have e0 := hC.1
  intro g
  induction g with
  | zero =>
    intro n cm tc s A hn hP hc K
    have hR := hP.rt hR0
    have e9 : n = nn := by omega
    subst e9
    refine J_iload_n (pc := 7) D10_layServe_7 rfl ?_
    refine J_aload_n (pc := 8) D10_layServe_8 rfl ?_
    refine J_getf (pc := 9) D10_layServe_9 fl10_13 rfl rfl ?_
    refine J_iconst (pc := 12) (v := (nI 2)) D10_layServe_12 (by decide) ?_
    refine J_mald (pc := 13) D10_layServe_13 ma_3 rfl (by omega) rfl ?_
    refine J_st [.int (nI n), .int (nI n)] (by rw [← hR.2.2.1]) ?_
    refine J_icmp_ge (pc := 14) (tgt := 71) D10_layServe_14 (by decide) (fun h14 => ?_) (fun h14 => absurd (nI_le (by omega) (by omega)) h14)
    refine J_lk [(0, .ref 0)] rfl ?_
    exact K cm tc s A hP hc
  | succ g ih =>
    intro n cm tc s A hn hP hc K
    have hR := hP.rt hR0
    have hcm := hc.2.1
    obtain ⟨v, hv9, ev, hv⟩ := hN n (by omega)
    have e5 := hC.2.2.2.2.1 n (by omega)
    have e13 := (hR.2.2.2.2.2.2.2.2.1 n (by omega)).2.1
    refine J_iload_n (pc := 7) D10_layServe_7 rfl ?_
    refine J_aload_n (pc := 8) D10_layServe_8 rfl ?_
    refine J_getf (pc := 9) D10_layServe_9 fl10_13 rfl rfl ?_
    refine J_iconst (pc := 12) (v := (nI 2)) D10_layServe_12 (by decide) ?_
    refine J_mald (pc := 13) D10_layServe_13 ma_3 rfl (by omega) rfl ?_
    refine J_st [.int (nI nn), .int (nI n)] (by rw [← hR.2.2.1]) ?_
    refine J_icmp_ge (pc := 14) (tgt := 71) D10_layServe_14 (by decide) (fun h14 => absurd h14 (nI_ge (by omega) (by omega))) (fun h14 => ?_)
    refine J_aload_n (pc := 17) D10_layServe_17 rfl ?_
    refine J_getf (pc := 18) D10_layServe_18 fl10_102 rfl rfl ?_
    refine J_iload_n (pc := 21) D10_layServe_21 rfl ?_
    refine J_mcld (pc := 22) (stp := 8) D10_layServe_22 mc_5 (ix0 _ _) (by omega) (by omega) rfl ?_
    refine J_iconst (pc := 23) (v := (-1)) D10_layServe_23 (by decide) ?_
    rw [e5]
    refine J_icmp_ne (pc := 24) (tgt := 65) D10_layServe_24 (by decide) (fun h24 => ?_) (fun h24 => ?_)
    · refine J_iinc (pc := 65) D10_layServe_65 rfl (nI_inc _) rfl ?_
      refine J_goto (pc := 68) (tgt := 7) D10_layServe_68 (by decide) ?_
      refine ih (n + 1) cm tc s A (by omega) hP (hc.sk h24) K
    · have h24' := eq_true h24
      refine J_aload_n (pc := 27) D10_layServe_27 rfl ?_
      refine J_getf (pc := 28) D10_layServe_28 fl10_43 rfl rfl ?_
      refine J_iload_n (pc := 31) D10_layServe_31 rfl ?_
      refine J_mald (pc := 32) D10_layServe_32 ma_13 rfl (by omega) rfl ?_
      refine J_aload_n (pc := 33) D10_layServe_33 rfl ?_
      refine J_getf (pc := 34) D10_layServe_34 fl10_75 rfl rfl ?_
      refine J_iconst (pc := 37) (v := (nI 0)) D10_layServe_37 (by decide) ?_
      refine J_msld (pc := 38) D10_layServe_38 mq_year rfl (by omega) ?_
      rw [e13, e0]
      refine J_icmp_ge (pc := 39) (tgt := 45) D10_layServe_39 (by decide) (fun h39 => ?_) (fun h39 => ?_)
      · have h39' := Int32.not_lt.mpr h39
        refine J_aload_n (pc := 45) D10_layServe_45 rfl ?_
        refine J_getf (pc := 46) D10_layServe_46 fl10_111 rfl rfl ?_
        refine J_aload_n (pc := 49) D10_layServe_49 rfl ?_
        refine J_getf (pc := 50) D10_layServe_50 fl10_456 rfl rfl ?_
        refine J_iload_n (pc := 53) D10_layServe_53 rfl ?_
        refine J_mast (pc := 54) D10_layServe_54 ma_54 hc.1 (by omega) rfl ?_
        refine J_aload_n (pc := 55) D10_layServe_55 rfl ?_
        refine J_dup (pc := 56) D10_layServe_56 rfl ?_
        refine J_getf (pc := 57) D10_layServe_57 fl10_456 rfl rfl ?_
        refine J_iconst (pc := 60) (v := (nI 1)) D10_layServe_60 (by decide) ?_
        refine J_iadd (pc := 61) D10_layServe_61 ?_
        rw [hc.1]
        refine J_mput (pc := 62) D10_layServe_62 fp10_456 ms_55 ?_
        refine J_iinc (pc := 65) D10_layServe_65 rfl (nI_inc _) rfl ?_
        refine J_goto (pc := 68) (tgt := 7) D10_layServe_68 (by decide) ?_
        refine ih (n + 1) (cm + 1) (tcU tc cm n) _ _ (by omega) (hP.tr ⟨fun k _ _ _ _ _ a => updI_n a, fun k _ _ a _ _ => upA_n a, fun _ _ => rfl⟩) (hc.ad h24) K
      · have h39' := Int32.not_le.mp h39
        refine J_goto (pc := 42) (tgt := 65) D10_layServe_42 (by decide) ?_
        refine J_iinc (pc := 65) D10_layServe_65 rfl (nI_inc _) rfl ?_
        refine J_goto (pc := 68) (tgt := 7) D10_layServe_68 (by decide) ?_
        have hm : ¬ V.2.2.2 5 n = -1 := fun z => h39 (by rw [ev, eY, nI_leI (by omega) (by omega)]; exact hv.mp z)
        refine ih (n + 1) cm tc s A (by omega) hP (hc.sk hm) K
theorem L10_ls73 {d : Nat} {L : LL} {M : Nat → MR} {V : CV} {nn cm : Nat} {tc : Nat → Nat} (hnn : nn ≤ 8) {s : Nat → Int32} {A0 : Nat → Nat → Int32} (hc : TC V s A0 cm tc nn) {Q : Option Value → List EC → Prop} : ∀ (g u : Nat) (A : Nat → Nat → Int32), u + g = 1024 → (∀ k, k ≠ 56 → A k = A0 k) → (∀ w, w < u → A 56 (1024 * cm + w) = nI 0) →
    (∀ A, (∀ k, k ≠ 56 → A k = A0 k) → (∀ w, w < 1024 → A 56 (1024 * cm + w) = nI 0) → J m10_layServe (d + 2) 0 0 40 102 [(0, .ref 0)] [] (modW s A L M) 0 0 Q) → J m10_layServe (d + 2) 0 0 40 73 [(0, .ref 0), (1, .int (nI u))] [] (modW s A L M) 0 0 Q := by
  have hcm := hc.2.1
  intro g
  induction g with
  | zero =>
    intro u A hu hA hw K
    have e9 : u = 1024 := by omega
    subst e9
    refine J_iload_n (pc := 73) D10_layServe_73 rfl ?_
    refine J_sipush (pc := 74) (v := (nI 1024)) D10_layServe_74 (by decide) ?_
    refine J_icmp_ge (pc := 77) (tgt := 102) D10_layServe_77 (by decide) (fun h77 => ?_) (fun h77 => absurd (nI_le (by omega) (by omega)) h77)
    refine J_lk [(0, .ref 0)] rfl ?_
    exact K A hA hw
  | succ g ih =>
    intro u A hu hA hw K
    refine J_iload_n (pc := 73) D10_layServe_73 rfl ?_
    refine J_sipush (pc := 74) (v := (nI 1024)) D10_layServe_74 (by decide) ?_
    refine J_icmp_ge (pc := 77) (tgt := 102) D10_layServe_77 (by decide) (fun h77 => absurd h77 (nI_ge (by omega) (by omega))) (fun h77 => ?_)
    refine J_aload_n (pc := 80) D10_layServe_80 rfl ?_
    refine J_getf (pc := 81) D10_layServe_81 fl10_114 rfl rfl ?_
    refine J_sipush (pc := 84) (v := (nI 1024)) D10_layServe_84 (by decide) ?_
    refine J_aload_n (pc := 87) D10_layServe_87 rfl ?_
    refine J_getf (pc := 88) D10_layServe_88 fl10_456 rfl rfl ?_
    refine J_imul (pc := 91) D10_layServe_91 ?_
    refine J_iload_n (pc := 92) D10_layServe_92 rfl ?_
    refine J_iadd (pc := 93) D10_layServe_93 ?_
    refine J_iconst (pc := 94) (v := (nI 0)) D10_layServe_94 (by decide) ?_
    refine J_mast (pc := 95) D10_layServe_95 ma_56 (by rw [hc.1, nI_mulE, nI_add]) (by omega) rfl ?_
    refine J_iinc (pc := 96) D10_layServe_96 rfl (nI_inc _) rfl ?_
    refine J_goto (pc := 99) (tgt := 73) D10_layServe_99 (by decide) ?_
    refine ih (u + 1) _ (by omega) (fun k hk => (upA_n hk).trans (hA k hk)) (fun w hw2 => ?_) K
    rw [upA_s]
    by_cases e : w = u
    · rw [e, pk_us]
    · rw [pk_un (by omega)]; exact hw w (by omega)
theorem L10_ls140 {d : Nat} {s : Nat → Int32} {A : Nat → Nat → Int32} {L : LL} {M : Nat → MR} {T : TV} {np nb nn : Nat} (hR : RT A T np nb nn) (hT : WT T np nb nn) {V : CV} (hC : CR False np nb nn (M 0) V) {k u n cm : Nat} (hk : k < cm) (hcm : cm ≤ 8) (hu : u < 1024) (e54 : A 54 k = nI n) (hn : n < nn) (hm : V.2.2.2 5 n = -1) (htb : ∀ u, u < 1024 → A 56 (1024 * (k + 1) + u) = nI (mostF T V nb nn (n + 1) (frU V u))) {Q : Option Value → List EC → Prop} : ∀ (g b a : Nat), b + g = nb → a ≤ 9 → J m10_layServe (d + 2) 0 0 40 211 [(0, .ref 0), (1, .int (nI k)), (2, .int (nI u)), (3, .int (nI (dpL T V nb nn n (frU V u) g b a)))] [] (modW s A L M) 0 0 Q → J m10_layServe (d + 2) 0 0 40 140 [(0, .ref 0), (1, .int (nI k)), (2, .int (nI u)), (3, .int (nI a)), (4, .int (nI b))] [] (modW s A L M) 0 0 Q := by
  have hnb := hT.2.2.2.2.1
  have hnp := hT.2.2.2.1
  have hnn := hT.2.2.2.2.2.1
  intro g
  induction g with
  | zero =>
    intro b a hb9 ha K
    refine J_iload (pc := 140) D10_layServe_140 rfl ?_
    refine J_aload_n (pc := 142) D10_layServe_142 rfl ?_
    refine J_getf (pc := 143) D10_layServe_143 fl10_13 rfl rfl ?_
    refine J_iconst (pc := 146) (v := (nI 1)) D10_layServe_146 (by decide) ?_
    refine J_mald (pc := 147) D10_layServe_147 ma_3 rfl (by omega) rfl ?_
    refine J_st [.int (nI nb), .int (nI b)] (by rw [← hR.2.1]) ?_
    refine J_icmp_ge (pc := 148) (tgt := 211) D10_layServe_148 (by decide) (fun h148 => ?_) (fun h148 => absurd (nI_le (by omega) (by omega)) h148)
    refine J_lk [(0, .ref 0), (1, .int (nI k)), (2, .int (nI u)), (3, .int (nI a))] rfl ?_
    exact K
  | succ g ih =>
    intro b a hb9 ha K
    have hor := or_lt (u := u) (b := b) hu (by omega)
    refine J_iload (pc := 140) D10_layServe_140 rfl ?_
    refine J_aload_n (pc := 142) D10_layServe_142 rfl ?_
    refine J_getf (pc := 143) D10_layServe_143 fl10_13 rfl rfl ?_
    refine J_iconst (pc := 146) (v := (nI 1)) D10_layServe_146 (by decide) ?_
    refine J_mald (pc := 147) D10_layServe_147 ma_3 rfl (by omega) rfl ?_
    refine J_st [.int (nI nb), .int (nI b)] (by rw [← hR.2.1]) ?_
    refine J_icmp_ge (pc := 148) (tgt := 211) D10_layServe_148 (by decide) (fun h148 => absurd h148 (nI_ge (by omega) (by omega))) (fun h148 => ?_)
    refine J_iload_n (pc := 151) D10_layServe_151 rfl ?_
    refine J_iload (pc := 152) D10_layServe_152 rfl ?_
    refine J_ishr (pc := 154) D10_layServe_154 ?_
    refine J_iconst (pc := 155) (v := (nI 1)) D10_layServe_155 (by decide) ?_
    refine J_iand (pc := 156) D10_layServe_156 ?_
    refine J_iconst (pc := 157) (v := (nI 1)) D10_layServe_157 (by decide) ?_
    refine J_icmp_eq (pc := 158) (tgt := 205) D10_layServe_158 (by decide) (fun h158 => ?_) (fun h158 => ?_)
    · have h158' := eq_true h158
      refine J_iinc (pc := 205) D10_layServe_205 rfl (nI_inc _) rfl ?_
      refine J_goto (pc := 208) (tgt := 140) D10_layServe_208 (by decide) ?_
      rw [dpL, if_neg (fun z => by rw [us_1 (by omega)] at h158; rw [((ftB_u hm (by omega)).mp z).1] at h158; cases h158)] at K
      exact ih (b + 1) a (by omega) ha K
    · refine J_aload_n (pc := 161) D10_layServe_161 rfl ?_
      refine J_aload_n (pc := 162) D10_layServe_162 rfl ?_
      refine J_getf (pc := 163) D10_layServe_163 fl10_111 rfl rfl ?_
      refine J_iload_n (pc := 166) D10_layServe_166 rfl ?_
      refine J_mald (pc := 167) D10_layServe_167 ma_54 rfl (by omega) rfl ?_
      refine J_iload (pc := 168) D10_layServe_168 rfl ?_
      refine J_st (.int (nI b) :: .int (nI n) :: .ref 0 :: []) (by rw [e54]) ?_
      refine J_callVTR (pc := 170) (ac := [.int _, .int _]) D10_layServe_170 m10_fits_v t1762 (c10_fits (d := d) hR hT hC hn (by omega)) (by omega) rfl rfl rfl rfl (fun _ => rfl) rfl rfl rfl ?_
      refine J_if_ne (pc := 173) (tgt := 179) D10_layServe_173 (by decide) (fun h173 => ?_) (fun h173 => ?_)
      · replace h173 : FT T V n b := i01_nz h173
        refine J_iload_n (pc := 179) D10_layServe_179 rfl ?_
        refine J_iconst (pc := 180) (v := (nI 1)) D10_layServe_180 (by decide) ?_
        refine J_aload_n (pc := 181) D10_layServe_181 rfl ?_
        refine J_getf (pc := 182) D10_layServe_182 fl10_114 rfl rfl ?_
        refine J_sipush (pc := 185) (v := (nI 1024)) D10_layServe_185 (by decide) ?_
        refine J_iload_n (pc := 188) D10_layServe_188 rfl ?_
        refine J_iconst (pc := 189) (v := (nI 1)) D10_layServe_189 (by decide) ?_
        refine J_iadd (pc := 190) D10_layServe_190 ?_
        refine J_imul (pc := 191) D10_layServe_191 ?_
        refine J_iload_n (pc := 192) D10_layServe_192 rfl ?_
        refine J_iconst (pc := 193) (v := (nI 1)) D10_layServe_193 (by decide) ?_
        refine J_iload (pc := 194) D10_layServe_194 rfl ?_
        refine J_ishl (pc := 196) D10_layServe_196 ?_
        refine J_ior (pc := 197) D10_layServe_197 ?_
        refine J_iadd (pc := 198) D10_layServe_198 ?_
        refine J_mald (pc := 199) D10_layServe_199 ma_56 (by rw [bitN_p (by omega), nI_or, nI_add, nI_mulE, nI_add]) (by omega) rfl ?_
        refine J_iadd (pc := 200) D10_layServe_200 ?_
        refine J_max (pc := 201) D10_layServe_201 t1692 (by omega) rfl rfl rfl ?_
        refine J_istore_n (pc := 204) D10_layServe_204 rfl ?_
        refine J_iinc (pc := 205) D10_layServe_205 rfl (nI_inc _) rfl ?_
        refine J_goto (pc := 208) (tgt := 140) D10_layServe_208 (by decide) ?_
        have hu0 : u.testBit b = false := by
          cases hv : u.testBit b with
          | false => rfl
          | true => exact absurd ((us_1 (by omega)).mpr hv) h158
        rw [dpL, if_pos ((ftB_u hm (by omega)).mpr ⟨hu0, h173⟩)] at K
        have hmo := most_le8 (T := T) (V := V) (nb := nb) (f := n + 1) (fr := frU V u &&& (bt b ^^^ -1)) hnn
        refine J_lk [(0, .ref 0), (1, .int (nI k)), (2, .int (nI u)), (3, .int (nI (max a (1 + mostF T V nb nn (n + 1) (frU V u &&& (bt b ^^^ -1)))))), (4, .int (nI (b + 1)))] (by rw [htb _ hor, nI_add, most_c hnn hnb (by omega) (fun m hm9 => fr_or (by omega) (by omega)), imax_n (by omega) (by omega)]; rfl) ?_
        exact ih (b + 1) _ (by omega) (by omega) K
      · have h173' := eq_true h173
        replace h173 : ¬ FT T V n b := i01_z h173
        refine J_goto (pc := 176) (tgt := 205) D10_layServe_176 (by decide) ?_
        refine J_iinc (pc := 205) D10_layServe_205 rfl (nI_inc _) rfl ?_
        refine J_goto (pc := 208) (tgt := 140) D10_layServe_208 (by decide) ?_
        rw [dpL, if_neg (fun z => h173 ((ftB_u hm (by omega)).mp z).2)] at K
        exact ih (b + 1) a (by omega) ha K
theorem L10_ls115 {d : Nat} {T : TV} {np nb nn : Nat} (hT : WT T np nb nn) {L : LL} {M : Nat → MR} {V : CV} (hC : CR False np nb nn (M 0) V) {s : Nat → Int32} {A0 : Nat → Nat → Int32} (hR0 : RT A0 T np nb nn) {k cm : Nat} {tc : Nat → Nat} (hk : k < cm) (hc0 : TC V s A0 cm tc nn) {Q : Option Value → List EC → Prop} : ∀ (g u : Nat) (A : Nat → Nat → Int32), u + g = 1024 → (∀ k, k ≠ 56 → A k = A0 k) → TB T V nb nn cm tc A (k + 1) → (∀ w, w < u → A 56 (1024 * k + w) = nI (mostF T V nb nn (tc k) (frU V w))) →
    (∀ A, (∀ k, k ≠ 56 → A k = A0 k) → TB T V nb nn cm tc A k → J m10_layServe (d + 2) 0 0 40 230 [(0, .ref 0), (1, .int (nI k))] [] (modW s A L M) 0 0 Q) → J m10_layServe (d + 2) 0 0 40 115 [(0, .ref 0), (1, .int (nI k)), (2, .int (nI u))] [] (modW s A L M) 0 0 Q := by
  have hcm := hc0.2.1
  have hnn := hT.2.2.2.2.2.1
  have hnb := hT.2.2.2.2.1
  intro g
  induction g with
  | zero =>
    intro u A hu hA hB hw K
    have e9 : u = 1024 := by omega
    subst e9
    refine J_iload_n (pc := 115) D10_layServe_115 rfl ?_
    refine J_sipush (pc := 116) (v := (nI 1024)) D10_layServe_116 (by decide) ?_
    refine J_icmp_ge (pc := 119) (tgt := 230) D10_layServe_119 (by decide) (fun h119 => ?_) (fun h119 => absurd (nI_le (by omega) (by omega)) h119)
    refine J_lk [(0, .ref 0), (1, .int (nI k))] rfl ?_
    refine K A hA (fun j h1 h2 w hw9 => ?_)
    by_cases e : j = k
    · rw [e, hw w hw9]; unfold tcn; rw [if_pos hk]
    · exact hB j (by omega) h2 w hw9
  | succ g ih =>
    intro u A hu hA hB hw K
    have hc := hc0.c (s' := s) rfl (hA 54 (by decide))
    have htb := hB.nx hk hc hnn hnb
    have hR : RT A T np nb nn := hR0.a20 (fun i hi => hA i (by omega))
    obtain ⟨e54, hn, hm⟩ := hc.2.2.1 k hk
    have hmo := most_le8 (T := T) (V := V) (nb := nb) (f := tc k + 1) (fr := frU V u) hnn
    refine J_iload_n (pc := 115) D10_layServe_115 rfl ?_
    refine J_sipush (pc := 116) (v := (nI 1024)) D10_layServe_116 (by decide) ?_
    refine J_icmp_ge (pc := 119) (tgt := 230) D10_layServe_119 (by decide) (fun h119 => absurd h119 (nI_ge (by omega) (by omega))) (fun h119 => ?_)
    refine J_aload_n (pc := 122) D10_layServe_122 rfl ?_
    refine J_getf (pc := 123) D10_layServe_123 fl10_114 rfl rfl ?_
    refine J_sipush (pc := 126) (v := (nI 1024)) D10_layServe_126 (by decide) ?_
    refine J_iload_n (pc := 129) D10_layServe_129 rfl ?_
    refine J_iconst (pc := 130) (v := (nI 1)) D10_layServe_130 (by decide) ?_
    refine J_iadd (pc := 131) D10_layServe_131 ?_
    refine J_imul (pc := 132) D10_layServe_132 ?_
    refine J_iload_n (pc := 133) D10_layServe_133 rfl ?_
    refine J_iadd (pc := 134) D10_layServe_134 ?_
    refine J_mald (pc := 135) D10_layServe_135 ma_56 (by rw [nI_add, nI_mulE, nI_add]) (by omega) rfl ?_
    refine J_istore_n (pc := 136) D10_layServe_136 rfl ?_
    refine J_iconst (pc := 137) (v := (nI 0)) D10_layServe_137 (by decide) ?_
    refine J_istore (pc := 138) D10_layServe_138 rfl ?_
    refine J_lk [(0, .ref 0), (1, .int (nI k)), (2, .int (nI u)), (3, .int (nI (mostF T V nb nn (tc k + 1) (frU V u)))), (4, .int (nI 0))] (by rw [htb u (by omega)]; rfl) ?_
    refine L10_ls140 hR hT hC hk (by omega) (by omega) e54 hn hm htb nb 0 (mostF T V nb nn (tc k + 1) (frU V u)) (by omega) (by omega) ?_
    rw [← most_dp hnn hnb hn hm]
    refine J_aload_n (pc := 211) D10_layServe_211 rfl ?_
    refine J_getf (pc := 212) D10_layServe_212 fl10_114 rfl rfl ?_
    refine J_sipush (pc := 215) (v := (nI 1024)) D10_layServe_215 (by decide) ?_
    refine J_iload_n (pc := 218) D10_layServe_218 rfl ?_
    refine J_imul (pc := 219) D10_layServe_219 ?_
    refine J_iload_n (pc := 220) D10_layServe_220 rfl ?_
    refine J_iadd (pc := 221) D10_layServe_221 ?_
    refine J_iload_n (pc := 222) D10_layServe_222 rfl ?_
    refine J_mast (pc := 223) D10_layServe_223 ma_56 (by rw [nI_mulE, nI_add]) (by omega) rfl ?_
    refine J_iinc (pc := 224) D10_layServe_224 rfl (nI_inc _) rfl ?_
    refine J_goto (pc := 227) (tgt := 115) D10_layServe_227 (by decide) ?_
    refine J_lk [(0, .ref 0), (1, .int (nI k)), (2, .int (nI (u + 1)))] rfl ?_
    refine ih (u + 1) _ (by omega) (fun i hi => (upA_n hi).trans (hA i hi)) (fun j h1 h2 w hw9 => ?_) (fun w hw9 => ?_) K
    · rw [upA_s, pk_un (by omega)]; exact hB j h1 h2 w hw9
    · rw [upA_s]
      by_cases e : w = u
      · rw [e, pk_us]
      · rw [pk_un (by omega)]; exact hw w (by omega)
theorem nI_m1 (x : Int32) : x + Int32.ofInt (-1) = x - nI 1 := by rw [Int32.sub_eq_add_neg]; congr 1
theorem L10_ls109 {d : Nat} {T : TV} {np nb nn : Nat} (hT : WT T np nb nn) {L : LL} {M : Nat → MR} {V : CV} (hC : CR False np nb nn (M 0) V) {s : Nat → Int32} {A0 : Nat → Nat → Int32} (hR0 : RT A0 T np nb nn) {cm : Nat} {tc : Nat → Nat} (hc0 : TC V s A0 cm tc nn) {Q : Option Value → List EC → Prop} : ∀ (g : Nat) (A : Nat → Nat → Int32), g ≤ cm → (∀ k, k ≠ 56 → A k = A0 k) → TB T V nb nn cm tc A g →
    (∀ A, (∀ k, k ≠ 56 → A k = A0 k) → TB T V nb nn cm tc A 0 → Q none (modW s A L M)) → J m10_layServe (d + 2) 0 0 40 109 [(0, .ref 0), (1, .int (nI g - nI 1))] [] (modW s A L M) 0 0 Q := by
  have hcm := hc0.2.1
  have hnn := hT.2.2.2.2.2.1
  intro g
  induction g with
  | zero =>
    intro A hg hA hB K
    refine J_iload_n (pc := 109) D10_layServe_109 rfl ?_
    refine J_if_lt (pc := 110) (tgt := 236) D10_layServe_110 (by decide) (fun h110 => ?_) (fun h110 => absurd (by decide) h110)
    refine J_vret (pc := 236) D10_layServe_236 rfl ?_
    exact K A hA hB
  | succ k ih =>
    intro A hg hA hB K
    refine J_lk [(0, .ref 0), (1, .int (nI k))] (by rw [nI_sub1]; rfl) ?_
    refine J_iload_n (pc := 109) D10_layServe_109 rfl ?_
    refine J_if_lt (pc := 110) (tgt := 236) D10_layServe_110 (by decide) (fun h110 => absurd h110 (nI_pos (by omega))) (fun h110 => ?_)
    refine J_iconst (pc := 113) (v := (nI 0)) D10_layServe_113 (by decide) ?_
    refine J_istore_n (pc := 114) D10_layServe_114 rfl ?_
    refine L10_ls115 hT hC hR0 hg hc0 1024 0 A (by omega) hA hB (fun w hw => absurd hw (by omega)) (fun A2 hA2 hB2 => ?_)
    refine J_iinc (pc := 230) D10_layServe_230 rfl (nI_m1 _) rfl ?_
    refine J_goto (pc := 233) (tgt := 109) D10_layServe_233 (by decide) ?_
    refine J_lk [(0, .ref 0), (1, .int (nI k - nI 1))] rfl ?_
    exact ih A2 (by omega) hA2 hB2 K
/-- behind layServe -/
def lsQ (T : TV) (V : CV) (nb nn : Nat) (s : Nat → Int32) (A : Nat → Nat → Int32) (L : LL) (M : Nat → MR) : Option Value → List EC → Prop := fun r w' => r = none ∧ ∃ cm tc s' A', w' = modW s' A' L M ∧ PX s A M s' A' M ∧ TC V s' A' cm tc nn ∧ TB T V nb nn cm tc A' 0
theorem c10_layServe {d : Nat} {s : Nat → Int32} {A : Nat → Nat → Int32} {L : LL} {M : Nat → MR} {T : TV} {np nb nn : Nat} (hR : RT A T np nb nn) (hT : WT T np nb nn) {V : CV} (hC : CR False np nb nn (M 0) V) (hY : YI T V nn) : Tr (d + 2) 0 0 m10_layServe [.ref 0] (modW s A L M) (lsQ T V nb nn s A L M) := by
  have hnb := hT.2.2.2.2.1
  have hnp := hT.2.2.2.1
  have hnn := hT.2.2.2.2.2.1
  refine Tr.intro (by decide) rfl ?_
  refine J_aload_n (pc := 0) D10_layServe_0 rfl ?_
  refine J_iconst (pc := 1) (v := (nI 0)) D10_layServe_1 (by decide) ?_
  refine J_mput (pc := 2) D10_layServe_2 fp10_456 ms_55 ?_
  refine J_iconst (pc := 5) (v := (nI 0)) D10_layServe_5 (by decide) ?_
  refine J_istore_n (pc := 6) D10_layServe_6 rfl ?_
  refine L10_ls7 hT hC hY hR (s0 := s) (A0 := A) nn 0 0 (fun _ => 0) _ A (by omega) ⟨fun k _ _ _ _ _ a => updI_n a, fun _ _ _ _ _ _ => rfl, fun _ _ => rfl⟩ ⟨updI_s, Nat.le_refl _, fun j hj => absurd hj (by omega), fun i j _ hj => absurd hj (by omega), fun n hn => absurd hn (by omega)⟩ (fun cm tc s1 A1 hP1 hc1 => ?_)
  have hcm := hc1.2.1
  refine J_iconst (pc := 71) (v := (nI 0)) D10_layServe_71 (by decide) ?_
  refine J_istore_n (pc := 72) D10_layServe_72 rfl ?_
  refine L10_ls73 hnn hc1 1024 0 A1 (by omega) (fun _ _ => rfl) (fun w hw => absurd hw (by omega)) (fun A2 hA2 hw2 => ?_)
  have hR1 := hP1.rt hR
  refine J_aload_n (pc := 102) D10_layServe_102 rfl ?_
  refine J_getf (pc := 103) D10_layServe_103 fl10_456 rfl rfl ?_
  refine J_iconst (pc := 106) (v := (nI 1)) D10_layServe_106 (by decide) ?_
  refine J_isub (pc := 107) D10_layServe_107 ?_
  refine J_istore_n (pc := 108) D10_layServe_108 rfl ?_
  refine J_lk [(0, .ref 0), (1, .int (nI cm - nI 1))] (by rw [← hc1.1]; rfl) ?_
  refine L10_ls109 hT hC hR1 hc1 cm A2 (Nat.le_refl _) hA2 (fun j h1 h2 u hu => ?_) (fun A3 hA3 hB3 => ?_)
  · rw [show j = cm by omega, hw2 u hu]
    unfold tcn
    rw [if_neg (Nat.lt_irrefl _), most_nn]
  · exact ⟨rfl, cm, tc, s1, A3, rfl, hP1.tr ⟨fun _ _ _ _ _ _ _ => rfl, fun k _ _ _ a _ => hA3 k a, fun _ _ => rfl⟩, hc1.c rfl (hA3 54 (by decide)), hB3⟩
theorem c10_served {d : Nat} {s : Nat → Int32} {A : Nat → Nat → Int32} {L : LL} {M : Nat → MR} {T : TV} {np nb nn : Nat} (hR : RT A T np nb nn) (hT : WT T np nb nn) {V : CV} (hC : CR False np nb nn (M 0) V) (hY : YI T V nn) : Tr (d + 3) 0 0 m10_served [.ref 0] (modW s A L M) (mR s A M (.int (svN T V nb nn))) := by
  have hnb := hT.2.2.2.2.1
  have hnp := hT.2.2.2.1
  have hnn := hT.2.2.2.2.2.1
  refine Tr.intro (by decide) rfl ?_
  refine J_aload_n (pc := 0) D10_served_0 rfl ?_
  refine J_iconst (pc := 1) (v := (nI 0)) D10_served_1 (by decide) ?_
  refine J_mput (pc := 2) D10_served_2 fp10_139 ms_0 ?_
  refine J_aload_n (pc := 5) D10_served_5 rfl ?_
  refine J_callVT (pc := 6) (ac := []) D10_served_6 m10_layServe_v t1758 (c10_layServe (d := d) (s := updI s 0 (nI 0)) hR hT hC hY) (by omega) rfl rfl rfl rfl rfl rfl rfl (fun r w' hq hl => ?_)
  obtain ⟨rfl, cm, tc, s2, A2, rfl, hP2, hc2, hB2⟩ := hq
  refine J_aload_n (pc := 9) D10_served_9 rfl ?_
  refine J_getf (pc := 10) D10_served_10 fl10_114 rfl rfl ?_
  refine J_iconst (pc := 13) (v := (nI 0)) D10_served_13 (by decide) ?_
  refine J_mald (pc := 14) D10_served_14 ma_56 rfl (by omega) rfl ?_
  refine J_iret (pc := 15) D10_served_15 rfl ?_
  have h0 := hB2 0 (Nat.le_refl _) (Nat.zero_le _) 0 (by decide)
  obtain ⟨g1, g2⟩ := hc2.gap0
  have h1 := most_gap (T := T) (V := V) (nb := nb) (fr := frU V 0) hnn hnb (tcn cm nn tc 0) 0 (by omega) (fun n a b => g2 n (by omega))
  rw [Nat.zero_add] at h1
  exact ⟨congrArg (fun q => some (Value.int q)) (by
    rw [show A2 56 0 = _ from h0, ← h1, svN]
    exact congrArg nI (most_c hnn hnb (by omega) (fun b hb9 => fr_0 (by omega)))), _, _, _, _, rfl, (PX.s0.tr hP2)⟩
theorem L10_servedBy {d : Nat} {s : Nat → Int32} {A : Nat → Nat → Int32} {L : LL} {M : Nat → MR} {T : TV} {np nb nn : Nat} (hR : RT A T np nb nn) (hT : WT T np nb nn) {V : CV} (hC : CR False np nb nn (M 0) V) {k u n cm : Nat} (hk : k < cm) (hcm : cm ≤ 8) (hu : u < 1024) (e54 : A 54 k = nI n) (hn : n < nn) (hm : V.2.2.2 5 n = -1) (htb : ∀ u, u < 1024 → A 56 (1024 * (k + 1) + u) = nI (mostF T V nb nn (n + 1) (frU V u))) (htk : A 56 (1024 * k + u) = nI (mostF T V nb nn n (frU V u))) : ∀ (g b : Nat), b + g = nb → J m10_servedBy (d + 2) 0 0 40 2 [(0, .ref 0), (1, .int (nI k)), (2, .int (nI u)), (3, .int (nI b))] [] (modW s A L M) 0 0 (fun r w' => w' = modW s A L M ∧ r = some (.int (wkI (chL T V nb nn n (frU V u) (mostF T V nb nn n (frU V u)) g b)))) := by
  have hnb := hT.2.2.2.2.1
  have hnp := hT.2.2.2.1
  have hnn := hT.2.2.2.2.2.1
  intro g
  induction g with
  | zero =>
    intro b hb9
    refine J_iload_n (pc := 2) D10_servedBy_2 rfl ?_
    refine J_aload_n (pc := 3) D10_servedBy_3 rfl ?_
    refine J_getf (pc := 4) D10_servedBy_4 fl10_13 rfl rfl ?_
    refine J_iconst (pc := 7) (v := (nI 1)) D10_servedBy_7 (by decide) ?_
    refine J_mald (pc := 8) D10_servedBy_8 ma_3 rfl (by omega) rfl ?_
    refine J_st [.int (nI nb), .int (nI b)] (by rw [← hR.2.1]) ?_
    refine J_icmp_ge (pc := 9) (tgt := 81) D10_servedBy_9 (by decide) (fun h9 => ?_) (fun h9 => absurd (nI_le (by omega) (by omega)) h9)
    refine J_iconst (pc := 81) (v := (-1)) D10_servedBy_81 (by decide) ?_
    refine J_iret (pc := 82) D10_servedBy_82 rfl ?_
    exact ⟨rfl, rfl⟩
  | succ g ih =>
    intro b hb9
    have hor := or_lt (u := u) (b := b) hu (by omega)
    have hmo := most_le8 (T := T) (V := V) (nb := nb) (f := n + 1) (fr := frU V u &&& (bt b ^^^ -1)) hnn
    have hmo2 := most_le8 (T := T) (V := V) (nb := nb) (f := n) (fr := frU V u) hnn
    have hq9 : nI (1 + mostF T V nb nn (n + 1) (frU V u &&& (bt b ^^^ -1))) = nI 1 + A 56 (1024 * (k + 1) + (u ||| 2 ^ b)) := by rw [htb _ hor, most_c hnn hnb (by omega) (fun m hm9 => fr_or (by omega) (by omega)), nI_add]
    refine J_iload_n (pc := 2) D10_servedBy_2 rfl ?_
    refine J_aload_n (pc := 3) D10_servedBy_3 rfl ?_
    refine J_getf (pc := 4) D10_servedBy_4 fl10_13 rfl rfl ?_
    refine J_iconst (pc := 7) (v := (nI 1)) D10_servedBy_7 (by decide) ?_
    refine J_mald (pc := 8) D10_servedBy_8 ma_3 rfl (by omega) rfl ?_
    refine J_st [.int (nI nb), .int (nI b)] (by rw [← hR.2.1]) ?_
    refine J_icmp_ge (pc := 9) (tgt := 81) D10_servedBy_9 (by decide) (fun h9 => absurd h9 (nI_ge (by omega) (by omega))) (fun h9 => ?_)
    refine J_iload_n (pc := 12) D10_servedBy_12 rfl ?_
    refine J_iload_n (pc := 13) D10_servedBy_13 rfl ?_
    refine J_ishr (pc := 14) D10_servedBy_14 ?_
    refine J_iconst (pc := 15) (v := (nI 1)) D10_servedBy_15 (by decide) ?_
    refine J_iand (pc := 16) D10_servedBy_16 ?_
    refine J_iconst (pc := 17) (v := (nI 1)) D10_servedBy_17 (by decide) ?_
    refine J_icmp_eq (pc := 18) (tgt := 75) D10_servedBy_18 (by decide) (fun h18 => ?_) (fun h18 => ?_)
    · have h18' := eq_true h18
      refine J_iinc (pc := 75) D10_servedBy_75 rfl (nI_inc _) rfl ?_
      refine J_goto (pc := 78) (tgt := 2) D10_servedBy_78 (by decide) ?_
      have e9 : ¬ chB T V nb nn n (frU V u) (mostF T V nb nn n (frU V u)) b = true := by
        unfold chB; rw [Bool.and_eq_true_iff]; exact fun z => by rw [us_1 (by omega)] at h18; rw [((ftB_u hm (by omega)).mp z.1).1] at h18; cases h18
      rw [show chL T V nb nn n (frU V u) (mostF T V nb nn n (frU V u)) (g + 1) b = chL T V nb nn n (frU V u) (mostF T V nb nn n (frU V u)) g (b + 1) from by rw [chL, Bool.not_eq_true _ |>.mp e9]; rfl]
      exact ih (b + 1) (by omega)
    · refine J_aload_n (pc := 21) D10_servedBy_21 rfl ?_
      refine J_aload_n (pc := 22) D10_servedBy_22 rfl ?_
      refine J_getf (pc := 23) D10_servedBy_23 fl10_111 rfl rfl ?_
      refine J_iload_n (pc := 26) D10_servedBy_26 rfl ?_
      refine J_mald (pc := 27) D10_servedBy_27 ma_54 rfl (by omega) rfl ?_
      refine J_iload_n (pc := 28) D10_servedBy_28 rfl ?_
      refine J_st (.int (nI b) :: .int (nI n) :: .ref 0 :: []) (by rw [e54]) ?_
      refine J_callVTR (pc := 29) (ac := [.int _, .int _]) D10_servedBy_29 m10_fits_v t1762 (c10_fits (d := d + 0) hR hT hC hn (by omega)) (by omega) rfl rfl rfl rfl (fun _ => rfl) rfl rfl rfl ?_
      refine J_if_ne (pc := 32) (tgt := 38) D10_servedBy_32 (by decide) (fun h32 => ?_) (fun h32 => ?_)
      · replace h32 : FT T V n b := i01_nz h32
        refine J_iconst (pc := 38) (v := (nI 1)) D10_servedBy_38 (by decide) ?_
        refine J_aload_n (pc := 39) D10_servedBy_39 rfl ?_
        refine J_getf (pc := 40) D10_servedBy_40 fl10_114 rfl rfl ?_
        refine J_sipush (pc := 43) (v := (nI 1024)) D10_servedBy_43 (by decide) ?_
        refine J_iload_n (pc := 46) D10_servedBy_46 rfl ?_
        refine J_iconst (pc := 47) (v := (nI 1)) D10_servedBy_47 (by decide) ?_
        refine J_iadd (pc := 48) D10_servedBy_48 ?_
        refine J_imul (pc := 49) D10_servedBy_49 ?_
        refine J_iload_n (pc := 50) D10_servedBy_50 rfl ?_
        refine J_iconst (pc := 51) (v := (nI 1)) D10_servedBy_51 (by decide) ?_
        refine J_iload_n (pc := 52) D10_servedBy_52 rfl ?_
        refine J_ishl (pc := 53) D10_servedBy_53 ?_
        refine J_ior (pc := 54) D10_servedBy_54 ?_
        refine J_iadd (pc := 55) D10_servedBy_55 ?_
        refine J_mald (pc := 56) D10_servedBy_56 ma_56 (by rw [bitN_p (by omega), nI_or, nI_add, nI_mulE, nI_add]) (by omega) rfl ?_
        refine J_iadd (pc := 57) D10_servedBy_57 ?_
        refine J_aload_n (pc := 58) D10_servedBy_58 rfl ?_
        refine J_getf (pc := 59) D10_servedBy_59 fl10_114 rfl rfl ?_
        refine J_sipush (pc := 62) (v := (nI 1024)) D10_servedBy_62 (by decide) ?_
        refine J_iload_n (pc := 65) D10_servedBy_65 rfl ?_
        refine J_imul (pc := 66) D10_servedBy_66 ?_
        refine J_iload_n (pc := 67) D10_servedBy_67 rfl ?_
        refine J_iadd (pc := 68) D10_servedBy_68 ?_
        refine J_mald (pc := 69) D10_servedBy_69 ma_56 (by rw [nI_mulE, nI_add]) (by omega) rfl ?_
        rw [htk]
        refine J_icmp_ne (pc := 70) (tgt := 75) D10_servedBy_70 (by decide) (fun h70 => ?_) (fun h70 => ?_)
        · refine J_iinc (pc := 75) D10_servedBy_75 rfl (nI_inc _) rfl ?_
          refine J_goto (pc := 78) (tgt := 2) D10_servedBy_78 (by decide) ?_
          have e9 : ¬ chB T V nb nn n (frU V u) (mostF T V nb nn n (frU V u)) b = true := by
            unfold chB; rw [Bool.and_eq_true_iff]; exact fun z => h70 (by rw [← hq9, Nat.eq_of_beq_eq_true z.2])
          rw [show chL T V nb nn n (frU V u) (mostF T V nb nn n (frU V u)) (g + 1) b = chL T V nb nn n (frU V u) (mostF T V nb nn n (frU V u)) g (b + 1) from by rw [chL, Bool.not_eq_true _ |>.mp e9]; rfl]
          exact ih (b + 1) (by omega)
        · have h70' := eq_true h70
          refine J_iload_n (pc := 73) D10_servedBy_73 rfl ?_
          refine J_iret (pc := 74) D10_servedBy_74 rfl ?_
          have hu0 : u.testBit b = false := by
            cases hv : u.testBit b with
            | false => rfl
            | true => exact absurd ((us_1 (by omega)).mpr hv) h18
          have e9 : chB T V nb nn n (frU V u) (mostF T V nb nn n (frU V u)) b = true := by
            unfold chB
            rw [Bool.and_eq_true_iff]
            exact ⟨(ftB_u hm (by omega)).mpr ⟨hu0, h32⟩, by rw [Nat.beq_eq]; exact nI_eqI (by omega) (by omega) (by rw [hq9]; exact h70)⟩
          exact ⟨rfl, by rw [chL, e9]; rfl⟩
      · have h32' := eq_true h32
        replace h32 : ¬ FT T V n b := i01_z h32
        refine J_goto (pc := 35) (tgt := 75) D10_servedBy_35 (by decide) ?_
        refine J_iinc (pc := 75) D10_servedBy_75 rfl (nI_inc _) rfl ?_
        refine J_goto (pc := 78) (tgt := 2) D10_servedBy_78 (by decide) ?_
        have e9 : ¬ chB T V nb nn n (frU V u) (mostF T V nb nn n (frU V u)) b = true := by
          unfold chB; rw [Bool.and_eq_true_iff]; exact fun z => h32 ((ftB_u hm (by omega)).mp z.1).2
        rw [show chL T V nb nn n (frU V u) (mostF T V nb nn n (frU V u)) (g + 1) b = chL T V nb nn n (frU V u) (mostF T V nb nn n (frU V u)) g (b + 1) from by rw [chL, Bool.not_eq_true _ |>.mp e9]; rfl]
        exact ih (b + 1) (by omega)
theorem c10_servedBy {d : Nat} {s : Nat → Int32} {A : Nat → Nat → Int32} {L : LL} {M : Nat → MR} {T : TV} {np nb nn : Nat} (hR : RT A T np nb nn) (hT : WT T np nb nn) {V : CV} (hC : CR False np nb nn (M 0) V) {k u n cm : Nat} (hk : k < cm) (hcm : cm ≤ 8) (hu : u < 1024) (e54 : A 54 k = nI n) (hn : n < nn) (hm : V.2.2.2 5 n = -1) (htb : ∀ u, u < 1024 → A 56 (1024 * (k + 1) + u) = nI (mostF T V nb nn (n + 1) (frU V u))) (htk : A 56 (1024 * k + u) = nI (mostF T V nb nn n (frU V u))) : TR (d + 2) m10_servedBy [.ref 0, .int (nI k), .int (nI u)] (modW s A L M) (.int (wkI (chL T V nb nn n (frU V u) (mostF T V nb nn n (frU V u)) nb 0))) := by
  refine Tr.intro (by decide) rfl ?_
  refine J_iconst (pc := 0) (v := (nI 0)) D10_servedBy_0 (by decide) ?_
  refine J_istore_n (pc := 1) D10_servedBy_1 rfl ?_
  exact L10_servedBy hR hT hC hk hcm hu e54 hn hm htb htk nb 0 (by omega)
theorem chL_p {T : TV} {V : CV} {nb nn n : Nat} {fr : Int32} {l : Nat} : ∀ (g b : Nat), (∀ c, chL T V nb nn n fr l g b = some c → b ≤ c ∧ c < b + g ∧ chB T V nb nn n fr l c = true) ∧ (chL T V nb nn n fr l g b = none → ∀ c, b ≤ c → c < b + g → chB T V nb nn n fr l c = false)
  | 0, b => ⟨fun c h => (by cases h), fun _ c h1 h2 => absurd h2 (by omega)⟩
  | g + 1, b => by
    have ih := chL_p (T := T) (V := V) (nb := nb) (nn := nn) (n := n) (fr := fr) (l := l) g (b + 1)
    rw [chL]
    cases h : chB T V nb nn n fr l b with
    | true => exact ⟨fun c e => by cases e; exact ⟨Nat.le_refl _, by omega, h⟩, fun e => by cases e⟩
    | false =>
      refine ⟨fun c e => ?_, fun e c h1 h2 => ?_⟩
      · obtain ⟨a1, a2, a3⟩ := ih.1 c e
        exact ⟨by omega, by omega, a3⟩
      · by_cases z : c = b
        · rw [z]; exact h
        · exact ih.2 e c (by omega) (by omega)
theorem chL_c {T : TV} {V : CV} {nb nn n l : Nat} {fr fr' : Int32} (hnn : nn ≤ 8) (hnb : nb ≤ 10) (hn : n < nn) (h : ∀ b, b < nb → hb fr b = hb fr' b) : ∀ (g b : Nat), b + g = nb → chL T V nb nn n fr l g b = chL T V nb nn n fr' l g b
  | 0, _, _ => rfl
  | g + 1, b, hg => by
    have e : chB T V nb nn n fr l b = chB T V nb nn n fr' l b := by
      unfold chB
      have e1 : ftB T V n b fr = ftB T V n b fr' := by
        have := h b (by omega)
        unfold hb at this
        unfold ftB
        rw [this]
      rw [e1, most_c (fr' := fr' &&& (bt b ^^^ -1)) hnn hnb hn (fun m hm => by rw [hb_cl (by omega) (by omega), hb_cl (by omega) (by omega), h m hm])]
    rw [chL, chL, e, chL_c hnn hnb hn h g (b + 1) (by omega)]
def arQ (T : TV) (V : CV) (nb nn n : Nat) (S : Int32 × Nat) : Int32 × Nat := match chL T V nb nn n S.1 S.2 nb 0 with
  | none => S
  | some b => (S.1 &&& (bt b ^^^ -1), S.2 - 1)
def arP (T : TV) (V : CV) (nb nn : Nat) : Nat → Int32 × Nat
  | 0 => (lyM V, mostF T V nb nn 0 (lyM V))
  | n + 1 => arQ T V nb nn n (arP T V nb nn n)
theorem arQ_0 {T : TV} {V : CV} {nb nn n : Nat} {S : Int32 × Nat} (h : chL T V nb nn n S.1 S.2 nb 0 = none) : arQ T V nb nn n S = S := by unfold arQ; rw [h]
theorem arQ_1 {T : TV} {V : CV} {nb nn n b : Nat} {S : Int32 × Nat} (h : chL T V nb nn n S.1 S.2 nb 0 = some b) : arQ T V nb nn n S = (S.1 &&& (bt b ^^^ -1), S.2 - 1) := by unfold arQ; rw [h]
theorem arL_e {T : TV} {V : CV} {nb nn : Nat} : ∀ (g n : Nat) (S : AS3), n + g = nn → (S.1, S.2.1) = arP T V nb nn n → ∀ x, n ≤ x → x < nn → (arL T V nb nn g n S).2.2 x = wkI (chL T V nb nn x (arP T V nb nn x).1 (arP T V nb nn x).2 nb 0)
  | 0, n, S, h, _, x, h1, h2 => absurd h2 (by omega)
  | g + 1, n, S, h, e, x, h1, h2 => by
    have e1 : S.1 = (arP T V nb nn n).1 := congrArg Prod.fst e
    have e2 : S.2.1 = (arP T V nb nn n).2 := congrArg Prod.snd e
    have key : ∀ (g n : Nat) (S : AS3) (x : Nat), x < n → (arL T V nb nn g n S).2.2 x = S.2.2 x := fun g => by
      induction g with
      | zero => intro n S x _; rfl
      | succ g ih =>
        intro n S x hx
        rw [arL, ih (n + 1) _ x (by omega)]
        cases hc : chL T V nb nn n S.1 S.2.1 nb 0 with
        | none => rw [arS_0 hc]; exact pk_un (by omega)
        | some b => rw [arS_1 hc]; exact pk_un (by omega)
    rw [arL]
    cases hc : chL T V nb nn n S.1 S.2.1 nb 0 with
    | none =>
      have hc' := hc
      rw [e1, e2] at hc'
      rw [arS_0 hc]
      by_cases z : x = n
      · rw [key g (n + 1) _ x (by omega), z, hc']; exact pk_us
      · exact arL_e g (n + 1) _ (by omega) (by show (S.1, S.2.1) = arQ T V nb nn n (arP T V nb nn n); rw [arQ_0 hc']; exact e) x (by omega) h2
    | some b =>
      have hc' := hc
      rw [e1, e2] at hc'
      rw [arS_1 hc]
      by_cases z : x = n
      · rw [key g (n + 1) _ x (by omega), z, hc']; exact pk_us
      · exact arL_e g (n + 1) _ (by omega) (by show (S.1 &&& (bt b ^^^ -1), S.2.1 - 1) = arQ T V nb nn n (arP T V nb nn n); rw [arQ_1 hc', e1, e2]) x (by omega) h2
theorem arF_e {T : TV} {V : CV} {nb nn x : Nat} {bo : Nat → Int32} (hx : x < nn) : arF T V nb nn bo x = wkI (chL T V nb nn x (arP T V nb nn x).1 (arP T V nb nn x).2 nb 0) := arL_e nn 0 _ (by omega) rfl x (by omega) hx
theorem arP_m {T : TV} {V : CV} {nb nn : Nat} (hnn : nn ≤ 8) (hnb : nb ≤ 10) : ∀ n, n ≤ nn → (arP T V nb nn n).2 = mostF T V nb nn n (arP T V nb nn n).1
  | 0, _ => rfl
  | n + 1, h => by
    have ih := arP_m (T := T) (V := V) (nb := nb) hnn hnb n (by omega)
    have hp := chL_p (T := T) (V := V) (nb := nb) (nn := nn) (n := n) (fr := (arP T V nb nn n).1) (l := (arP T V nb nn n).2) nb 0
    show (arQ T V nb nn n (arP T V nb nn n)).2 = mostF T V nb nn (n + 1) (arQ T V nb nn n (arP T V nb nn n)).1
    cases hc : chL T V nb nn n (arP T V nb nn n).1 (arP T V nb nn n).2 nb 0 with
    | none =>
      rw [arQ_0 hc, ih]
      by_cases hm : V.2.2.2 5 n = -1
      · have h9 := most_dp (T := T) (V := V) (fr := (arP T V nb nn n).1) hnn hnb (by omega) hm
        rcases (dpL_p (T := T) (V := V) (nb := nb) (nn := nn) (n := n) (fr := (arP T V nb nn n).1) nb 0 (mostF T V nb nn (n + 1) (arP T V nb nn n).1)).2.2 with q | ⟨c, c1, c2, c3, c4⟩
        · rw [h9, q]
        · have := hp.2 hc c c1 c2
          unfold chB at this
          rw [c3, ih, h9, c4, Bool.true_and, nbf] at this
          exact absurd rfl this
      · exact most_sk hnn hnb (by omega) hm
    | some b =>
      obtain ⟨-, b2, b3⟩ := hp.1 b hc
      unfold chB at b3
      rw [Bool.and_eq_true_iff] at b3
      have := Nat.eq_of_beq_eq_true b3.2
      rw [arQ_1 hc]
      show (arP T V nb nn n).2 - 1 = _
      rw [← this]
      exact Nat.add_sub_cancel_left ..
theorem arP_gap {T : TV} {V : CV} {nb nn : Nat} : ∀ (g f : Nat), (∀ n, f ≤ n → n < f + g → ¬ V.2.2.2 5 n = -1) → arP T V nb nn (f + g) = arP T V nb nn f
  | 0, _, _ => rfl
  | g + 1, f, h => by
    have ih := arP_gap (T := T) (V := V) (nb := nb) (nn := nn) g f (fun n a b => h n a (by omega))
    show arQ T V nb nn (f + g) (arP T V nb nn (f + g)) = _
    cases hc : chL T V nb nn (f + g) (arP T V nb nn (f + g)).1 (arP T V nb nn (f + g)).2 nb 0 with
    | none => rw [arQ_0 hc]; exact ih
    | some b =>
      have h3 := ((chL_p (T := T) (V := V) (nb := nb) (nn := nn) (n := f + g) (fr := (arP T V nb nn (f + g)).1) (l := (arP T V nb nn (f + g)).2) nb 0).1 b hc).2.2
      unfold chB at h3
      rw [Bool.and_eq_true_iff] at h3
      exact absurd (ftB_e.mp h3.1).1 (h (f + g) (by omega) (by omega))
theorem L10_serve48 {d : Nat} {s : Nat → Int32} {A : Nat → Nat → Int32} {L : LL} {M : Nat → MR} {T : TV} {np nb nn : Nat} (hR : RT A T np nb nn) (hT : WT T np nb nn) {V : CV} (hC : CR False np nb nn (M 0) V) {cm x : Nat} {tc : Nat → Nat} (hx : x < nn) (hm9 : V.2.2.2 5 x = -1) (hc : TC V s A cm tc nn) (hB : TB T V nb nn cm tc A 0) : ∀ (g k u : Nat), k + g = cm → u < 1024 → (∀ b, b < nb → hb (arP T V nb nn (tcn cm nn tc k)).1 b = hb (frU V u) b) → (∀ j, j < k → tc j ≠ x) → J m10_serve (d + 3) 0 0 40 48 [(0, .ref 0), (1, .int (nI x)), (2, .int (nI u)), (3, .int (nI k))] [] (modW s A L M) 0 0 (fun r w' => w' = modW s A L M ∧ r = some (.int (svE (wkI (chL T V nb nn x (arP T V nb nn x).1 (arP T V nb nn x).2 nb 0))))) := by
  have hnb := hT.2.2.2.2.1
  have hnp := hT.2.2.2.1
  have hnn := hT.2.2.2.2.2.1
  have hcm := hc.2.1
  intro g
  induction g with
  | zero =>
    intro k u hk hu hI hnf
    obtain ⟨j, hj, ej⟩ := hc.2.2.2.2 x hx hm9
    exact absurd ej (hnf j (by omega))
  | succ g ih =>
    intro k u hk9 hu hI hnf
    have hk : k < cm := by omega
    obtain ⟨e54, htk9, hm⟩ := hc.2.2.1 k hk
    have htb := TB.nx (k := k) (fun j h1 h2 => hB j (by omega) h2) hk hc hnn hnb
    have htk : A 56 (1024 * k + u) = nI (mostF T V nb nn (tc k) (frU V u)) := by
      have := hB k (by omega) (by omega) u hu
      unfold tcn at this
      rw [if_pos hk] at this
      exact this
    have etc : tcn cm nn tc k = tc k := if_pos hk
    rw [etc] at hI
    have eM : mostF T V nb nn (tc k) (frU V u) = (arP T V nb nn (tc k)).2 := by
      rw [arP_m hnn hnb (tc k) (by omega)]
      exact most_c hnn hnb (by omega) (fun b hb9 => (hI b hb9).symm)
    have eC : chL T V nb nn (tc k) (frU V u) (mostF T V nb nn (tc k) (frU V u)) nb 0 = chL T V nb nn (tc k) (arP T V nb nn (tc k)).1 (arP T V nb nn (tc k)).2 nb 0 := by
      rw [eM]
      exact chL_c hnn hnb htk9 (fun b hb9 => (hI b hb9).symm) nb 0 (by omega)
    have eG : arP T V nb nn (tcn cm nn tc (k + 1)) = arP T V nb nn (tc k + 1) := by
      obtain ⟨g1, g2, g3⟩ := hc.gap hk
      have := arP_gap (T := T) (V := V) (nb := nb) (nn := nn) (tcn cm nn tc (k + 1) - (tc k + 1)) (tc k + 1) (fun n a b => g3 n a (by omega))
      rw [show tc k + 1 + (tcn cm nn tc (k + 1) - (tc k + 1)) = tcn cm nn tc (k + 1) by omega] at this
      exact this
    refine J_iload_n (pc := 48) D10_serve_48 rfl ?_
    refine J_aload_n (pc := 49) D10_serve_49 rfl ?_
    refine J_getf (pc := 50) D10_serve_50 fl10_456 rfl rfl ?_
    rw [hc.1]
    refine J_icmp_ge (pc := 53) (tgt := 111) D10_serve_53 (by decide) (fun h53 => absurd h53 (nI_ge (by omega) (by omega))) (fun h53 => ?_)
    refine J_aload_n (pc := 56) D10_serve_56 rfl ?_
    refine J_iload_n (pc := 57) D10_serve_57 rfl ?_
    refine J_iload_n (pc := 58) D10_serve_58 rfl ?_
    refine J_callVTR (pc := 59) (ac := [.int _, .int _]) D10_serve_59 m10_servedBy_v t1766 (c10_servedBy (d := d) hR hT hC hk (by omega) hu e54 htk9 hm htb htk) (by omega) rfl rfl rfl rfl (fun _ => rfl) rfl rfl rfl ?_
    refine J_istore (pc := 62) D10_serve_62 rfl ?_
    refine J_aload_n (pc := 64) D10_serve_64 rfl ?_
    refine J_getf (pc := 65) D10_serve_65 fl10_111 rfl rfl ?_
    refine J_iload_n (pc := 68) D10_serve_68 rfl ?_
    refine J_mald (pc := 69) D10_serve_69 ma_54 rfl (by omega) rfl ?_
    refine J_iload_n (pc := 70) D10_serve_70 rfl ?_
    rw [e54]
    refine J_icmp_ne (pc := 71) (tgt := 88) D10_serve_71 (by decide) (fun h71 => ?_) (fun h71 => ?_)
    · have hne : tc k ≠ x := fun z => h71 (by rw [z])
      have hnf' : ∀ j, j < k + 1 → tc j ≠ x := fun j hj => by
        by_cases e : j = k
        · rw [e]; exact hne
        · exact hnf j (by omega)
      refine J_iload_n (pc := 88) D10_serve_88 rfl ?_
      refine J_iload (pc := 89) D10_serve_89 rfl ?_
      refine J_iconst (pc := 91) (v := (-1)) D10_serve_91 (by decide) ?_
      refine J_icmp_ne (pc := 92) (tgt := 99) D10_serve_92 (by decide) (fun h92 => ?_) (fun h92 => ?_)
      · refine J_iconst (pc := 99) (v := (nI 1)) D10_serve_99 (by decide) ?_
        refine J_iload (pc := 100) D10_serve_100 rfl ?_
        refine J_ishl (pc := 102) D10_serve_102 ?_
        refine J_ior (pc := 103) D10_serve_103 ?_
        refine J_istore_n (pc := 104) D10_serve_104 rfl ?_
        refine J_iinc (pc := 105) D10_serve_105 rfl (nI_inc _) rfl ?_
        refine J_goto (pc := 108) (tgt := 48) D10_serve_108 (by decide) ?_
        obtain ⟨b1, eb1⟩ := wkI_some h92
        have hb1 := ((chL_p (T := T) (V := V) (nb := nb) (nn := nn) (n := tc k) (fr := frU V u) (l := mostF T V nb nn (tc k) (frU V u)) nb 0).1 b1 eb1).2.1
        refine J_lk [(0, .ref 0), (1, .int (nI x)), (2, .int (nI (u ||| 2 ^ b1))), (3, .int (nI (k + 1)))] (by rw [eb1, show wkI (some b1) = nI b1 from rfl, bitN_p (by omega), nI_or]; rfl) ?_
        refine ih (k + 1) (u ||| 2 ^ b1) (by omega) (or_lt hu (by omega)) (fun b hb9 => ?_) hnf'
        rw [eG, show arP T V nb nn (tc k + 1) = _ from arQ_1 (by rw [← eC]; exact eb1), fr_or (by omega) (by omega), hb_cl (by omega) (by omega), hb_cl (by omega) (by omega), hI b hb9]
      · have h92' := eq_true h92
        refine J_iconst (pc := 95) (v := (nI 0)) D10_serve_95 (by decide) ?_
        refine J_goto (pc := 96) (tgt := 103) D10_serve_96 (by decide) ?_
        refine J_ior (pc := 103) D10_serve_103 ?_
        refine J_istore_n (pc := 104) D10_serve_104 rfl ?_
        refine J_iinc (pc := 105) D10_serve_105 rfl (nI_inc _) rfl ?_
        refine J_goto (pc := 108) (tgt := 48) D10_serve_108 (by decide) ?_
        have hn9 := wkI_nn (fun w e => ((chL_p (T := T) (V := V) (nb := nb) (nn := nn) (n := tc k) (fr := frU V u) (l := mostF T V nb nn (tc k) (frU V u)) nb 0).1 w e).2.1) (by omega) h92
        refine J_lk [(0, .ref 0), (1, .int (nI x)), (2, .int (nI u)), (3, .int (nI (k + 1)))] (by rw [or0]; rfl) ?_
        refine ih (k + 1) u (by omega) hu (fun b hb9 => ?_) hnf'
        rw [eG, show arP T V nb nn (tc k + 1) = arP T V nb nn (tc k) from arQ_0 (by rw [← eC]; exact hn9)]
        exact hI b hb9
    · have h71' := eq_true h71
      have ex9 : tc k = x := nI_eqI (by omega) (by omega) h71
      refine J_iload (pc := 74) D10_serve_74 rfl ?_
      refine J_iconst (pc := 76) (v := (-1)) D10_serve_76 (by decide) ?_
      refine J_icmp_ne (pc := 77) (tgt := 85) D10_serve_77 (by decide) (fun h77 => ?_) (fun h77 => ?_)
      · refine J_iload (pc := 85) D10_serve_85 rfl ?_
        refine J_iret (pc := 87) D10_serve_87 rfl ?_
        exact ⟨rfl, congrArg (fun q => some (Value.int q)) (by rw [← ex9, ← eC, svE, if_neg h77])⟩
      · have h77' := eq_true h77
        refine J_bipush (pc := 80) (v := (-2)) D10_serve_80 (by decide) ?_
        refine J_goto (pc := 82) (tgt := 87) D10_serve_82 (by decide) ?_
        refine J_iret (pc := 87) D10_serve_87 rfl ?_
        exact ⟨rfl, congrArg (fun q => some (Value.int q)) (by rw [← ex9, ← eC, svE, if_pos h77])⟩
theorem c10_serve {d : Nat} {s : Nat → Int32} {A : Nat → Nat → Int32} {L : LL} {M : Nat → MR} {T : TV} {np nb nn : Nat} (hR : RT A T np nb nn) (hT : WT T np nb nn) {V : CV} (hC : CR False np nb nn (M 0) V) (hY : YI T V nn) {x : Int32} {bo : Nat → Int32} : Tr (d + 3) 0 0 m10_serve [.ref 0, .int x] (modW s A L M) (mR s A M (.int (svF T V nb nn bo x))) := by
  have hnb := hT.2.2.2.2.1
  have hnp := hT.2.2.2.1
  have hnn := hT.2.2.2.2.2.1
  refine Tr.intro (by decide) rfl ?_
  refine J_aload_n (pc := 0) D10_serve_0 rfl ?_
  refine J_iconst (pc := 1) (v := (nI 0)) D10_serve_1 (by decide) ?_
  refine J_mput (pc := 2) D10_serve_2 fp10_139 ms_0 ?_
  refine J_aload_n (pc := 5) D10_serve_5 rfl ?_
  refine J_iload_n (pc := 6) D10_serve_6 rfl ?_
  refine J_callVTR (pc := 7) (ac := [.int _]) D10_serve_7 m10_isNeed_v t1598 (c10_isNeed (d := d + 2) hR) (by omega) rfl rfl rfl rfl (fun _ => rfl) rfl rfl rfl ?_
  refine J_if_eq (pc := 10) (tgt := 38) D10_serve_10 (by decide) (fun h10 => ?_) (fun h10 => ?_)
  · have h10' := eq_true h10
    replace h10 := i01_z h10
    refine J_iconst (pc := 38) (v := (-1)) D10_serve_38 (by decide) ?_
    refine J_iret (pc := 39) D10_serve_39 rfl ?_
    exact ⟨congrArg (fun q => some (Value.int q)) (by rw [svF, if_neg (fun z => h10 z.1)]), _, _, _, _, rfl, PX.s0⟩
  · replace h10 := i01_nz h10
    obtain ⟨x1, hx1, rfl⟩ := ixB_t h10 (by omega)
    have e5 := hC.2.2.2.2.1 x1 (by omega)
    have e13 := (hR.2.2.2.2.2.2.2.2.1 x1 hx1).2.1
    obtain ⟨y, hy, eY, hN⟩ := hY
    obtain ⟨v, hv9, ev, hv⟩ := hN x1 hx1
    have e0 := hC.1
    refine J_aload_n (pc := 13) D10_serve_13 rfl ?_
    refine J_getf (pc := 14) D10_serve_14 fl10_102 rfl rfl ?_
    refine J_iload_n (pc := 17) D10_serve_17 rfl ?_
    refine J_mcld (pc := 18) (stp := 8) D10_serve_18 mc_5 (ix0 _ _) (by omega) (by omega) rfl ?_
    refine J_iconst (pc := 19) (v := (-1)) D10_serve_19 (by decide) ?_
    rw [e5]
    refine J_icmp_ne (pc := 20) (tgt := 38) D10_serve_20 (by decide) (fun h20 => ?_) (fun h20 => ?_)
    · refine J_iconst (pc := 38) (v := (-1)) D10_serve_38 (by decide) ?_
      refine J_iret (pc := 39) D10_serve_39 rfl ?_
      exact ⟨congrArg (fun q => some (Value.int q)) (by rw [svF, if_neg (fun z => h20 (by have z2 := z.2; rw [nI_clamp (by omega)] at z2; exact z2))]), _, _, _, _, rfl, PX.s0⟩
    · have h20' := eq_true h20
      refine J_aload_n (pc := 23) D10_serve_23 rfl ?_
      refine J_getf (pc := 24) D10_serve_24 fl10_43 rfl rfl ?_
      refine J_iload_n (pc := 27) D10_serve_27 rfl ?_
      refine J_mald (pc := 28) D10_serve_28 ma_13 rfl (by omega) rfl ?_
      refine J_aload_n (pc := 29) D10_serve_29 rfl ?_
      refine J_getf (pc := 30) D10_serve_30 fl10_75 rfl rfl ?_
      refine J_iconst (pc := 33) (v := (nI 0)) D10_serve_33 (by decide) ?_
      refine J_msld (pc := 34) D10_serve_34 mq_year rfl (by omega) ?_
      rw [e13, e0, ev, eY]
      refine J_icmp_ge (pc := 35) (tgt := 40) D10_serve_35 (by decide) (fun h35 => ?_) (fun h35 => absurd (by exact (nI_leI (by omega) (by omega)).mpr (hv.mp h20)) h35)
      refine J_aload_n (pc := 40) D10_serve_40 rfl ?_
      refine J_callVT (pc := 41) (ac := []) D10_serve_41 m10_layServe_v t1758 (c10_layServe (d := d) (s := updI s 0 (nI 0)) hR hT hC ⟨y, hy, eY, hN⟩) (by omega) rfl rfl rfl rfl rfl rfl rfl (fun r w' hq hl => ?_)
      obtain ⟨rfl, cm, tc, s2, A2, rfl, hP2, hc2, hB2⟩ := hq
      refine J_iconst (pc := 44) (v := (nI 0)) D10_serve_44 (by decide) ?_
      refine J_istore_n (pc := 45) D10_serve_45 rfl ?_
      refine J_iconst (pc := 46) (v := (nI 0)) D10_serve_46 (by decide) ?_
      refine J_istore_n (pc := 47) D10_serve_47 rfl ?_
      obtain ⟨g1, g2⟩ := hc2.gap0
      have hM2 : CR False np nb nn (M 0) V := hC
      have h0 := arP_gap (T := T) (V := V) (nb := nb) (nn := nn) (tcn cm nn tc 0) 0 (fun n a b => g2 n (by omega))
      rw [Nat.zero_add] at h0
      refine J_lk [(0, .ref 0), (1, .int (nI x1)), (2, .int (nI 0)), (3, .int (nI 0))] rfl ?_
      refine J_mono (L10_serve48 (s := s2) (A := A2) (PX.rt hP2 hR) hT hC hx1 h20 hc2 hB2 cm 0 0 (by omega) (by decide) (fun b hb9 => ?_) (fun j hj => absurd hj (by omega))) ?_
      · rw [h0]; exact (fr_0 (by omega)).symm
      rintro r w' ⟨rfl, rfl⟩
      exact ⟨congrArg (fun q => some (Value.int q)) (by rw [svF, if_pos ⟨h10, by rw [nI_clamp (by omega)]; exact h20⟩, nI_clamp (by omega), arF_e hx1]), _, _, _, _, rfl, (PX.s0.tr hP2)⟩
