/-! THE MODEL: notes, count, fault, bottle (own program mod_n9.py) -/
/-- what is noted, on both sides -/
def NR (s : Nat → Int32) (A : Nat → Nat → Int32) (N : NV) (nb : Nat) : Prop := s 57 = nI N.1 ∧ s 58 = N.2.1 ∧ N.1 ≤ 24 ∧ (N.2.1 = -1 ∨ ∃ k, k ≤ N.1 ∧ N.2.1 = nI k) ∧ ∀ i, i < N.1 → A 62 i = N.2.2 5 i ∧
  ((N.2.2 5 i = -1 ∧ A 59 i = N.2.2 2 i ∧ A 60 i = N.2.2 3 i ∧ A 61 i = N.2.2 4 i ∧ (∃ y, 1 ≤ y ∧ y ≤ 60 ∧ N.2.2 2 i = nI y) ∧ (∃ b, b < nb ∧ N.2.2 3 i = nI b) ∧ (N.2.2 4 i = 0 ∨ N.2.2 4 i = nI 1)) ∨
   ∃ j, j < i ∧ N.2.2 5 i = nI j ∧ N.2.2 2 i = nI 0 ∧ N.2.2 3 i = nI 0)
theorem NR.c {s s' : Nat → Int32} {A A' : Nat → Nat → Int32} {N : NV} {nb : Nat} (h : NR s A N nb) (e57 : s' 57 = s 57) (e58 : s' 58 = s 58) (e : ∀ k, k = 59 ∨ k = 60 ∨ k = 61 ∨ k = 62 → A' k = A k) : NR s' A' N nb := by
  unfold NR
  rw [e57, e58, e 59 (by omega), e 60 (by omega), e 61 (by omega), e 62 (by omega)]
  exact h
/-- how many are known -/
def knN9 (N : NV) : Nat := if N.2.1 = -1 then N.1 else N.2.1.toNatClampNeg
theorem NR.kn {s : Nat → Int32} {A : Nat → Nat → Int32} {N : NV} {nb : Nat} (h : NR s A N nb) : knN9 N ≤ N.1 ∧ knF N.1 N.2.1 = nI (knN9 N) ∧ (if N.2.1 = -1 then nI N.1 else N.2.1) = nI (knN9 N) := by
  obtain ⟨-, -, h24, hk, -⟩ := h
  unfold knN9 knF
  rcases hk with e | ⟨k, h1, e⟩
  · rw [if_pos e, if_pos e, if_pos e]; exact ⟨Nat.le_refl _, rfl, rfl⟩
  · have hne : ¬ N.2.1 = -1 := by rw [e]; exact nI_nm (by omega)
    rw [if_neg hne, if_neg hne, if_neg hne, e, nI_clamp (by omega)]
    refine ⟨h1, ?_, rfl⟩
    unfold imin
    rw [if_neg (Int32.not_lt.mpr (nI_le h1 (by omega)))]
theorem NR.ni {s : Nat → Int32} {A : Nat → Nat → Int32} {N : NV} {nb : Nat} (h : NR s A N nb) (hnb : nb ≤ 10) : NI N (knN9 N) := by
  obtain ⟨k1, k2, -⟩ := h.kn
  refine ⟨h.2.2.1, k1, k2, fun i hi => ?_⟩
  have h24 := h.2.2.1
  rcases (h.2.2.2.2 i hi).2 with ⟨q1, -, -, -, ⟨y, hy1, hy2, ey⟩, ⟨b, hb, eb⟩, -⟩ | ⟨j, hj, ej, e2, e3⟩
  · exact ⟨⟨y, hy2, ey⟩, ⟨b, by omega, eb⟩, Or.inl q1⟩
  · exact ⟨⟨0, by omega, e2⟩, ⟨0, by omega, e3⟩, Or.inr ⟨j, hj, ej⟩⟩
theorem c10_knownMany {d : Nat} {s : Nat → Int32} {A : Nat → Nat → Int32} {L : LL} {M : Nat → MR} {N : NV} {nb : Nat} (hN : NR s A N nb) : TR d m10_knownMany [.ref 0] (modW s A L M) (.int (nI (knN9 N))) := by
  have hk := hN.kn.2.2
  refine Tr.intro (by decide) rfl ?_
  refine J_aload_n (pc := 0) D10_knownMany_0 rfl ?_
  refine J_getf (pc := 1) D10_knownMany_1 fl10_117 rfl rfl ?_
  refine J_iconst (pc := 4) (v := (-1)) D10_knownMany_4 (by decide) ?_
  rw [hN.2.1]
  refine J_icmp_ne (pc := 5) (tgt := 15) D10_knownMany_5 (by decide) (fun h5 => ?_) (fun h5 => ?_)
  · refine J_aload_n (pc := 15) D10_knownMany_15 rfl ?_
    refine J_getf (pc := 16) D10_knownMany_16 fl10_117 rfl rfl ?_
    refine J_iret (pc := 19) D10_knownMany_19 rfl ?_
    exact ⟨rfl, congrArg (fun q => some (Value.int q)) (by rw [if_neg h5] at hk; rw [hN.2.1]; exact hk)⟩
  · have h5' := eq_true h5
    refine J_aload_n (pc := 8) D10_knownMany_8 rfl ?_
    refine J_getf (pc := 9) D10_knownMany_9 fl10_295 rfl rfl ?_
    refine J_goto (pc := 12) (tgt := 19) D10_knownMany_12 (by decide) ?_
    refine J_iret (pc := 19) D10_knownMany_19 rfl ?_
    exact ⟨rfl, congrArg (fun q => some (Value.int q)) (by rw [if_pos h5] at hk; rw [hN.1]; exact hk)⟩
theorem seOk_i {nb : Nat} {N : NV} {x b : Int32} (h1 : nI 1 ≤ x ∧ x ≤ nI 60) (h2 : ixB nb b = true) (h3 : N.1 < 24) : seOk nb N x b = true := by unfold seOk; rw [decide_eq_true h1, h2, decide_eq_true h3]; rfl
theorem c10_see {d : Nat} {s : Nat → Int32} {A : Nat → Nat → Int32} {L : LL} {M : Nat → MR} {T : TV} {np nb nn : Nat} (hR : RT A T np nb nn) (hT : WT T np nb nn) {N : NV} (hN : NR s A N nb) {x b z : Int32} (hz : vp_nar .boolean z = z) : Tr (d + 1) 0 0 m10_see [.ref 0, .int x, .int b, .int z] (modW s A L M) (fun r w' => r = some (.int (seA nb N x b)) ∧ ((¬ seOk nb N x b = true ∧ w' = modW (updI s 0 (nI 0)) A L M) ∨ (seOk nb N x b = true ∧ w' = modW (updI (updI s 0 (nI 0)) 57 (nI (N.1 + 1))) (upA (upA (upA (upA A 59 (upd (A 59) N.1 x)) 60 (upd (A 60) N.1 b)) 61 (upd (A 61) N.1 z)) 62 (upd (A 62) N.1 (-1))) L M))) := by
  have h24 := hN.2.2.1
  have e57 := hN.1
  refine Tr.intro (by decide) rfl ?_
  refine J_aload_n (pc := 0) D10_see_0 rfl ?_
  refine J_iconst (pc := 1) (v := (nI 0)) D10_see_1 (by decide) ?_
  refine J_mput (pc := 2) D10_see_2 fp10_139 ms_0 ?_
  refine J_iload_n (pc := 5) D10_see_5 rfl ?_
  refine J_iconst (pc := 6) (v := (nI 1)) D10_see_6 (by decide) ?_
  refine J_icmp_lt (pc := 7) (tgt := 33) D10_see_7 (by decide) (fun h7 => ?_) (fun h7 => ?_)
  · have h7' := Int32.not_le.mpr h7
    refine J_iconst (pc := 33) (v := (-1)) D10_see_33 (by decide) ?_
    refine J_iret (pc := 34) D10_see_34 rfl ?_
    exact ⟨congrArg (fun q => some (Value.int q)) (by rw [seA, if_neg (fun q => absurd (seOk_t q).1.1 (Int32.not_le.mpr h7))]), Or.inl ⟨fun q => absurd (seOk_t q).1.1 (Int32.not_le.mpr h7), rfl⟩⟩
  · have h7' := Int32.not_lt.mp h7
    refine J_iload_n (pc := 10) D10_see_10 rfl ?_
    refine J_bipush (pc := 11) (v := (nI 60)) D10_see_11 (by decide) ?_
    refine J_icmp_gt (pc := 13) (tgt := 33) D10_see_13 (by decide) (fun h13 => ?_) (fun h13 => ?_)
    · have h13' := Int32.not_le.mpr h13
      refine J_iconst (pc := 33) (v := (-1)) D10_see_33 (by decide) ?_
      refine J_iret (pc := 34) D10_see_34 rfl ?_
      exact ⟨congrArg (fun q => some (Value.int q)) (by rw [seA, if_neg (fun q => absurd (seOk_t q).1.2 (Int32.not_le.mpr h13))]), Or.inl ⟨fun q => absurd (seOk_t q).1.2 (Int32.not_le.mpr h13), rfl⟩⟩
    · have h13' := Int32.not_lt.mp h13
      refine J_aload_n (pc := 16) D10_see_16 rfl ?_
      refine J_iload_n (pc := 17) D10_see_17 rfl ?_
      refine J_callVTR (pc := 18) (ac := [.int _]) D10_see_18 m10_isBottle_v t1567 (c10_isBottle (d := d) hR) (by omega) rfl rfl rfl rfl (fun _ => rfl) rfl rfl rfl ?_
      refine J_if_eq (pc := 21) (tgt := 33) D10_see_21 (by decide) (fun h21 => ?_) (fun h21 => ?_)
      · have h21' := eq_true h21
        replace h21 := i01_z h21
        refine J_iconst (pc := 33) (v := (-1)) D10_see_33 (by decide) ?_
        refine J_iret (pc := 34) D10_see_34 rfl ?_
        exact ⟨congrArg (fun q => some (Value.int q)) (by rw [seA, if_neg (fun q => h21 (seOk_t q).2.1)]), Or.inl ⟨fun q => h21 (seOk_t q).2.1, rfl⟩⟩
      · replace h21 := i01_nz h21
        refine J_aload_n (pc := 24) D10_see_24 rfl ?_
        refine J_getf (pc := 25) D10_see_25 fl10_295 rfl rfl ?_
        refine J_bipush (pc := 28) (v := (nI 24)) D10_see_28 (by decide) ?_
        refine J_st (.int (nI 24) :: .int (nI N.1) :: []) (by rw [← e57]; rfl) ?_
        refine J_icmp_ne (pc := 30) (tgt := 35) D10_see_30 (by decide) (fun h30 => ?_) (fun h30 => ?_)
        · have hl9 : N.1 < 24 := by
            rcases Nat.lt_or_ge N.1 24 with q | q
            · exact q
            · exact absurd (congrArg nI (show N.1 = 24 by omega)) h30
          refine J_aload_n (pc := 35) D10_see_35 rfl ?_
          refine J_getf (pc := 36) D10_see_36 fl10_120 rfl rfl ?_
          refine J_aload_n (pc := 39) D10_see_39 rfl ?_
          refine J_getf (pc := 40) D10_see_40 fl10_295 rfl rfl ?_
          refine J_iload_n (pc := 43) D10_see_43 rfl ?_
          refine J_mast (pc := 44) D10_see_44 ma_59 e57 (by omega) rfl ?_
          refine J_aload_n (pc := 45) D10_see_45 rfl ?_
          refine J_getf (pc := 46) D10_see_46 fl10_123 rfl rfl ?_
          refine J_aload_n (pc := 49) D10_see_49 rfl ?_
          refine J_getf (pc := 50) D10_see_50 fl10_295 rfl rfl ?_
          refine J_iload_n (pc := 53) D10_see_53 rfl ?_
          refine J_mast (pc := 54) D10_see_54 ma_60 e57 (by omega) rfl ?_
          refine J_aload_n (pc := 55) D10_see_55 rfl ?_
          refine J_getf (pc := 56) D10_see_56 fl10_126 rfl rfl ?_
          refine J_aload_n (pc := 59) D10_see_59 rfl ?_
          refine J_getf (pc := 60) D10_see_60 fl10_295 rfl rfl ?_
          refine J_iload_n (pc := 63) D10_see_63 rfl ?_
          refine J_mzst (pc := 64) D10_see_64 ma_61 e57 (by omega) rfl hz ?_
          refine J_aload_n (pc := 65) D10_see_65 rfl ?_
          refine J_getf (pc := 66) D10_see_66 fl10_130 rfl rfl ?_
          refine J_aload_n (pc := 69) D10_see_69 rfl ?_
          refine J_getf (pc := 70) D10_see_70 fl10_295 rfl rfl ?_
          refine J_iconst (pc := 73) (v := (-1)) D10_see_73 (by decide) ?_
          refine J_mast (pc := 74) D10_see_74 ma_62 e57 (by omega) rfl ?_
          refine J_aload_n (pc := 75) D10_see_75 rfl ?_
          refine J_dup (pc := 76) D10_see_76 rfl ?_
          refine J_getf (pc := 77) D10_see_77 fl10_295 rfl rfl ?_
          refine J_iconst (pc := 80) (v := (nI 1)) D10_see_80 (by decide) ?_
          refine J_iadd (pc := 81) D10_see_81 ?_
          refine J_mput (pc := 82) D10_see_82 fp10_295 ms_57 ?_
          refine J_aload_n (pc := 85) D10_see_85 rfl ?_
          refine J_getf (pc := 86) D10_see_86 fl10_295 rfl rfl ?_
          refine J_iconst (pc := 89) (v := (nI 1)) D10_see_89 (by decide) ?_
          refine J_isub (pc := 90) D10_see_90 ?_
          refine J_iret (pc := 91) D10_see_91 rfl ?_
          have ok := seOk_i (N := N) ⟨Int32.not_lt.mp h7, Int32.not_lt.mp h13⟩ h21 hl9
          refine ⟨congrArg (fun q => some (Value.int q)) ?_, Or.inr ⟨ok, ?_⟩⟩
          · show s 57 + nI 1 - nI 1 = _
            rw [seA, if_pos ok, e57, nI_add]; exact nI_pred N.1
          · rw [show updI s 0 (nI 0) 57 = nI N.1 from e57, nI_add]; rfl
        · have h30' := eq_true h30
          refine J_iconst (pc := 33) (v := (-1)) D10_see_33 (by decide) ?_
          refine J_iret (pc := 34) D10_see_34 rfl ?_
          exact ⟨congrArg (fun q => some (Value.int q)) (by rw [seA, if_neg (fun q => by have := (seOk_t q).2.2; rw [nI_eqI (by omega) (by decide) h30] at this; omega)]), Or.inl ⟨fun q => by have := (seOk_t q).2.2; rw [nI_eqI (by omega) (by decide) h30] at this; omega, rfl⟩⟩
theorem NR.see {s : Nat → Int32} {A : Nat → Nat → Int32} {N : NV} {nb : Nat} (hN : NR s A N nb) {s' : Nat → Int32} {x b z : Int32} (ok : seOk nb N x b = true) (hnb : nb ≤ 10) (hz : z = 0 ∨ z = nI 1) (e57 : s' 57 = nI (N.1 + 1)) (e58 : s' 58 = s 58) : NR s' (upA (upA (upA (upA A 59 (upd (A 59) N.1 x)) 60 (upd (A 60) N.1 b)) 61 (upd (A 61) N.1 z)) 62 (upd (A 62) N.1 (-1))) (seN nb N x b z) nb := by
  obtain ⟨o1, o2, o3⟩ := seOk_t ok
  obtain ⟨y, hy, rfl⟩ := nI_of (x := x) (Int32.not_lt.mpr (Int32.le_trans (by decide) o1.1))
  have hy1 := (nI_leI (by omega) hy).mp o1.1
  have hy2 := (nI_leI hy (by omega)).mp o1.2
  obtain ⟨b1, hb1, rfl⟩ := ixB_t o2 (by omega)
  rw [seN, if_pos ok]
  refine ⟨e57, e58.trans hN.2.1, by show N.1 + 1 ≤ 24; omega, hN.2.2.2.1.imp id (fun ⟨k, h1, h2⟩ => ⟨k, by show k ≤ N.1 + 1; omega, h2⟩), fun i hi => ?_⟩
  show upd (A 62) N.1 (-1) i = upd (N.2.2 5) N.1 (-1) i ∧ _
  by_cases e : i = N.1
  · subst e
    refine ⟨by rw [pk_us, pk_us], Or.inl ⟨pk_us, ?_, ?_, ?_, ⟨y, hy1, hy2, pk_us⟩, ⟨b1, hb1, pk_us⟩, by show upd (N.2.2 4) N.1 z N.1 = 0 ∨ _; rw [pk_us]; exact hz.imp id (fun q => pk_us.trans q)⟩⟩
    · exact pk_us.trans pk_us.symm
    · exact pk_us.trans pk_us.symm
    · exact pk_us.trans pk_us.symm
  · have hi2 : i < N.1 := by have : i < N.1 + 1 := hi; omega
    have h9 := hN.2.2.2.2 i hi2
    refine ⟨by rw [pk_un e, pk_un e]; exact h9.1, ?_⟩
    rcases h9.2 with ⟨q1, q2, q3, q4, q5, q6, q7⟩ | ⟨j, hj, q1, q2, q3⟩
    · refine Or.inl ⟨(pk_un e).trans q1, ?_, ?_, ?_, ?_, ?_, ?_⟩
      · exact (pk_un e).trans (q2.trans (pk_un e).symm)
      · exact (pk_un e).trans (q3.trans (pk_un e).symm)
      · exact (pk_un e).trans (q4.trans (pk_un e).symm)
      · obtain ⟨y, a1, a2, a3⟩ := q5; exact ⟨y, a1, a2, (pk_un e).trans a3⟩
      · obtain ⟨y, a1, a3⟩ := q6; exact ⟨y, a1, (pk_un e).trans a3⟩
      · exact q7.imp (fun a => (pk_un e).trans a) (fun a => (pk_un e).trans a)
    · exact Or.inr ⟨j, hj, (pk_un e).trans q1, (pk_un e).trans q2, (pk_un e).trans q3⟩
theorem ouOk_t {N : NV} {x : Int32} (h : ouOk N x = true) : ixB N.1 x = true ∧ N.1 < 24 := ⟨(Bool.and_eq_true_iff.mp h).1, of_decide_eq_true (Bool.and_eq_true_iff.mp h).2⟩
theorem c10_out {d : Nat} {s : Nat → Int32} {A : Nat → Nat → Int32} {L : LL} {M : Nat → MR} {N : NV} {nb : Nat} (hN : NR s A N nb) {x : Int32} : Tr d 0 0 m10_out [.ref 0, .int x] (modW s A L M) (fun r w' => r = some (.int (ouA N x)) ∧ ((¬ ouOk N x = true ∧ w' = modW (updI s 0 (nI 0)) A L M) ∨ (ouOk N x = true ∧ w' = modW (updI (updI s 0 (nI 0)) 57 (nI (N.1 + 1))) (upA A 62 (upd (A 62) N.1 x)) L M))) := by
  have h24 := hN.2.2.1
  have e57 := hN.1
  refine Tr.intro (by decide) rfl ?_
  refine J_aload_n (pc := 0) D10_out_0 rfl ?_
  refine J_iconst (pc := 1) (v := (nI 0)) D10_out_1 (by decide) ?_
  refine J_mput (pc := 2) D10_out_2 fp10_139 ms_0 ?_
  refine J_iload_n (pc := 5) D10_out_5 rfl ?_
  refine J_if_lt (pc := 6) (tgt := 26) D10_out_6 (by decide) (fun h6 => ?_) (fun h6 => ?_)
  · have h6' := Int32.not_le.mpr h6
    refine J_iconst (pc := 26) (v := (-1)) D10_out_26 (by decide) ?_
    refine J_iret (pc := 27) D10_out_27 rfl ?_
    exact ⟨congrArg (fun q => some (Value.int q)) (by rw [ouA, if_neg (fun q => ixB_0 h6 (ouOk_t q).1)]), Or.inl ⟨fun q => ixB_0 h6 (ouOk_t q).1, rfl⟩⟩
  · have h6' := Int32.not_lt.mp h6
    refine J_iload_n (pc := 9) D10_out_9 rfl ?_
    refine J_aload_n (pc := 10) D10_out_10 rfl ?_
    refine J_getf (pc := 11) D10_out_11 fl10_295 rfl rfl ?_
    refine J_st (.int (nI N.1) :: .int x :: []) (by rw [← e57]; rfl) ?_
    refine J_icmp_ge (pc := 14) (tgt := 26) D10_out_14 (by decide) (fun h14 => ?_) (fun h14 => ?_)
    · have h14' := Int32.not_lt.mpr h14
      refine J_iconst (pc := 26) (v := (-1)) D10_out_26 (by decide) ?_
      refine J_iret (pc := 27) D10_out_27 rfl ?_
      exact ⟨congrArg (fun q => some (Value.int q)) (by rw [ouA, if_neg (fun q => ixB_hi h14 (ouOk_t q).1)]), Or.inl ⟨fun q => ixB_hi h14 (ouOk_t q).1, rfl⟩⟩
    · have h14' := Int32.not_le.mp h14
      refine J_aload_n (pc := 17) D10_out_17 rfl ?_
      refine J_getf (pc := 18) D10_out_18 fl10_295 rfl rfl ?_
      refine J_bipush (pc := 21) (v := (nI 24)) D10_out_21 (by decide) ?_
      refine J_st (.int (nI 24) :: .int (nI N.1) :: []) (by rw [← e57]; rfl) ?_
      refine J_icmp_ne (pc := 23) (tgt := 28) D10_out_23 (by decide) (fun h23 => ?_) (fun h23 => ?_)
      · have hl9 : N.1 < 24 := by
          rcases Nat.lt_or_ge N.1 24 with q | q
          · exact q
          · exact absurd (congrArg nI (show N.1 = 24 by omega)) h23
        refine J_aload_n (pc := 28) D10_out_28 rfl ?_
        refine J_getf (pc := 29) D10_out_29 fl10_130 rfl rfl ?_
        refine J_aload_n (pc := 32) D10_out_32 rfl ?_
        refine J_getf (pc := 33) D10_out_33 fl10_295 rfl rfl ?_
        refine J_iload_n (pc := 36) D10_out_36 rfl ?_
        refine J_mast (pc := 37) D10_out_37 ma_62 e57 (by omega) rfl ?_
        refine J_aload_n (pc := 38) D10_out_38 rfl ?_
        refine J_dup (pc := 39) D10_out_39 rfl ?_
        refine J_getf (pc := 40) D10_out_40 fl10_295 rfl rfl ?_
        refine J_iconst (pc := 43) (v := (nI 1)) D10_out_43 (by decide) ?_
        refine J_iadd (pc := 44) D10_out_44 ?_
        refine J_mput (pc := 45) D10_out_45 fp10_295 ms_57 ?_
        refine J_aload_n (pc := 48) D10_out_48 rfl ?_
        refine J_getf (pc := 49) D10_out_49 fl10_295 rfl rfl ?_
        refine J_iconst (pc := 52) (v := (nI 1)) D10_out_52 (by decide) ?_
        refine J_isub (pc := 53) D10_out_53 ?_
        refine J_iret (pc := 54) D10_out_54 rfl ?_
        have ok : ouOk N x = true := by unfold ouOk ixB; rw [decide_eq_true (Int32.not_lt.mp h6), decide_eq_true (Int32.not_le.mp h14), decide_eq_true hl9]; rfl
        refine ⟨congrArg (fun q => some (Value.int q)) ?_, Or.inr ⟨ok, ?_⟩⟩
        · show s 57 + nI 1 - nI 1 = _
          rw [ouA, if_pos ok, e57, nI_add]; exact nI_pred N.1
        · rw [show updI s 0 (nI 0) 57 = nI N.1 from e57, nI_add]
      · have h23' := eq_true h23
        refine J_iconst (pc := 26) (v := (-1)) D10_out_26 (by decide) ?_
        refine J_iret (pc := 27) D10_out_27 rfl ?_
        exact ⟨congrArg (fun q => some (Value.int q)) (by rw [ouA, if_neg (fun q => by have := (ouOk_t q).2; rw [nI_eqI (by omega) (by decide) h23] at this; omega)]), Or.inl ⟨fun q => by have := (ouOk_t q).2; rw [nI_eqI (by omega) (by decide) h23] at this; omega, rfl⟩⟩
theorem NR.out {s : Nat → Int32} {A : Nat → Nat → Int32} {N : NV} {nb : Nat} (hN : NR s A N nb) {s' : Nat → Int32} {x : Int32} (ok : ouOk N x = true) (e57 : s' 57 = nI (N.1 + 1)) (e58 : s' 58 = s 58) : NR s' (upA A 62 (upd (A 62) N.1 x)) (ouN N x) nb := by
  obtain ⟨o1, o2⟩ := ouOk_t ok
  obtain ⟨j1, hj1, rfl⟩ := ixB_t o1 (by omega)
  rw [ouN, if_pos ok]
  refine ⟨e57, e58.trans hN.2.1, by show N.1 + 1 ≤ 24; omega, hN.2.2.2.1.imp id (fun ⟨k, h1, h2⟩ => ⟨k, by show k ≤ N.1 + 1; omega, h2⟩), fun i hi => ?_⟩
  show upd (A 62) N.1 (nI j1) i = upd (N.2.2 5) N.1 (nI j1) i ∧ _
  by_cases e : i = N.1
  · subst e
    exact ⟨by rw [pk_us, pk_us], Or.inr ⟨j1, hj1, pk_us, pk_us, pk_us⟩⟩
  · have hi2 : i < N.1 := by have : i < N.1 + 1 := hi; omega
    have h9 := hN.2.2.2.2 i hi2
    refine ⟨by rw [pk_un e, pk_un e]; exact h9.1, ?_⟩
    rcases h9.2 with ⟨q1, q2, q3, q4, q5, q6, q7⟩ | ⟨j, hj, q1, q2, q3⟩
    · refine Or.inl ⟨(pk_un e).trans q1, ?_, ?_, ?_, ?_, ?_, ?_⟩
      · exact q2.trans (pk_un e).symm
      · exact q3.trans (pk_un e).symm
      · exact q4.trans (pk_un e).symm
      · obtain ⟨y, a1, a2, a3⟩ := q5; exact ⟨y, a1, a2, (pk_un e).trans a3⟩
      · obtain ⟨y, a1, a3⟩ := q6; exact ⟨y, a1, (pk_un e).trans a3⟩
      · exact q7.imp (fun a => (pk_un e).trans a) (fun a => (pk_un e).trans a)
    · exact Or.inr ⟨j, hj, (pk_un e).trans q1, (pk_un e).trans q2, (pk_un e).trans q3⟩
theorem c10_known {d : Nat} {s : Nat → Int32} {A : Nat → Nat → Int32} {L : LL} {M : Nat → MR} {N : NV} {nb : Nat} (hN : NR s A N nb) {x : Int32} : Tr d 0 0 m10_known [.ref 0, .int x] (modW s A L M) (fun r w' => r = some (.int (i01 (knOk N x = true))) ∧ ((¬ knOk N x = true ∧ w' = modW (updI s 0 (nI 0)) A L M) ∨ (knOk N x = true ∧ w' = modW (updI (updI s 0 (nI 0)) 58 x) A L M))) := by
  have e57 := hN.1
  refine Tr.intro (by decide) rfl ?_
  refine J_aload_n (pc := 0) D10_known_0 rfl ?_
  refine J_iconst (pc := 1) (v := (nI 0)) D10_known_1 (by decide) ?_
  refine J_mput (pc := 2) D10_known_2 fp10_139 ms_0 ?_
  refine J_iload_n (pc := 5) D10_known_5 rfl ?_
  refine J_iconst (pc := 6) (v := (-1)) D10_known_6 (by decide) ?_
  refine J_icmp_lt (pc := 7) (tgt := 18) D10_known_7 (by decide) (fun h7 => ?_) (fun h7 => ?_)
  · have h7' := Int32.not_le.mpr h7
    refine J_iconst (pc := 18) (v := (nI 0)) D10_known_18 (by decide) ?_
    refine J_zret (pc := 19) D10_known_19 rfl (by decide) ?_
    have ok : ¬ knOk N x = true := fun q => absurd (of_decide_eq_true q).1 (Int32.not_le.mpr h7)
    exact ⟨congrArg (fun q => some (Value.int q)) (i01_f ok).symm, Or.inl ⟨ok, rfl⟩⟩
  · have h7' := Int32.not_lt.mp h7
    refine J_iload_n (pc := 10) D10_known_10 rfl ?_
    refine J_aload_n (pc := 11) D10_known_11 rfl ?_
    refine J_getf (pc := 12) D10_known_12 fl10_295 rfl rfl ?_
    refine J_st (.int (nI N.1) :: .int x :: []) (by rw [← e57]; rfl) ?_
    refine J_icmp_le (pc := 15) (tgt := 20) D10_known_15 (by decide) (fun h15 => ?_) (fun h15 => ?_)
    · have h15' := Int32.not_lt.mpr h15
      refine J_aload_n (pc := 20) D10_known_20 rfl ?_
      refine J_iload_n (pc := 21) D10_known_21 rfl ?_
      refine J_mput (pc := 22) D10_known_22 fp10_117 ms_58 ?_
      refine J_iconst (pc := 25) (v := (nI 1)) D10_known_25 (by decide) ?_
      refine J_zret (pc := 26) D10_known_26 rfl (by decide) ?_
      have ok : knOk N x = true := decide_eq_true ⟨Int32.not_lt.mp h7, h15⟩
      exact ⟨congrArg (fun q => some (Value.int q)) (i01_t ok).symm, Or.inr ⟨ok, rfl⟩⟩
    · have h15' := Int32.not_le.mp h15
      refine J_iconst (pc := 18) (v := (nI 0)) D10_known_18 (by decide) ?_
      refine J_zret (pc := 19) D10_known_19 rfl (by decide) ?_
      have ok : ¬ knOk N x = true := fun q => absurd (of_decide_eq_true q).2 h15
      exact ⟨congrArg (fun q => some (Value.int q)) (i01_f ok).symm, Or.inl ⟨ok, rfl⟩⟩
theorem NR.known {s : Nat → Int32} {A : Nat → Nat → Int32} {N : NV} {nb : Nat} (hN : NR s A N nb) {s' : Nat → Int32} {x : Int32} (ok : knOk N x = true) (e57 : s' 57 = s 57) (e58 : s' 58 = x) : NR s' A (knN N x) nb := by
  have o1 := of_decide_eq_true ok
  rw [knN, if_pos ok]
  refine ⟨e57.trans hN.1, e58, hN.2.2.1, ?_, hN.2.2.2.2⟩
  by_cases e : x = -1
  · exact Or.inl e
  · have h24 := hN.2.2.1
    have h0 : ¬ x < 0 := by
      intro q
      apply e
      apply Int32.toInt_inj.mp
      have h1 := Int32.le_iff_toInt_le.mp o1.1
      have h2 := Int32.lt_iff_toInt_lt.mp q
      rw [show (-1 : Int32).toInt = -1 from rfl] at h1 ⊢
      rw [show (0 : Int32).toInt = 0 from rfl] at h2
      omega
    obtain ⟨j, hj, rfl⟩ := nI_of h0
    exact Or.inr ⟨j, (nI_leI hj (by omega)).mp o1.2, rfl⟩
theorem c10_count {d : Nat} {s : Nat → Int32} {A : Nat → Nat → Int32} {L : LL} {M : Nat → MR} {T : TV} {np nb nn : Nat} (hR : RT A T np nb nn) (hT : WT T np nb nn) {V : CV} (hC : CR False np nb nn (M 0) V) {U : UV} {N : NV} (hN : NR s A N nb) (eU : s 47 = nI U.1) {x : Int32} : Tr (d + 2) 0 0 m10_count [.ref 0, .int x] (modW s A L M) (mR s A M (.int (ctF T V U N x))) := by
  have hnb := hT.2.2.2.2.1
  have hnp := hT.2.2.2.1
  have hnn := hT.2.2.2.2.2.1
  refine Tr.intro (by decide) rfl ?_
  refine J_aload_n (pc := 0) D10_count_0 rfl ?_
  refine J_iconst (pc := 1) (v := (nI 0)) D10_count_1 (by decide) ?_
  refine J_mput (pc := 2) D10_count_2 fp10_139 ms_0 ?_
  refine J_iload_n (pc := 5) D10_count_5 rfl ?_
  refine J_tsw (pc := 6) 0 [80, 87, 94, 101, 108, 115, 122, 129, 136, 143, 150, 157, 163, 168, 173] 178 D10_count_6 (by decide) (by decide) rfl (by decide) (by decide) (fun j hj h6 => ?_) (fun h6 => ?_)
  · have hj6 : j = 0 ∨ j = 1 ∨ j = 2 ∨ j = 3 ∨ j = 4 ∨ j = 5 ∨ j = 6 ∨ j = 7 ∨ j = 8 ∨ j = 9 ∨ j = 10 ∨ j = 11 ∨ j = 12 ∨ j = 13 ∨ j = 14 := by have hj2 : j < 15 := hj; omega
    clear hj
    rcases hj6 with rfl | rfl | rfl | rfl | rfl | rfl | rfl | rfl | rfl | rfl | rfl | rfl | rfl | rfl | rfl
    · refine J_aload_n (pc := 80) D10_count_80 rfl ?_
      refine J_getf (pc := 81) D10_count_81 fl10_13 rfl rfl ?_
      refine J_iconst (pc := 84) (v := (nI 0)) D10_count_84 (by decide) ?_
      refine J_mald (pc := 85) D10_count_85 ma_3 rfl (by omega) rfl ?_
      refine J_iret (pc := 86) D10_count_86 rfl ?_
      subst h6
      exact ⟨congrArg (fun q => some (Value.int q)) (hR.1.trans hT.1.symm), _, _, _, _, rfl, PX.s0⟩
    · refine J_aload_n (pc := 87) D10_count_87 rfl ?_
      refine J_getf (pc := 88) D10_count_88 fl10_13 rfl rfl ?_
      refine J_iconst (pc := 91) (v := (nI 1)) D10_count_91 (by decide) ?_
      refine J_mald (pc := 92) D10_count_92 ma_3 rfl (by omega) rfl ?_
      refine J_iret (pc := 93) D10_count_93 rfl ?_
      subst h6
      exact ⟨congrArg (fun q => some (Value.int q)) (hR.2.1.trans hT.2.1.symm), _, _, _, _, rfl, PX.s0⟩
    · refine J_aload_n (pc := 94) D10_count_94 rfl ?_
      refine J_getf (pc := 95) D10_count_95 fl10_13 rfl rfl ?_
      refine J_iconst (pc := 98) (v := (nI 2)) D10_count_98 (by decide) ?_
      refine J_mald (pc := 99) D10_count_99 ma_3 rfl (by omega) rfl ?_
      refine J_iret (pc := 100) D10_count_100 rfl ?_
      subst h6
      exact ⟨congrArg (fun q => some (Value.int q)) (hR.2.2.1.trans hT.2.2.1.symm), _, _, _, _, rfl, PX.s0⟩
    · refine J_aload_n (pc := 101) D10_count_101 rfl ?_
      refine J_getf (pc := 102) D10_count_102 fl10_13 rfl rfl ?_
      refine J_iconst (pc := 105) (v := (nI 5)) D10_count_105 (by decide) ?_
      refine J_mald (pc := 106) D10_count_106 ma_3 rfl (by omega) rfl ?_
      refine J_iret (pc := 107) D10_count_107 rfl ?_
      subst h6
      exact ⟨congrArg (fun q => some (Value.int q)) hR.2.2.2.2.2.1, _, _, _, _, rfl, PX.s0⟩
    · refine J_aload_n (pc := 108) D10_count_108 rfl ?_
      refine J_getf (pc := 109) D10_count_109 fl10_75 rfl rfl ?_
      refine J_iconst (pc := 112) (v := (nI 0)) D10_count_112 (by decide) ?_
      refine J_msld (pc := 113) D10_count_113 mq_year rfl (by omega) ?_
      refine J_iret (pc := 114) D10_count_114 rfl ?_
      subst h6
      exact ⟨congrArg (fun q => some (Value.int q)) hC.1, _, _, _, _, rfl, PX.s0⟩
    · refine J_aload_n (pc := 115) D10_count_115 rfl ?_
      refine J_iconst (pc := 116) (v := (nI 0)) D10_count_116 (by decide) ?_
      refine J_iconst (pc := 117) (v := (nI 0)) D10_count_117 (by decide) ?_
      refine J_callVTR (pc := 118) (ac := [.int _, .int _]) D10_count_118 m10_manyOf_v t1722 (c10_manyOf (d := d) hR hT (by decide)) (by omega) rfl rfl rfl rfl (fun _ => rfl) rfl rfl rfl ?_
      refine J_iret (pc := 121) D10_count_121 rfl ?_
      subst h6
      exact ⟨congrArg (fun q => some (Value.int q)) (st_e hC hnb (by decide)), _, _, _, _, rfl, PX.s0⟩
    · refine J_aload_n (pc := 122) D10_count_122 rfl ?_
      refine J_iconst (pc := 123) (v := (nI 0)) D10_count_123 (by decide) ?_
      refine J_iconst (pc := 124) (v := (nI 1)) D10_count_124 (by decide) ?_
      refine J_callVTR (pc := 125) (ac := [.int _, .int _]) D10_count_125 m10_manyOf_v t1722 (c10_manyOf (d := d) hR hT (by decide)) (by omega) rfl rfl rfl rfl (fun _ => rfl) rfl rfl rfl ?_
      refine J_iret (pc := 128) D10_count_128 rfl ?_
      subst h6
      exact ⟨congrArg (fun q => some (Value.int q)) (st_e hC hnb (by decide)), _, _, _, _, rfl, PX.s0⟩
    · refine J_aload_n (pc := 129) D10_count_129 rfl ?_
      refine J_iconst (pc := 130) (v := (nI 0)) D10_count_130 (by decide) ?_
      refine J_iconst (pc := 131) (v := (nI 2)) D10_count_131 (by decide) ?_
      refine J_callVTR (pc := 132) (ac := [.int _, .int _]) D10_count_132 m10_manyOf_v t1722 (c10_manyOf (d := d) hR hT (by decide)) (by omega) rfl rfl rfl rfl (fun _ => rfl) rfl rfl rfl ?_
      refine J_iret (pc := 135) D10_count_135 rfl ?_
      subst h6
      exact ⟨congrArg (fun q => some (Value.int q)) (off_e hC hnb), _, _, _, _, rfl, PX.s0⟩
    · refine J_aload_n (pc := 136) D10_count_136 rfl ?_
      refine J_iconst (pc := 137) (v := (nI 0)) D10_count_137 (by decide) ?_
      refine J_iconst (pc := 138) (v := (nI 1)) D10_count_138 (by decide) ?_
      refine J_callVTR (pc := 139) (ac := [.int _, .int _]) D10_count_139 m10_needsOf_v t1726 (c10_needsOf (d := d) hR hT (by decide)) (by omega) rfl rfl rfl rfl (fun _ => rfl) rfl rfl rfl ?_
      refine J_iret (pc := 142) D10_count_142 rfl ?_
      subst h6
      exact ⟨congrArg (fun q => some (Value.int q)) (met_e hC hnn), _, _, _, _, rfl, PX.s0⟩
    · refine J_aload_n (pc := 143) D10_count_143 rfl ?_
      refine J_iconst (pc := 144) (v := (nI 0)) D10_count_144 (by decide) ?_
      refine J_iconst (pc := 145) (v := (nI 0)) D10_count_145 (by decide) ?_
      refine J_callVTR (pc := 146) (ac := [.int _, .int _]) D10_count_146 m10_needsOf_v t1726 (c10_needsOf (d := d) hR hT (by decide)) (by omega) rfl rfl rfl rfl (fun _ => rfl) rfl rfl rfl ?_
      refine J_iret (pc := 149) D10_count_149 rfl ?_
      subst h6
      exact ⟨congrArg (fun q => some (Value.int q)) (um_e hC hnn), _, _, _, _, rfl, PX.s0⟩
    · refine J_aload_n (pc := 150) D10_count_150 rfl ?_
      refine J_getf (pc := 151) D10_count_151 fl10_81 rfl rfl ?_
      refine J_iconst (pc := 154) (v := (nI 0)) D10_count_154 (by decide) ?_
      refine J_msld (pc := 155) D10_count_155 mq_thunders rfl (by omega) ?_
      refine J_iret (pc := 156) D10_count_156 rfl ?_
      subst h6
      exact ⟨congrArg (fun q => some (Value.int q)) hC.2.2.1, _, _, _, _, rfl, PX.s0⟩
    · refine J_aload_n (pc := 157) D10_count_157 rfl ?_
      refine J_iconst (pc := 158) (v := (nI 0)) D10_count_158 (by decide) ?_
      refine J_callVTR (pc := 159) (ac := [.int _]) D10_count_159 m10_hatesAll_v t1730 (c10_hatesAll (d := d) hR hT (by decide)) (by omega) rfl rfl rfl rfl (fun _ => rfl) rfl rfl rfl ?_
      refine J_iret (pc := 162) D10_count_162 rfl ?_
      subst h6
      exact ⟨congrArg (fun q => some (Value.int q)) (hs_e hC hnp), _, _, _, _, rfl, PX.s0⟩
    · refine J_aload_n (pc := 163) D10_count_163 rfl ?_
      refine J_getf (pc := 164) D10_count_164 fl10_295 rfl rfl ?_
      refine J_iret (pc := 167) D10_count_167 rfl ?_
      subst h6
      exact ⟨congrArg (fun q => some (Value.int q)) hN.1, _, _, _, _, rfl, PX.s0⟩
    · refine J_aload_n (pc := 168) D10_count_168 rfl ?_
      refine J_callVTR (pc := 169) (ac := []) D10_count_169 m10_knownMany_v t1856 (c10_knownMany (d := d) (hN.c rfl rfl (fun _ _ => rfl))) (by omega) rfl rfl rfl rfl (fun _ => rfl) rfl rfl rfl ?_
      refine J_iret (pc := 172) D10_count_172 rfl ?_
      subst h6
      exact ⟨congrArg (fun q => some (Value.int q)) hN.kn.2.1.symm, _, _, _, _, rfl, PX.s0⟩
    · refine J_aload_n (pc := 173) D10_count_173 rfl ?_
      refine J_getf (pc := 174) D10_count_174 fl10_302 rfl rfl ?_
      refine J_iret (pc := 177) D10_count_177 rfl ?_
      subst h6
      exact ⟨congrArg (fun q => some (Value.int q)) eU, _, _, _, _, rfl, PX.s0⟩
  · refine J_iconst (pc := 178) (v := (-1)) D10_count_178 (by decide) ?_
    refine J_iret (pc := 179) D10_count_179 rfl ?_
    exact ⟨congrArg (fun q => some (Value.int q)) (by unfold ctF; rw [if_neg (h6 0 (by decide)), if_neg (h6 1 (by decide)), if_neg (h6 2 (by decide)), if_neg (h6 3 (by decide)), if_neg (h6 4 (by decide)), if_neg (h6 5 (by decide)), if_neg (h6 6 (by decide)), if_neg (h6 7 (by decide)), if_neg (h6 8 (by decide)), if_neg (h6 9 (by decide)), if_neg (h6 10 (by decide)), if_neg (h6 11 (by decide)), if_neg (h6 12 (by decide)), if_neg (h6 13 (by decide)), if_neg (h6 14 (by decide))]), _, _, _, _, rfl, PX.s0⟩
theorem c10_fault {d : Nat} {s : Nat → Int32} {A : Nat → Nat → Int32} {L : LL} {M : Nat → MR} {G : GV} (e29 : s 29 = G.2.2.2.2.1) (e30 : s 30 = G.2.2.2.2.2) {x : Int32} : Tr d 0 0 m10_fault [.ref 0, .int x] (modW s A L M) (mR s A M (.int (ftF G x))) := by
  refine Tr.intro (by decide) rfl ?_
  refine J_aload_n (pc := 0) D10_fault_0 rfl ?_
  refine J_iconst (pc := 1) (v := (nI 0)) D10_fault_1 (by decide) ?_
  refine J_mput (pc := 2) D10_fault_2 fp10_139 ms_0 ?_
  refine J_iload_n (pc := 5) D10_fault_5 rfl ?_
  refine J_if_ne (pc := 6) (tgt := 16) D10_fault_6 (by decide) (fun h6 => ?_) (fun h6 => ?_)
  · refine J_iload_n (pc := 16) D10_fault_16 rfl ?_
    refine J_iconst (pc := 17) (v := (nI 1)) D10_fault_17 (by decide) ?_
    refine J_icmp_ne (pc := 18) (tgt := 28) D10_fault_18 (by decide) (fun h18 => ?_) (fun h18 => ?_)
    · refine J_iconst (pc := 28) (v := (-1)) D10_fault_28 (by decide) ?_
      refine J_iret (pc := 29) D10_fault_29 rfl ?_
      exact ⟨congrArg (fun q => some (Value.int q)) (by rw [ftF, if_neg h6, if_neg h18]), _, _, _, _, rfl, PX.s0⟩
    · have h18' := eq_true h18
      refine J_aload_n (pc := 21) D10_fault_21 rfl ?_
      refine J_getf (pc := 22) D10_fault_22 fl10_64 rfl rfl ?_
      refine J_goto (pc := 25) (tgt := 29) D10_fault_25 (by decide) ?_
      refine J_iret (pc := 29) D10_fault_29 rfl ?_
      exact ⟨congrArg (fun q => some (Value.int q)) (by rw [ftF, if_neg h6, if_pos h18]; exact e30), _, _, _, _, rfl, PX.s0⟩
  · have h6' := eq_true h6
    refine J_aload_n (pc := 9) D10_fault_9 rfl ?_
    refine J_getf (pc := 10) D10_fault_10 fl10_288 rfl rfl ?_
    refine J_goto (pc := 13) (tgt := 29) D10_fault_13 (by decide) ?_
    refine J_iret (pc := 29) D10_fault_29 rfl ?_
    exact ⟨congrArg (fun q => some (Value.int q)) (by rw [ftF, if_pos h6]; exact e29), _, _, _, _, rfl, PX.s0⟩
def boK (nb : Nat) (x w : Int32) : Int32 := if ixB nb x = true then (if ixB 7 w = true then nI 0 else nI 2) else nI 1
def boV (T : TV) (V : CV) (b : Nat) (w : Int32) : Int32 := if w = nI 0 then T.2.1 5 b else if w = nI 1 then T.2.1 6 b else if w = nI 2 then V.2.2.2 0 b else if w = nI 3 then V.2.2.2 1 b else if w = nI 4 then V.2.2.2 2 b else if w = nI 5 then V.2.2.2 3 b else V.2.2.2 4 b
theorem c10_bottle {d : Nat} {s : Nat → Int32} {A : Nat → Nat → Int32} {L : LL} {M : Nat → MR} {T : TV} {np nb nn : Nat} (hR : RT A T np nb nn) (hT : WT T np nb nn) {V : CV} (hC : CR False np nb nn (M 0) V) {x w : Int32} : Tr (d + 1) 0 0 m10_bottle [.ref 0, .int x, .int w] (modW s A L M) (fun r w' => r = some (.int (if boK nb x w = 0 then boV T V x.toNatClampNeg w else nI 0)) ∧ w' = modW (updI s 0 (boK nb x w)) A L M) := by
  have hnb := hT.2.2.2.2.1
  have hnp := hT.2.2.2.1
  have hnn := hT.2.2.2.2.2.1
  refine Tr.intro (by decide) rfl ?_
  refine J_aload_n (pc := 0) D10_bottle_0 rfl ?_
  refine J_aload_n (pc := 1) D10_bottle_1 rfl ?_
  refine J_iload_n (pc := 2) D10_bottle_2 rfl ?_
  refine J_callVTR (pc := 3) (ac := [.int _]) D10_bottle_3 m10_isBottle_v t1567 (c10_isBottle (d := d) hR) (by omega) rfl rfl rfl rfl (fun _ => rfl) rfl rfl rfl ?_
  refine J_if_ne (pc := 6) (tgt := 13) D10_bottle_6 (by decide) (fun h6 => ?_) (fun h6 => ?_)
  · replace h6 := i01_nz h6
    obtain ⟨b1, hb1, rfl⟩ := ixB_t h6 (by omega)
    obtain ⟨c0, c1, c2, c4, c3⟩ := hC.2.2.2.1 b1 hb1
    have r9 := hR.2.2.2.2.2.2.2.1 b1 hb1
    refine J_iload_n (pc := 13) D10_bottle_13 rfl ?_
    refine J_if_lt (pc := 14) (tgt := 23) D10_bottle_14 (by decide) (fun h14 => ?_) (fun h14 => ?_)
    · have h14' := Int32.not_le.mpr h14
      refine J_iconst (pc := 23) (v := (nI 2)) D10_bottle_23 (by decide) ?_
      refine J_goto (pc := 24) (tgt := 28) D10_bottle_24 (by decide) ?_
      refine J_mput (pc := 28) D10_bottle_28 fp10_139 ms_0 ?_
      refine J_aload_n (pc := 31) D10_bottle_31 rfl ?_
      refine J_getf (pc := 32) D10_bottle_32 fl10_139 rfl rfl ?_
      refine J_if_eq (pc := 35) (tgt := 40) D10_bottle_35 (by decide) (fun h35 => absurd h35 (by rw [updI_s]; decide)) (fun h35 => ?_)
      refine J_iconst (pc := 38) (v := (nI 0)) D10_bottle_38 (by decide) ?_
      refine J_iret (pc := 39) D10_bottle_39 rfl ?_
      have hk9 : boK nb (nI b1) w = nI 2 := by rw [boK, if_pos h6, if_neg (ixB_0 h14)]
      exact ⟨congrArg (fun q => some (Value.int q)) (by rw [hk9, if_neg (by decide)]), by rw [hk9]⟩
    · have h14' := Int32.not_lt.mp h14
      refine J_iload_n (pc := 17) D10_bottle_17 rfl ?_
      refine J_bipush (pc := 18) (v := (nI 6)) D10_bottle_18 (by decide) ?_
      refine J_icmp_le (pc := 20) (tgt := 27) D10_bottle_20 (by decide) (fun h20 => ?_) (fun h20 => ?_)
      · have h20' := Int32.not_lt.mpr h20
        refine J_iconst (pc := 27) (v := (nI 0)) D10_bottle_27 (by decide) ?_
        refine J_mput (pc := 28) D10_bottle_28 fp10_139 ms_0 ?_
        refine J_aload_n (pc := 31) D10_bottle_31 rfl ?_
        refine J_getf (pc := 32) D10_bottle_32 fl10_139 rfl rfl ?_
        refine J_if_eq (pc := 35) (tgt := 40) D10_bottle_35 (by decide) (fun h35 => ?_) (fun h35 => absurd rfl h35)
        refine J_iload_n (pc := 40) D10_bottle_40 rfl ?_
        refine J_tsw (pc := 41) 0 [80, 87, 94, 101, 108, 115] 122 D10_bottle_41 (by decide) (by decide) rfl (by decide) (by decide) (fun j hj h41 => ?_) (fun h41 => ?_)
        · have hj41 : j = 0 ∨ j = 1 ∨ j = 2 ∨ j = 3 ∨ j = 4 ∨ j = 5 := by have hj2 : j < 6 := hj; omega
          clear hj
          rcases hj41 with rfl | rfl | rfl | rfl | rfl | rfl
          · refine J_aload_n (pc := 80) D10_bottle_80 rfl ?_
            refine J_getf (pc := 81) D10_bottle_81 fl10_25 rfl rfl ?_
            refine J_iload_n (pc := 84) D10_bottle_84 rfl ?_
            refine J_mald (pc := 85) D10_bottle_85 ma_7 rfl (by omega) rfl ?_
            refine J_iret (pc := 86) D10_bottle_86 rfl ?_
            subst h41
            have hk9 : boK nb (nI b1) (nI 0) = 0 := by rw [boK, if_pos h6, if_pos (by decide)]; rfl
            exact ⟨congrArg (fun q => some (Value.int q)) (by rw [if_pos hk9, nI_clamp (by omega)]; exact r9.2.1), by rw [hk9]; rfl⟩
          · refine J_aload_n (pc := 87) D10_bottle_87 rfl ?_
            refine J_getf (pc := 88) D10_bottle_88 fl10_28 rfl rfl ?_
            refine J_iload_n (pc := 91) D10_bottle_91 rfl ?_
            refine J_mald (pc := 92) D10_bottle_92 ma_8 rfl (by omega) rfl ?_
            refine J_iret (pc := 93) D10_bottle_93 rfl ?_
            subst h41
            have hk9 : boK nb (nI b1) (nI 1) = 0 := by rw [boK, if_pos h6, if_pos (by decide)]; rfl
            exact ⟨congrArg (fun q => some (Value.int q)) (by rw [if_pos hk9, nI_clamp (by omega)]; exact r9.2.2.1), by rw [hk9]; rfl⟩
          · refine J_aload_n (pc := 94) D10_bottle_94 rfl ?_
            refine J_getf (pc := 95) D10_bottle_95 fl10_93 rfl rfl ?_
            refine J_iload_n (pc := 98) D10_bottle_98 rfl ?_
            refine J_mcld (pc := 99) (stp := 10) D10_bottle_99 mc_0 (ix0 _ _) (by omega) (by omega) rfl ?_
            refine J_iret (pc := 100) D10_bottle_100 rfl ?_
            subst h41
            have hk9 : boK nb (nI b1) (nI 2) = 0 := by rw [boK, if_pos h6, if_pos (by decide)]; rfl
            exact ⟨congrArg (fun q => some (Value.int q)) (by rw [if_pos hk9, nI_clamp (by omega)]; exact c0), by rw [hk9]; rfl⟩
          · refine J_aload_n (pc := 101) D10_bottle_101 rfl ?_
            refine J_getf (pc := 102) D10_bottle_102 fl10_87 rfl rfl ?_
            refine J_iload_n (pc := 105) D10_bottle_105 rfl ?_
            refine J_mcld (pc := 106) (stp := 10) D10_bottle_106 mc_1 (ix0 _ _) (by omega) (by omega) rfl ?_
            refine J_iret (pc := 107) D10_bottle_107 rfl ?_
            subst h41
            have hk9 : boK nb (nI b1) (nI 3) = 0 := by rw [boK, if_pos h6, if_pos (by decide)]; rfl
            exact ⟨congrArg (fun q => some (Value.int q)) (by rw [if_pos hk9, nI_clamp (by omega)]; exact c1), by rw [hk9]; rfl⟩
          · refine J_aload_n (pc := 108) D10_bottle_108 rfl ?_
            refine J_getf (pc := 109) D10_bottle_109 fl10_90 rfl rfl ?_
            refine J_iload_n (pc := 112) D10_bottle_112 rfl ?_
            refine J_mcld (pc := 113) (stp := 10) D10_bottle_113 mc_2 (ix0 _ _) (by omega) (by omega) rfl ?_
            refine J_iret (pc := 114) D10_bottle_114 rfl ?_
            subst h41
            have hk9 : boK nb (nI b1) (nI 4) = 0 := by rw [boK, if_pos h6, if_pos (by decide)]; rfl
            exact ⟨congrArg (fun q => some (Value.int q)) (by rw [if_pos hk9, nI_clamp (by omega)]; exact c2), by rw [hk9]; rfl⟩
          · refine J_aload_n (pc := 115) D10_bottle_115 rfl ?_
            refine J_getf (pc := 116) D10_bottle_116 fl10_96 rfl rfl ?_
            refine J_iload_n (pc := 119) D10_bottle_119 rfl ?_
            refine J_mcld (pc := 120) (stp := 10) D10_bottle_120 mc_3 (ix0 _ _) (by omega) (by omega) rfl ?_
            refine J_iret (pc := 121) D10_bottle_121 rfl ?_
            subst h41
            have hk9 : boK nb (nI b1) (nI 5) = 0 := by rw [boK, if_pos h6, if_pos (by decide)]; rfl
            exact ⟨congrArg (fun q => some (Value.int q)) (by rw [if_pos hk9, nI_clamp (by omega)]; exact (c3.resolve_right (fun q => q.1))), by rw [hk9]; rfl⟩
        · refine J_aload_n (pc := 122) D10_bottle_122 rfl ?_
          refine J_getf (pc := 123) D10_bottle_123 fl10_99 rfl rfl ?_
          refine J_iload_n (pc := 126) D10_bottle_126 rfl ?_
          refine J_mcld (pc := 127) (stp := 10) D10_bottle_127 mc_4 (ix0 _ _) (by omega) (by omega) rfl ?_
          refine J_iret (pc := 128) D10_bottle_128 rfl ?_
          have hw9 := ixB_in (n := 6) (by decide) h14 h20
          have hk9 : boK nb (nI b1) w = 0 := by rw [boK, if_pos h6, if_pos hw9]; rfl
          exact ⟨congrArg (fun q => some (Value.int q)) (by unfold boV; rw [if_pos hk9, nI_clamp (by omega), if_neg (h41 0 (by decide)), if_neg (h41 1 (by decide)), if_neg (h41 2 (by decide)), if_neg (h41 3 (by decide)), if_neg (h41 4 (by decide)), if_neg (h41 5 (by decide))]; exact c4), by rw [hk9]; rfl⟩
      · have h20' := Int32.not_le.mp h20
        refine J_iconst (pc := 23) (v := (nI 2)) D10_bottle_23 (by decide) ?_
        refine J_goto (pc := 24) (tgt := 28) D10_bottle_24 (by decide) ?_
        refine J_mput (pc := 28) D10_bottle_28 fp10_139 ms_0 ?_
        refine J_aload_n (pc := 31) D10_bottle_31 rfl ?_
        refine J_getf (pc := 32) D10_bottle_32 fl10_139 rfl rfl ?_
        refine J_if_eq (pc := 35) (tgt := 40) D10_bottle_35 (by decide) (fun h35 => absurd h35 (by rw [updI_s]; decide)) (fun h35 => ?_)
        refine J_iconst (pc := 38) (v := (nI 0)) D10_bottle_38 (by decide) ?_
        refine J_iret (pc := 39) D10_bottle_39 rfl ?_
        have hk9 : boK nb (nI b1) w = nI 2 := by rw [boK, if_pos h6, if_neg (ixB_gt (n := 6) (by decide) (Int32.not_le.mp h20))]
        exact ⟨congrArg (fun q => some (Value.int q)) (by rw [hk9, if_neg (by decide)]), by rw [hk9]⟩
  · have h6' := eq_true h6
    replace h6 := i01_z h6
    refine J_iconst (pc := 9) (v := (nI 1)) D10_bottle_9 (by decide) ?_
    refine J_goto (pc := 10) (tgt := 28) D10_bottle_10 (by decide) ?_
    refine J_mput (pc := 28) D10_bottle_28 fp10_139 ms_0 ?_
    refine J_aload_n (pc := 31) D10_bottle_31 rfl ?_
    refine J_getf (pc := 32) D10_bottle_32 fl10_139 rfl rfl ?_
    refine J_if_eq (pc := 35) (tgt := 40) D10_bottle_35 (by decide) (fun h35 => absurd h35 (by rw [updI_s]; decide)) (fun h35 => ?_)
    refine J_iconst (pc := 38) (v := (nI 0)) D10_bottle_38 (by decide) ?_
    refine J_iret (pc := 39) D10_bottle_39 rfl ?_
    have hk9 : boK nb x w = nI 1 := by rw [boK, if_neg h6]
    exact ⟨congrArg (fun q => some (Value.int q)) (by rw [hk9, if_neg (by decide)]), by rw [hk9]⟩
