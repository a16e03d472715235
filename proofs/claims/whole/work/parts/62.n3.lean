/-! THE MODEL: answers 2 (own program mod_n3.py) -/
theorem c10_isLyingNow {d : Nat} {s : Nat → Int32} {A : Nat → Nat → Int32} {L : LL} {M : Nat → MR} {T : TV} {np nb nn : Nat} (hR : RT A T np nb nn) (hT : WT T np nb nn) {V : CV} (hC : CR False np nb nn (M 0) V) {x : Int32} : TR (d + 1) m10_isLyingNow [.ref 0, .int x] (modW s A L M) (.int (i01 (lyiB V nb x = true))) := by
  have hnb := hT.2.2.2.2.1
  have hnp := hT.2.2.2.1
  have hnn := hT.2.2.2.2.2.1
  refine Tr.intro (by decide) rfl ?_
  refine J_aload_n (pc := 0) D10_isLyingNow_0 rfl ?_
  refine J_iload_n (pc := 1) D10_isLyingNow_1 rfl ?_
  refine J_callVTR (pc := 2) (ac := [.int _]) D10_isLyingNow_2 m10_isBottle_v t1567 (c10_isBottle (d := d) hR) (by omega) rfl rfl rfl rfl (fun _ => rfl) rfl rfl rfl ?_
  refine J_if_eq (pc := 5) (tgt := 21) D10_isLyingNow_5 (by decide) (fun h5 => ?_) (fun h5 => ?_)
  · have h5' := eq_true h5
    replace h5 := i01_z h5
    refine J_iconst (pc := 21) (v := (nI 0)) D10_isLyingNow_21 (by decide) ?_
    refine J_zret (pc := 22) D10_isLyingNow_22 rfl (by decide) ?_
    exact ⟨rfl, congrArg (fun q => some (Value.int q)) (i01_f (fun q => h5 (lyiB_ix q))).symm⟩
  · replace h5 := i01_nz h5
    obtain ⟨b, hb, rfl⟩ := ixB_t h5 (by omega)
    have ely := hC.ly hb
    refine J_aload_n (pc := 8) D10_isLyingNow_8 rfl ?_
    refine J_iconst (pc := 9) (v := (nI 0)) D10_isLyingNow_9 (by decide) ?_
    refine J_iload_n (pc := 10) D10_isLyingNow_10 rfl ?_
    refine J_callVTR (pc := 11) (ac := [.int _, .int _]) D10_isLyingNow_11 m10_isLying_v t1583 (c10_isLying (d := d) (c := 0) (b := b) (by decide) (by omega)) (by omega) rfl rfl rfl rfl (fun _ => rfl) rfl rfl rfl ?_
    refine J_if_eq (pc := 14) (tgt := 21) D10_isLyingNow_14 (by decide) (fun h14 => ?_) (fun h14 => ?_)
    · have h14' := eq_true h14
      replace h14 := i01_z h14
      refine J_iconst (pc := 21) (v := (nI 0)) D10_isLyingNow_21 (by decide) ?_
      refine J_zret (pc := 22) D10_isLyingNow_22 rfl (by decide) ?_
      exact ⟨rfl, congrArg (fun q => some (Value.int q)) (i01_f (fun q => h14 (ely.mpr (lyiB_l (by omega) q)))).symm⟩
    · replace h14 := i01_nz h14
      refine J_iconst (pc := 17) (v := (nI 1)) D10_isLyingNow_17 (by decide) ?_
      refine J_goto (pc := 18) (tgt := 22) D10_isLyingNow_18 (by decide) ?_
      refine J_zret (pc := 22) D10_isLyingNow_22 rfl (by decide) ?_
      exact ⟨rfl, congrArg (fun q => some (Value.int q)) (i01_t (lyiB_i hb (by omega) (ely.mp h14))).symm⟩
theorem c10_law {d : Nat} {s : Nat → Int32} {A : Nat → Nat → Int32} {L : LL} {M : Nat → MR} {T : TV} {np nb nn : Nat} (hR : RT A T np nb nn) (hT : WT T np nb nn) {V : CV} (hC : CR False np nb nn (M 0) V) {x b : Int32} : Tr (d + 3) 0 0 m10_law [.ref 0, .int x, .int b] (modW s A L M) (mR s A M (.long (lwF T V nb x b))) := by
  have hnb := hT.2.2.2.2.1
  have hnp := hT.2.2.2.1
  have hnn := hT.2.2.2.2.2.1
  refine Tr.intro (by decide) rfl ?_
  refine J_aload_n (pc := 0) D10_law_0 rfl ?_
  refine J_iconst (pc := 1) (v := (nI 0)) D10_law_1 (by decide) ?_
  refine J_mput (pc := 2) D10_law_2 fp10_139 ms_0 ?_
  refine J_iload_n (pc := 5) D10_law_5 rfl ?_
  refine J_if_lt (pc := 6) (tgt := 30) D10_law_6 (by decide) (fun h6 => ?_) (fun h6 => ?_)
  · have h6' := Int32.not_le.mpr h6
    refine J_ldc2_w (pc := 30) (v := LMIN) D10_law_30 t1618 ?_
    refine J_lret (pc := 33) D10_law_33 rfl ?_
    exact ⟨congrArg (fun q => some (Value.long q)) (by rw [lwF, if_neg (fun q => ixB_0 h6 q.1)]), _, _, _, _, rfl, PX.s0⟩
  · have h6' := Int32.not_lt.mp h6
    refine J_iload_n (pc := 9) D10_law_9 rfl ?_
    refine J_iconst (pc := 10) (v := (nI 2)) D10_law_10 (by decide) ?_
    refine J_icmp_gt (pc := 11) (tgt := 30) D10_law_11 (by decide) (fun h11 => ?_) (fun h11 => ?_)
    · have h11' := Int32.not_le.mpr h11
      refine J_ldc2_w (pc := 30) (v := LMIN) D10_law_30 t1618 ?_
      refine J_lret (pc := 33) D10_law_33 rfl ?_
      exact ⟨congrArg (fun q => some (Value.long q)) (by rw [lwF, if_neg (fun q => ixB_gt (n := 2) (by decide) h11 q.1)]), _, _, _, _, rfl, PX.s0⟩
    · have h11' := Int32.not_lt.mp h11
      have hx9 := ixB_in (n := 2) (by decide) h6 (Int32.not_lt.mp h11)
      obtain ⟨k, hk, rfl⟩ := ixB_t hx9 (by decide)
      refine J_aload_n (pc := 14) D10_law_14 rfl ?_
      refine J_iload_n (pc := 15) D10_law_15 rfl ?_
      refine J_callVTR (pc := 16) (ac := [.int _]) D10_law_16 m10_hasLaw_v t1610 (c10_hasLaw (d := d + 2) hR hk) (by omega) rfl rfl rfl rfl (fun _ => rfl) rfl rfl rfl ?_
      refine J_if_eq (pc := 19) (tgt := 30) D10_law_19 (by decide) (fun h19 => ?_) (fun h19 => ?_)
      · have h19' := eq_true h19
        replace h19 := i01_z h19
        refine J_ldc2_w (pc := 30) (v := LMIN) D10_law_30 t1618 ?_
        refine J_lret (pc := 33) D10_law_33 rfl ?_
        rw [lwF]
        by_cases q9 : ixB 3 (nI k) = true ∧ lyiB V nb b = true
        · rw [if_pos q9]
          exact ⟨congrArg (fun q => some (Value.long q)) (by rw [nI_clamp (by omega), worthF, if_pos (Decidable.not_not.mp h19)]), _, _, _, _, rfl, PX.s0⟩
        · rw [if_neg q9]
          exact ⟨congrArg (fun q => some (Value.long q)) rfl, _, _, _, _, rfl, PX.s0⟩
      · replace h19 := i01_nz h19
        refine J_aload_n (pc := 22) D10_law_22 rfl ?_
        refine J_iload_n (pc := 23) D10_law_23 rfl ?_
        refine J_callVTR (pc := 24) (ac := [.int _]) D10_law_24 m10_isLyingNow_v t1614 (c10_isLyingNow (d := d + 1) hR hT hC) (by omega) rfl rfl rfl rfl (fun _ => rfl) rfl rfl rfl ?_
        refine J_if_ne (pc := 27) (tgt := 34) D10_law_27 (by decide) (fun h27 => ?_) (fun h27 => ?_)
        · replace h27 := i01_nz h27
          have h27b := h27
          obtain ⟨b1, hb, rfl, hl1⟩ := lyiB_t h27 (by omega)
          refine J_aload_n (pc := 34) D10_law_34 rfl ?_
          refine J_iconst (pc := 35) (v := (nI 0)) D10_law_35 (by decide) ?_
          refine J_iload_n (pc := 36) D10_law_36 rfl ?_
          refine J_callVT (pc := 37) (ac := [.int _, .int _]) D10_law_37 m10_calls_v t1619 (c10_calls (d := d) hR hT (c := 0) (by decide) hC hb) (by omega) rfl rfl rfl rfl rfl rfl rfl (fun r w' hq hl => ?_)
          obtain ⟨rfl, N, rfl, hN⟩ := hq
          refine J_aload_n (pc := 40) D10_law_40 rfl ?_
          refine J_iload_n (pc := 41) D10_law_41 rfl ?_
          refine J_callVT (pc := 42) (ac := [.int _]) D10_law_42 m10_goes_v t1631 (c10_goes (d := d) (L := (N, L.2)) hR hT hk h19 hN) (by omega) rfl rfl rfl rfl rfl rfl rfl (fun r w' hq hl => ?_)
          obtain ⟨x', k', rfl, ⟨rfl, q1⟩ | ⟨rfl, q1, q2⟩⟩ := hq
          · refine J_if_eq (pc := 45) (tgt := 57) D10_law_45 (by decide) (fun h45 => ?_) (fun h45 => absurd rfl h45)
            refine J_ldc2_w (pc := 57) (v := LMIN) D10_law_57 t1618 ?_
            refine J_lret (pc := 60) D10_law_60 rfl ?_
            exact ⟨congrArg (fun q => some (Value.long q)) (by rw [lwF, if_pos ⟨hx9, h27b⟩, nI_clamp (by omega), nI_clamp (by omega), q1]), _, _, _, _, rfl, PX.s0.tr (PX.sc SC.s35 (fun _ _ => rfl))⟩
          · refine J_if_eq (pc := 45) (tgt := 57) D10_law_45 (by decide) (fun h45 => absurd h45 (by decide)) (fun h45 => ?_)
            refine J_aload_n (pc := 48) D10_law_48 rfl ?_
            refine J_getf (pc := 49) D10_law_49 fl10_72 rfl rfl ?_
            refine J_iconst (pc := 52) (v := (nI 0)) D10_law_52 (by decide) ?_
            refine J_mwld (pc := 53) D10_law_53 rfl (by omega) ?_
            refine J_goto (pc := 54) (tgt := 60) D10_law_54 (by decide) ?_
            refine J_lret (pc := 60) D10_law_60 rfl ?_
            exact ⟨congrArg (fun q => some (Value.long q)) (by rw [lwF, if_pos ⟨hx9, h27b⟩, nI_clamp (by omega), nI_clamp (by omega), q1]), _, _, _, _, rfl, PX.s0.tr (PX.sc SC.s35 (fun _ _ => rfl))⟩
        · have h27' := eq_true h27
          replace h27 := i01_z h27
          refine J_ldc2_w (pc := 30) (v := LMIN) D10_law_30 t1618 ?_
          refine J_lret (pc := 33) D10_law_33 rfl ?_
          exact ⟨congrArg (fun q => some (Value.long q)) (by rw [lwF, if_neg (fun q => h27 q.2)]), _, _, _, _, rfl, PX.s0⟩
def mnP (m : MR) (x : Int32) : Nat → Bool := fun i => decide (m.2.2.2 3 i = x)
theorem L10_manyOf {d : Nat} {s : Nat → Int32} {A : Nat → Nat → Int32} {L : LL} {M : Nat → MR} {T : TV} {np nb nn : Nat} (hR : RT A T np nb nn) (hT : WT T np nb nn) {c : Nat} {x : Int32} (hc : c < 23) : ∀ (g b : Nat), b + g = nb → J m10_manyOf (d) 0 0 40 5 [(0, .ref 0), (1, .int (nI c)), (2, .int x), (3, .int (nI (cnN (mnP (M c) x) b))), (4, .int (nI b))] [] (modW s A L M) 0 0 (fun r w' => w' = modW s A L M ∧ r = some (.int (nI (cnN (mnP (M c) x) nb)))) := by
  have hnb := hT.2.2.2.2.1
  have hnp := hT.2.2.2.1
  have hnn := hT.2.2.2.2.2.1
  intro g
  induction g with
  | zero =>
    intro b hb
    have e9 : b = nb := by omega
    refine J_iload (pc := 5) D10_manyOf_5 rfl ?_
    refine J_aload_n (pc := 7) D10_manyOf_7 rfl ?_
    refine J_getf (pc := 8) D10_manyOf_8 fl10_13 rfl rfl ?_
    refine J_iconst (pc := 11) (v := (nI 1)) D10_manyOf_11 (by decide) ?_
    refine J_mald (pc := 12) D10_manyOf_12 ma_3 rfl (by omega) rfl ?_
    refine J_st [.int (nI nb), .int (nI b)] (by rw [← hR.2.1]) ?_
    refine J_icmp_ge (pc := 13) (tgt := 46) D10_manyOf_13 (by decide) (fun h13 => ?_) (fun h13 => absurd (nI_le (by omega) (by omega)) h13)
    refine J_iload_n (pc := 46) D10_manyOf_46 rfl ?_
    refine J_iret (pc := 47) D10_manyOf_47 rfl ?_
    exact ⟨rfl, by rw [e9]⟩
  | succ g ih =>
    intro b hb
    refine J_iload (pc := 5) D10_manyOf_5 rfl ?_
    refine J_aload_n (pc := 7) D10_manyOf_7 rfl ?_
    refine J_getf (pc := 8) D10_manyOf_8 fl10_13 rfl rfl ?_
    refine J_iconst (pc := 11) (v := (nI 1)) D10_manyOf_11 (by decide) ?_
    refine J_mald (pc := 12) D10_manyOf_12 ma_3 rfl (by omega) rfl ?_
    refine J_st [.int (nI nb), .int (nI b)] (by rw [← hR.2.1]) ?_
    refine J_icmp_ge (pc := 13) (tgt := 46) D10_manyOf_13 (by decide) (fun h13 => absurd h13 (nI_ge (by omega) (by omega))) (fun h13 => ?_)
    refine J_iload_n (pc := 16) D10_manyOf_16 rfl ?_
    refine J_aload_n (pc := 17) D10_manyOf_17 rfl ?_
    refine J_getf (pc := 18) D10_manyOf_18 fl10_96 rfl rfl ?_
    refine J_bipush (pc := 21) (v := (nI 10)) D10_manyOf_21 (by decide) ?_
    refine J_iload_n (pc := 23) D10_manyOf_23 rfl ?_
    refine J_imul (pc := 24) D10_manyOf_24 ?_
    refine J_iload (pc := 25) D10_manyOf_25 rfl ?_
    refine J_iadd (pc := 27) D10_manyOf_27 ?_
    refine J_mcld (pc := 28) (stp := 10) D10_manyOf_28 mc_3 (ixm _ _ _) (by omega) (by omega) rfl ?_
    refine J_iload_n (pc := 29) D10_manyOf_29 rfl ?_
    refine J_icmp_ne (pc := 30) (tgt := 37) D10_manyOf_30 (by decide) (fun h30 => ?_) (fun h30 => ?_)
    · refine J_iconst (pc := 37) (v := (nI 0)) D10_manyOf_37 (by decide) ?_
      refine J_iadd (pc := 38) D10_manyOf_38 ?_
      refine J_istore_n (pc := 39) D10_manyOf_39 rfl ?_
      refine J_iinc (pc := 40) D10_manyOf_40 rfl (nI_inc _) rfl ?_
      refine J_goto (pc := 43) (tgt := 5) D10_manyOf_43 (by decide) ?_
      refine J_lk [(0, .ref 0), (1, .int (nI c)), (2, .int x), (3, .int (nI (cnN (mnP (M c) x) (b + 1)))), (4, .int (nI (b + 1)))] (by rw [cnN, if_neg (show ¬ mnP (M c) x b = true by show ¬ decide _ = true; rw [decide_eq_false h30]; simp), ← nI_add (cnN (mnP (M c) x) b)]; rfl) ?_
      exact ih (b + 1) (by omega)
    · have h30' := eq_true h30
      refine J_iconst (pc := 33) (v := (nI 1)) D10_manyOf_33 (by decide) ?_
      refine J_goto (pc := 34) (tgt := 38) D10_manyOf_34 (by decide) ?_
      refine J_iadd (pc := 38) D10_manyOf_38 ?_
      refine J_istore_n (pc := 39) D10_manyOf_39 rfl ?_
      refine J_iinc (pc := 40) D10_manyOf_40 rfl (nI_inc _) rfl ?_
      refine J_goto (pc := 43) (tgt := 5) D10_manyOf_43 (by decide) ?_
      refine J_lk [(0, .ref 0), (1, .int (nI c)), (2, .int x), (3, .int (nI (cnN (mnP (M c) x) (b + 1)))), (4, .int (nI (b + 1)))] (by rw [cnN, if_pos (show mnP (M c) x b = true from decide_eq_true h30), ← nI_add (cnN (mnP (M c) x) b)]; rfl) ?_
      exact ih (b + 1) (by omega)
theorem c10_manyOf {d : Nat} {s : Nat → Int32} {A : Nat → Nat → Int32} {L : LL} {M : Nat → MR} {T : TV} {np nb nn : Nat} (hR : RT A T np nb nn) (hT : WT T np nb nn) {c : Nat} {x : Int32} (hc : c < 23) : TR d m10_manyOf [.ref 0, .int (nI c), .int x] (modW s A L M) (.int (nI (cnN (mnP (M c) x) nb))) := by
  refine Tr.intro (by decide) rfl ?_
  refine J_iconst (pc := 0) (v := (nI 0)) D10_manyOf_0 (by decide) ?_
  refine J_istore_n (pc := 1) D10_manyOf_1 rfl ?_
  refine J_iconst (pc := 2) (v := (nI 0)) D10_manyOf_2 (by decide) ?_
  refine J_istore (pc := 3) D10_manyOf_3 rfl ?_
  exact L10_manyOf hR hT hc nb 0 (by omega)
theorem many_e {σ : Prop} {np nb nn : Nat} {m : MR} {V : CV} {x : Int32} (hC : CR σ np nb nn m V) (hnb : nb ≤ 10) (hx : ¬ nI 3 = x) (h : ∀ b, b < nb → (m.2.2.2 3 b = x ↔ V.2.2.2 3 b = x)) : nI (cnN (mnP m x) nb) = bcnt (bitsF (V.2.2.2 3) x 10) := by
  rw [bcnt_e]
  congr 1
  have h1 := cnN_up (P := fun i => decide (V.2.2.2 3 i = x)) (n := nb) (10 - nb) (fun i h1 h2 => decide_eq_false (by rw [hC.2.2.2.2.2.2.2.2.1 i h1 (by omega)]; exact hx))
  rw [show nb + (10 - nb) = 10 by omega] at h1
  rw [h1]
  exact cnN_c nb (fun i hi => decide_eq_decide.mpr (h i hi))
theorem off_e {σ : Prop} {np nb nn : Nat} {m : MR} {V : CV} (hC : CR σ np nb nn m V) (hnb : nb ≤ 10) : nI (cnN (mnP m (nI 2)) nb) = offN V := many_e hC hnb (by decide) (fun b hb => hC.off hb)
theorem st_e {np nb nn : Nat} {m : MR} {V : CV} {x : Int32} (hC : CR False np nb nn m V) (hnb : nb ≤ 10) (hx : ¬ nI 3 = x) : nI (cnN (mnP m x) nb) = bcnt (bitsF (V.2.2.2 3) x 10) := many_e hC hnb hx (fun b hb => by
  rcases (hC.2.2.2.1 b hb).2.2.2.2 with e | ⟨e, -⟩
  · rw [e]
  · exact e.elim)
def nsF (m : MR) (z : Int32) : Nat → Int32
  | 0 => nI 0
  | n + 1 => nsF m z n + (if (¬ z = 0 ∧ 0 < m.2.2.2 5 n) ∨ (z = 0 ∧ m.2.2.2 5 n = 0) then nI 1 else nI 0)
theorem L10_needsOf {d : Nat} {s : Nat → Int32} {A : Nat → Nat → Int32} {L : LL} {M : Nat → MR} {T : TV} {np nb nn : Nat} (hR : RT A T np nb nn) (hT : WT T np nb nn) {c : Nat} {z : Int32} (hc : c < 23) : ∀ (g b : Nat), b + g = nn → J m10_needsOf (d) 0 0 40 5 [(0, .ref 0), (1, .int (nI c)), (2, .int z), (3, .int (nsF (M c) z b)), (4, .int (nI b))] [] (modW s A L M) 0 0 (fun r w' => w' = modW s A L M ∧ r = some (.int (nsF (M c) z nn))) := by
  have hnb := hT.2.2.2.2.1
  have hnp := hT.2.2.2.1
  have hnn := hT.2.2.2.2.2.1
  intro g
  induction g with
  | zero =>
    intro b hb
    have e9 : b = nn := by omega
    refine J_iload (pc := 5) D10_needsOf_5 rfl ?_
    refine J_aload_n (pc := 7) D10_needsOf_7 rfl ?_
    refine J_getf (pc := 8) D10_needsOf_8 fl10_13 rfl rfl ?_
    refine J_iconst (pc := 11) (v := (nI 2)) D10_needsOf_11 (by decide) ?_
    refine J_mald (pc := 12) D10_needsOf_12 ma_3 rfl (by omega) rfl ?_
    refine J_st [.int (nI nn), .int (nI b)] (by rw [← hR.2.2.1]) ?_
    refine J_icmp_ge (pc := 13) (tgt := 62) D10_needsOf_13 (by decide) (fun h13 => ?_) (fun h13 => absurd (nI_le (by omega) (by omega)) h13)
    refine J_iload_n (pc := 62) D10_needsOf_62 rfl ?_
    refine J_iret (pc := 63) D10_needsOf_63 rfl ?_
    exact ⟨rfl, by rw [e9]⟩
  | succ g ih =>
    intro b hb
    refine J_iload (pc := 5) D10_needsOf_5 rfl ?_
    refine J_aload_n (pc := 7) D10_needsOf_7 rfl ?_
    refine J_getf (pc := 8) D10_needsOf_8 fl10_13 rfl rfl ?_
    refine J_iconst (pc := 11) (v := (nI 2)) D10_needsOf_11 (by decide) ?_
    refine J_mald (pc := 12) D10_needsOf_12 ma_3 rfl (by omega) rfl ?_
    refine J_st [.int (nI nn), .int (nI b)] (by rw [← hR.2.2.1]) ?_
    refine J_icmp_ge (pc := 13) (tgt := 62) D10_needsOf_13 (by decide) (fun h13 => absurd h13 (nI_ge (by omega) (by omega))) (fun h13 => ?_)
    refine J_aload_n (pc := 16) D10_needsOf_16 rfl ?_
    refine J_getf (pc := 17) D10_needsOf_17 fl10_102 rfl rfl ?_
    refine J_bipush (pc := 20) (v := (nI 8)) D10_needsOf_20 (by decide) ?_
    refine J_iload_n (pc := 22) D10_needsOf_22 rfl ?_
    refine J_imul (pc := 23) D10_needsOf_23 ?_
    refine J_iload (pc := 24) D10_needsOf_24 rfl ?_
    refine J_iadd (pc := 26) D10_needsOf_26 ?_
    refine J_mcld (pc := 27) (stp := 8) D10_needsOf_27 mc_5 (ixm _ _ _) (by omega) (by omega) rfl ?_
    refine J_istore (pc := 28) D10_needsOf_28 rfl ?_
    refine J_iload_n (pc := 30) D10_needsOf_30 rfl ?_
    refine J_iload_n (pc := 31) D10_needsOf_31 rfl ?_
    refine J_if_eq (pc := 32) (tgt := 40) D10_needsOf_32 (by decide) (fun h32 => ?_) (fun h32 => ?_)
    · have h32' := eq_true h32
      refine J_iload_n (pc := 40) D10_needsOf_40 rfl ?_
      refine J_if_ne (pc := 41) (tgt := 53) D10_needsOf_41 (by decide) (fun h41 => absurd h32 h41) (fun h41 => ?_)
      refine J_iload (pc := 44) D10_needsOf_44 rfl ?_
      refine J_if_ne (pc := 46) (tgt := 53) D10_needsOf_46 (by decide) (fun h46 => ?_) (fun h46 => ?_)
      · refine J_iconst (pc := 53) (v := (nI 0)) D10_needsOf_53 (by decide) ?_
        refine J_iadd (pc := 54) D10_needsOf_54 ?_
        refine J_istore_n (pc := 55) D10_needsOf_55 rfl ?_
        refine J_iinc (pc := 56) D10_needsOf_56 rfl (nI_inc _) rfl ?_
        refine J_goto (pc := 59) (tgt := 5) D10_needsOf_59 (by decide) ?_
        refine J_lk [(0, .ref 0), (1, .int (nI c)), (2, .int z), (3, .int (nsF (M c) z (b + 1))), (4, .int (nI (b + 1)))] (by rw [nsF, if_neg (fun q => q.elim (fun w => w.1 h32) (fun w => h46 w.2))]; rfl) ?_
        exact ih (b + 1) (by omega)
      · have h46' := eq_true h46
        refine J_iconst (pc := 49) (v := (nI 1)) D10_needsOf_49 (by decide) ?_
        refine J_goto (pc := 50) (tgt := 54) D10_needsOf_50 (by decide) ?_
        refine J_iadd (pc := 54) D10_needsOf_54 ?_
        refine J_istore_n (pc := 55) D10_needsOf_55 rfl ?_
        refine J_iinc (pc := 56) D10_needsOf_56 rfl (nI_inc _) rfl ?_
        refine J_goto (pc := 59) (tgt := 5) D10_needsOf_59 (by decide) ?_
        refine J_lk [(0, .ref 0), (1, .int (nI c)), (2, .int z), (3, .int (nsF (M c) z (b + 1))), (4, .int (nI (b + 1)))] (by rw [nsF, if_pos (Or.inr ⟨h32, h46⟩)]; rfl) ?_
        exact ih (b + 1) (by omega)
    · refine J_iload (pc := 35) D10_needsOf_35 rfl ?_
      refine J_if_gt (pc := 37) (tgt := 49) D10_needsOf_37 (by decide) (fun h37 => ?_) (fun h37 => ?_)
      · have h37' := Int32.not_le.mpr h37
        refine J_iconst (pc := 49) (v := (nI 1)) D10_needsOf_49 (by decide) ?_
        refine J_goto (pc := 50) (tgt := 54) D10_needsOf_50 (by decide) ?_
        refine J_iadd (pc := 54) D10_needsOf_54 ?_
        refine J_istore_n (pc := 55) D10_needsOf_55 rfl ?_
        refine J_iinc (pc := 56) D10_needsOf_56 rfl (nI_inc _) rfl ?_
        refine J_goto (pc := 59) (tgt := 5) D10_needsOf_59 (by decide) ?_
        refine J_lk [(0, .ref 0), (1, .int (nI c)), (2, .int z), (3, .int (nsF (M c) z (b + 1))), (4, .int (nI (b + 1)))] (by rw [nsF, if_pos (Or.inl ⟨h32, h37⟩)]; rfl) ?_
        exact ih (b + 1) (by omega)
      · have h37' := Int32.not_lt.mp h37
        refine J_iload_n (pc := 40) D10_needsOf_40 rfl ?_
        refine J_if_ne (pc := 41) (tgt := 53) D10_needsOf_41 (by decide) (fun h41 => ?_) (fun h41 => absurd h41 h32)
        refine J_iconst (pc := 53) (v := (nI 0)) D10_needsOf_53 (by decide) ?_
        refine J_iadd (pc := 54) D10_needsOf_54 ?_
        refine J_istore_n (pc := 55) D10_needsOf_55 rfl ?_
        refine J_iinc (pc := 56) D10_needsOf_56 rfl (nI_inc _) rfl ?_
        refine J_goto (pc := 59) (tgt := 5) D10_needsOf_59 (by decide) ?_
        refine J_lk [(0, .ref 0), (1, .int (nI c)), (2, .int z), (3, .int (nsF (M c) z (b + 1))), (4, .int (nI (b + 1)))] (by rw [nsF, if_neg (fun q => q.elim (fun w => h37 w.2) (fun w => h32 w.1))]; rfl) ?_
        exact ih (b + 1) (by omega)
theorem c10_needsOf {d : Nat} {s : Nat → Int32} {A : Nat → Nat → Int32} {L : LL} {M : Nat → MR} {T : TV} {np nb nn : Nat} (hR : RT A T np nb nn) (hT : WT T np nb nn) {c : Nat} {z : Int32} (hc : c < 23) : TR d m10_needsOf [.ref 0, .int (nI c), .int z] (modW s A L M) (.int (nsF (M c) z nn)) := by
  refine Tr.intro (by decide) rfl ?_
  refine J_iconst (pc := 0) (v := (nI 0)) D10_needsOf_0 (by decide) ?_
  refine J_istore_n (pc := 1) D10_needsOf_1 rfl ?_
  refine J_iconst (pc := 2) (v := (nI 0)) D10_needsOf_2 (by decide) ?_
  refine J_istore (pc := 3) D10_needsOf_3 rfl ?_
  exact L10_needsOf hR hT hc nn 0 (by omega)
theorem cntF_up {f : Nat → Int32} {x : Int32} {n : Nat} : ∀ k, (∀ i, n ≤ i → i < n + k → ¬ f i = x) → cntF f x (n + k) = cntF f x n
  | 0, _ => rfl
  | k + 1, h => by rw [show n + (k + 1) = n + k + 1 by omega, cntF, if_neg (h (n + k) (by omega) (by omega)), cntF_up k (fun i h1 h2 => h i h1 (by omega))]
theorem cntF_8 {σ : Prop} {np nb nn : Nat} {m : MR} {V : CV} {x : Int32} (hC : CR σ np nb nn m V) (hnn : nn ≤ 8) (hx : ¬ -1 = x) : cntF (V.2.2.2 5) x 8 = cntF (V.2.2.2 5) x nn := by
  have h1 := cntF_up (f := V.2.2.2 5) (x := x) (n := nn) (8 - nn) (fun i h1 h2 => by rw [hC.2.2.2.2.2.2.2.2.2.1 i h1 (by omega)]; exact hx)
  rw [show nn + (8 - nn) = 8 by omega] at h1
  exact h1
theorem ns_1 {σ : Prop} {np nb nn : Nat} {m : MR} {V : CV} (hC : CR σ np nb nn m V) : ∀ n, n ≤ 8 → nsF m (nI 1) n = cntF (V.2.2.2 5) (nI 1) n + cntF (V.2.2.2 5) (nI 2) n
  | 0, _ => rfl
  | n + 1, h => by
    rw [nsF, cntF, cntF, ns_1 hC n (by omega), hC.2.2.2.2.1 n (by omega)]
    rcases hC.2.2.2.2.2.2.2.2.2.2.2.2.1 n (by omega) with e | e | e | e
    · rw [e, if_neg (by decide), if_neg (by decide), if_neg (by decide), ad0]
    · rw [e, if_neg (by decide), if_neg (by decide), if_neg (by decide), ad0]
    · rw [e, if_pos (by decide), if_pos rfl, if_neg (by decide), Int32.add_assoc, Int32.add_comm _ (nI 1), ← Int32.add_assoc]
    · rw [e, if_pos (by decide), if_neg (by decide), if_pos rfl, Int32.add_assoc]
theorem ns_0 {σ : Prop} {np nb nn : Nat} {m : MR} {V : CV} (hC : CR σ np nb nn m V) : ∀ n, n ≤ 8 → nsF m (nI 0) n = cntF (V.2.2.2 5) (nI 0) n
  | 0, _ => rfl
  | n + 1, h => by
    rw [nsF, cntF, ns_0 hC n (by omega), hC.2.2.2.2.1 n (by omega)]
    rcases hC.2.2.2.2.2.2.2.2.2.2.2.2.1 n (by omega) with e | e | e | e
    · rw [e, if_neg (by decide), if_neg (by decide), ad0]
    · rw [e, if_pos (by decide), if_pos rfl]
    · rw [e, if_neg (by decide), if_neg (by decide), ad0]
    · rw [e, if_neg (by decide), if_neg (by decide), ad0]
theorem met_e {σ : Prop} {np nb nn : Nat} {m : MR} {V : CV} (hC : CR σ np nb nn m V) (hnn : nn ≤ 8) : nsF m (nI 1) nn = metN V := by
  rw [ns_1 hC nn hnn, metN, cntF_8 hC hnn (by decide), cntF_8 hC hnn (by decide)]
theorem um_e {σ : Prop} {np nb nn : Nat} {m : MR} {V : CV} (hC : CR σ np nb nn m V) (hnn : nn ≤ 8) : nsF m (nI 0) nn = umN V := by
  rw [ns_0 hC nn hnn, umN, cntF_8 hC hnn (by decide)]
def hsF (m : MR) : Nat → Int32
  | 0 => nI 0
  | n + 1 => hsF m n + bsF (m.2.2.2 6 n) 10
theorem L10_hatesAll {d : Nat} {s : Nat → Int32} {A : Nat → Nat → Int32} {L : LL} {M : Nat → MR} {T : TV} {np nb nn : Nat} (hR : RT A T np nb nn) (hT : WT T np nb nn) {c : Nat} (hc : c < 23) : ∀ (g b : Nat), b + g = np → J m10_hatesAll (d + 1) 0 0 40 4 [(0, .ref 0), (1, .int (nI c)), (2, .int (hsF (M c) b)), (3, .int (nI b))] [] (modW s A L M) 0 0 (fun r w' => w' = modW s A L M ∧ r = some (.int (hsF (M c) np))) := by
  have hnb := hT.2.2.2.2.1
  have hnp := hT.2.2.2.1
  have hnn := hT.2.2.2.2.2.1
  intro g
  induction g with
  | zero =>
    intro b hb
    have e9 : b = np := by omega
    refine J_iload_n (pc := 4) D10_hatesAll_4 rfl ?_
    refine J_aload_n (pc := 5) D10_hatesAll_5 rfl ?_
    refine J_getf (pc := 6) D10_hatesAll_6 fl10_13 rfl rfl ?_
    refine J_iconst (pc := 9) (v := (nI 0)) D10_hatesAll_9 (by decide) ?_
    refine J_mald (pc := 10) D10_hatesAll_10 ma_3 rfl (by omega) rfl ?_
    refine J_st [.int (nI np), .int (nI b)] (by rw [← hR.1]) ?_
    refine J_icmp_ge (pc := 11) (tgt := 36) D10_hatesAll_11 (by decide) (fun h11 => ?_) (fun h11 => absurd (nI_le (by omega) (by omega)) h11)
    refine J_iload_n (pc := 36) D10_hatesAll_36 rfl ?_
    refine J_iret (pc := 37) D10_hatesAll_37 rfl ?_
    exact ⟨rfl, by rw [e9]⟩
  | succ g ih =>
    intro b hb
    refine J_iload_n (pc := 4) D10_hatesAll_4 rfl ?_
    refine J_aload_n (pc := 5) D10_hatesAll_5 rfl ?_
    refine J_getf (pc := 6) D10_hatesAll_6 fl10_13 rfl rfl ?_
    refine J_iconst (pc := 9) (v := (nI 0)) D10_hatesAll_9 (by decide) ?_
    refine J_mald (pc := 10) D10_hatesAll_10 ma_3 rfl (by omega) rfl ?_
    refine J_st [.int (nI np), .int (nI b)] (by rw [← hR.1]) ?_
    refine J_icmp_ge (pc := 11) (tgt := 36) D10_hatesAll_11 (by decide) (fun h11 => absurd h11 (nI_ge (by omega) (by omega))) (fun h11 => ?_)
    refine J_iload_n (pc := 14) D10_hatesAll_14 rfl ?_
    refine J_aload_n (pc := 15) D10_hatesAll_15 rfl ?_
    refine J_getf (pc := 16) D10_hatesAll_16 fl10_84 rfl rfl ?_
    refine J_iconst (pc := 19) (v := (nI 5)) D10_hatesAll_19 (by decide) ?_
    refine J_iload_n (pc := 20) D10_hatesAll_20 rfl ?_
    refine J_imul (pc := 21) D10_hatesAll_21 ?_
    refine J_iload_n (pc := 22) D10_hatesAll_22 rfl ?_
    refine J_iadd (pc := 23) D10_hatesAll_23 ?_
    refine J_mcld (pc := 24) (stp := 5) D10_hatesAll_24 mc_6 (ixm _ _ _) (by omega) (by omega) rfl ?_
    refine J_callSR (pc := 25) (ι := []) (ac := [.int _]) D10_hatesAll_25 m10_bitsOf_s t1587 (c10_bitsOf (d := d)) (by omega) ⟨rfl, rfl⟩ rfl rfl (fun _ => rfl) rfl rfl rfl ?_
    refine J_iadd (pc := 28) D10_hatesAll_28 ?_
    refine J_istore_n (pc := 29) D10_hatesAll_29 rfl ?_
    refine J_iinc (pc := 30) D10_hatesAll_30 rfl (nI_inc _) rfl ?_
    refine J_goto (pc := 33) (tgt := 4) D10_hatesAll_33 (by decide) ?_
    refine J_lk [(0, .ref 0), (1, .int (nI c)), (2, .int (hsF (M c) (b + 1))), (3, .int (nI (b + 1)))] (by rw [hsF]; rfl) ?_
    exact ih (b + 1) (by omega)
theorem c10_hatesAll {d : Nat} {s : Nat → Int32} {A : Nat → Nat → Int32} {L : LL} {M : Nat → MR} {T : TV} {np nb nn : Nat} (hR : RT A T np nb nn) (hT : WT T np nb nn) {c : Nat} (hc : c < 23) : TR (d + 1) m10_hatesAll [.ref 0, .int (nI c)] (modW s A L M) (.int (hsF (M c) np)) := by
  refine Tr.intro (by decide) rfl ?_
  refine J_iconst (pc := 0) (v := (nI 0)) D10_hatesAll_0 (by decide) ?_
  refine J_istore_n (pc := 1) D10_hatesAll_1 rfl ?_
  refine J_iconst (pc := 2) (v := (nI 0)) D10_hatesAll_2 (by decide) ?_
  refine J_istore_n (pc := 3) D10_hatesAll_3 rfl ?_
  exact L10_hatesAll hR hT hc np 0 (by omega)
theorem bs5 : ∀ h, h < 32 → bsF (nI h) 10 = nI 0 + ((nI h >>> (nI 0 &&& 31)) &&& nI 1) + ((nI h >>> (nI 1 &&& 31)) &&& nI 1) + ((nI h >>> (nI 2 &&& 31)) &&& nI 1) + ((nI h >>> (nI 3 &&& 31)) &&& nI 1) + ((nI h >>> (nI 4 &&& 31)) &&& nI 1) := by decide +kernel
theorem add5 (a b c d e a' b' c' d' e' : Int32) : 0 + a + b + c + d + e + (0 + a' + b' + c' + d' + e') = 0 + (a + a') + (b + b') + (c + c') + (d + d') + (e + e') := by
  simp only [Int32.zero_add]
  ac_rfl
theorem hs_s {σ : Prop} {np nb nn : Nat} {m : MR} {V : CV} (hC : CR σ np nb nn m V) : ∀ n, n ≤ 5 → hsF m n = sumF (fun q => hdS m (nI q) n) 5
  | 0, _ => rfl
  | n + 1, h => by
    rw [hsF, hs_s hC n (by omega)]
    obtain ⟨a, ha, ea⟩ := hC.2.2.2.2.2.2.2.2.2.2.2.1 n (by omega)
    rw [hC.2.2.2.2.2.1 n (by omega), ea, bs5 a ha, ← ea, ← hC.2.2.2.2.2.1 n (by omega)]
    exact add5 _ _ _ _ _ _ _ _ _ _
theorem hs_e {σ : Prop} {np nb nn : Nat} {m : MR} {V : CV} (hC : CR σ np nb nn m V) (hnp : np ≤ 5) : hsF m np = hpN V := by
  rw [hs_s hC np hnp, hpN]
  have h := hC.2.2.2.2.2.2.1
  show nI 0 + _ + _ + _ + _ + _ = 0 + V.2.2.2 7 0 + V.2.2.2 7 1 + V.2.2.2 7 2 + V.2.2.2 7 3 + V.2.2.2 7 4
  rw [h 0 (by omega), h 1 (by omega), h 2 (by omega), h 3 (by omega), h 4 (by omega)]
  rfl
theorem L10_strongest {d : Nat} {s : Nat → Int32} {A : Nat → Nat → Int32} {L : LL} {M : Nat → MR} {T : TV} {np nb nn : Nat} (hR : RT A T np nb nn) (hT : WT T np nb nn) {V : CV} (hC : CR False np nb nn (M 0) V) {p : Int32} : ∀ (g b : Nat), b + g = nb → J m10_strongest (d + 1) 0 0 40 4 [(0, .ref 0), (1, .int p), (2, .int (wkI (stO T V p b))), (3, .int (nI b))] [] (modW s A L M) 0 0 (fun r w' => w' = modW s A L M ∧ r = some (.int (wkI (stO T V p nb)))) := by
  have hnb := hT.2.2.2.2.1
  have hnp := hT.2.2.2.1
  have hnn := hT.2.2.2.2.2.1
  intro g
  induction g with
  | zero =>
    intro b hb
    have e9 : b = nb := by omega
    refine J_iload_n (pc := 4) D10_strongest_4 rfl ?_
    refine J_aload_n (pc := 5) D10_strongest_5 rfl ?_
    refine J_getf (pc := 6) D10_strongest_6 fl10_13 rfl rfl ?_
    refine J_iconst (pc := 9) (v := (nI 1)) D10_strongest_9 (by decide) ?_
    refine J_mald (pc := 10) D10_strongest_10 ma_3 rfl (by omega) rfl ?_
    refine J_st [.int (nI nb), .int (nI b)] (by rw [← hR.2.1]) ?_
    refine J_icmp_ge (pc := 11) (tgt := 61) D10_strongest_11 (by decide) (fun h11 => ?_) (fun h11 => absurd (nI_le (by omega) (by omega)) h11)
    refine J_iload_n (pc := 61) D10_strongest_61 rfl ?_
    refine J_iret (pc := 62) D10_strongest_62 rfl ?_
    exact ⟨rfl, by rw [e9]⟩
  | succ g ih =>
    intro b hb
    have ely := hC.ly (b := b) (by omega)
    have e7 := (hR.2.2.2.2.2.2.2.1 b (by omega)).2.1
    have e1 := (hC.2.2.2.1 b (by omega)).2.1
    refine J_iload_n (pc := 4) D10_strongest_4 rfl ?_
    refine J_aload_n (pc := 5) D10_strongest_5 rfl ?_
    refine J_getf (pc := 6) D10_strongest_6 fl10_13 rfl rfl ?_
    refine J_iconst (pc := 9) (v := (nI 1)) D10_strongest_9 (by decide) ?_
    refine J_mald (pc := 10) D10_strongest_10 ma_3 rfl (by omega) rfl ?_
    refine J_st [.int (nI nb), .int (nI b)] (by rw [← hR.2.1]) ?_
    refine J_icmp_ge (pc := 11) (tgt := 61) D10_strongest_11 (by decide) (fun h11 => absurd h11 (nI_ge (by omega) (by omega))) (fun h11 => ?_)
    refine J_aload_n (pc := 14) D10_strongest_14 rfl ?_
    refine J_iconst (pc := 15) (v := (nI 0)) D10_strongest_15 (by decide) ?_
    refine J_iload_n (pc := 16) D10_strongest_16 rfl ?_
    refine J_callVTR (pc := 17) (ac := [.int _, .int _]) D10_strongest_17 m10_isLying_v t1583 (c10_isLying (d := d) (c := 0) (b := b) (by decide) (by omega)) (by omega) rfl rfl rfl rfl (fun _ => rfl) rfl rfl rfl ?_
    refine J_if_eq (pc := 20) (tgt := 55) D10_strongest_20 (by decide) (fun h20 => ?_) (fun h20 => ?_)
    · have h20' := eq_true h20
      replace h20 := i01_z h20
      refine J_iinc (pc := 55) D10_strongest_55 rfl (nI_inc _) rfl ?_
      refine J_goto (pc := 58) (tgt := 4) D10_strongest_58 (by decide) ?_
      refine J_lk [(0, .ref 0), (1, .int p), (2, .int (wkI (stO T V p (b + 1)))), (3, .int (nI (b + 1)))] (by rw [stO, if_neg (fun q => h20 (ely.mpr q.1))]; rfl) ?_
      exact ih (b + 1) (by omega)
    · replace h20 := i01_nz h20
      refine J_aload_n (pc := 23) D10_strongest_23 rfl ?_
      refine J_getf (pc := 24) D10_strongest_24 fl10_25 rfl rfl ?_
      refine J_iload_n (pc := 27) D10_strongest_27 rfl ?_
      refine J_mald (pc := 28) D10_strongest_28 ma_7 rfl (by omega) rfl ?_
      refine J_iload_n (pc := 29) D10_strongest_29 rfl ?_
      refine J_icmp_ne (pc := 30) (tgt := 55) D10_strongest_30 (by decide) (fun h30 => ?_) (fun h30 => ?_)
      · refine J_iinc (pc := 55) D10_strongest_55 rfl (nI_inc _) rfl ?_
        refine J_goto (pc := 58) (tgt := 4) D10_strongest_58 (by decide) ?_
        refine J_lk [(0, .ref 0), (1, .int p), (2, .int (wkI (stO T V p (b + 1)))), (3, .int (nI (b + 1)))] (by rw [stO, if_neg (fun q => h30 (e7.trans q.2.1))]; rfl) ?_
        exact ih (b + 1) (by omega)
      · have h30' := eq_true h30
        refine J_iload_n (pc := 33) D10_strongest_33 rfl ?_
        refine J_iconst (pc := 34) (v := (-1)) D10_strongest_34 (by decide) ?_
        refine J_icmp_eq (pc := 35) (tgt := 53) D10_strongest_35 (by decide) (fun h35 => ?_) (fun h35 => ?_)
        · have h35' := eq_true h35
          refine J_iload_n (pc := 53) D10_strongest_53 rfl ?_
          refine J_istore_n (pc := 54) D10_strongest_54 rfl ?_
          refine J_iinc (pc := 55) D10_strongest_55 rfl (nI_inc _) rfl ?_
          refine J_goto (pc := 58) (tgt := 4) D10_strongest_58 (by decide) ?_
          refine J_lk [(0, .ref 0), (1, .int p), (2, .int (wkI (stO T V p (b + 1)))), (3, .int (nI (b + 1)))] (by rw [stO, if_pos ⟨ely.mp h20, e7.symm.trans h30, fun w hw => by rw [wkI_nn (stO_lt b) (by omega) h35] at hw; cases hw⟩]; rfl) ?_
          exact ih (b + 1) (by omega)
        · obtain ⟨w, hw⟩ := wkI_some h35
          have hwl := stO_lt b w hw
          have ew := (hC.2.2.2.1 w (by omega)).2.1
          refine J_aload_n (pc := 38) D10_strongest_38 rfl ?_
          refine J_getf (pc := 39) D10_strongest_39 fl10_87 rfl rfl ?_
          refine J_iload_n (pc := 42) D10_strongest_42 rfl ?_
          refine J_mcld (pc := 43) (stp := 10) D10_strongest_43 mc_1 (ix0 _ _) (by omega) (by omega) rfl ?_
          refine J_aload_n (pc := 44) D10_strongest_44 rfl ?_
          refine J_getf (pc := 45) D10_strongest_45 fl10_87 rfl rfl ?_
          refine J_iload_n (pc := 48) D10_strongest_48 rfl ?_
          refine J_st (.int (nI w) :: .ref 25 :: .int (V.2.2.2 1 b) :: []) (by rw [hw, e1]; rfl) ?_
          refine J_mcld (pc := 49) (stp := 10) D10_strongest_49 mc_1 (ix0 _ _) (by omega) (by omega) rfl ?_
          rw [ew]
          refine J_icmp_le (pc := 50) (tgt := 55) D10_strongest_50 (by decide) (fun h50 => ?_) (fun h50 => ?_)
          · have h50' := Int32.not_lt.mpr h50
            refine J_iinc (pc := 55) D10_strongest_55 rfl (nI_inc _) rfl ?_
            refine J_goto (pc := 58) (tgt := 4) D10_strongest_58 (by decide) ?_
            refine J_lk [(0, .ref 0), (1, .int p), (2, .int (wkI (stO T V p (b + 1)))), (3, .int (nI (b + 1)))] (by rw [stO, if_neg (fun q => absurd (q.2.2 w hw) (Int32.not_lt.mpr h50))]; rfl) ?_
            exact ih (b + 1) (by omega)
          · have h50' := Int32.not_le.mp h50
            refine J_iload_n (pc := 53) D10_strongest_53 rfl ?_
            refine J_istore_n (pc := 54) D10_strongest_54 rfl ?_
            refine J_iinc (pc := 55) D10_strongest_55 rfl (nI_inc _) rfl ?_
            refine J_goto (pc := 58) (tgt := 4) D10_strongest_58 (by decide) ?_
            refine J_lk [(0, .ref 0), (1, .int p), (2, .int (wkI (stO T V p (b + 1)))), (3, .int (nI (b + 1)))] (by rw [stO, if_pos ⟨ely.mp h20, e7.symm.trans h30, fun w9 hw9 => by rw [hw] at hw9; cases hw9; exact Int32.not_le.mp h50⟩]; rfl) ?_
            exact ih (b + 1) (by omega)
theorem c10_strongest {d : Nat} {s : Nat → Int32} {A : Nat → Nat → Int32} {L : LL} {M : Nat → MR} {T : TV} {np nb nn : Nat} (hR : RT A T np nb nn) (hT : WT T np nb nn) {V : CV} (hC : CR False np nb nn (M 0) V) {p : Int32} : TR (d + 1) m10_strongest [.ref 0, .int p] (modW s A L M) (.int (wkI (stO T V p nb))) := by
  refine Tr.intro (by decide) rfl ?_
  refine J_iconst (pc := 0) (v := (-1)) D10_strongest_0 (by decide) ?_
  refine J_istore_n (pc := 1) D10_strongest_1 rfl ?_
  refine J_iconst (pc := 2) (v := (nI 0)) D10_strongest_2 (by decide) ?_
  refine J_istore_n (pc := 3) D10_strongest_3 rfl ?_
  exact L10_strongest hR hT hC nb 0 (by omega)
