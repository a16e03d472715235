/-! THE MODEL: go, undo, keep, back (own program mod_p1.py) -/
/-- the end of a deed that may take years -/
def gQ (s : Nat → Int32) (A : Nat → Nat → Int32) (M : Nat → MR) (np nb nn : Nat) (v : Int32) (U : UV) (V : CV) : Option Value → List EC → Prop := fun r w' => r = some (.int v) ∧ ∃ s' A' L' M', w' = modW s' A' L' M' ∧ (∀ k, k ≠ 0 → k ≠ 35 → k ≠ 47 → s' k = s k) ∧ (∀ k, k ≠ 49 → A' k = A k) ∧ M' 2 = M 2 ∧ CR False np nb nn (M' 0) V ∧ UR s' M' U V np nb nn
theorem L10_go {d : Nat} {T : TV} {np nb nn : Nat} {s0 : Nat → Int32} {A0 : Nat → Nat → Int32} {M0 : Nat → MR} (hR0 : RT A0 T np nb nn) (hT : WT T np nb nn) {n : Nat} (h48 : s0 48 = 0) (hn : n < 1000) {Q : Option Value → List EC → Prop} : ∀ (g i : Nat) (V : CV) (s : Nat → Int32) (A : Nat → Nat → Int32) (L : LL) (M : Nat → MR), i + g = n → IV False np nb nn 0 s0 A0 M0 s A M V → (∀ s A L M, IV False np nb nn 0 s0 A0 M0 s A M (passN T y0 nb nn g V) → Q (some (.int (M 0).1)) (modW s A L M)) → J m10_go (d + 6) 0 0 40 42 [(0, .ref 0), (1, .int (nI n)), (2, .int (nI i))] [] (modW s A L M) 0 0 Q := by
  intro g
  induction g with
  | zero =>
    intro i V s A L M hi hI K
    refine J_iload_n (pc := 42) D10_go_42 rfl ?_
    refine J_iload_n (pc := 43) D10_go_43 rfl ?_
    refine J_icmp_ge (pc := 44) (tgt := 59) D10_go_44 (by decide) (fun h44 => ?_) (fun h44 => absurd (nI_le (by omega) (by omega)) h44)
    refine J_aload_n (pc := 59) D10_go_59 rfl ?_
    refine J_getf (pc := 60) D10_go_60 fl10_75 rfl rfl ?_
    refine J_iconst (pc := 63) (v := (nI 0)) D10_go_63 (by decide) ?_
    refine J_msld (pc := 64) D10_go_64 mq_year rfl (by omega) ?_
    refine J_iret (pc := 65) D10_go_65 rfl ?_
    exact K _ _ _ _ hI
  | succ g ih =>
    intro i V s A L M hi hI K
    have hR := hI.1.rt hR0
    have es : s 48 = s0 48 := hI.1.1 48 (by decide)
    refine J_iload_n (pc := 42) D10_go_42 rfl ?_
    refine J_iload_n (pc := 43) D10_go_43 rfl ?_
    refine J_icmp_ge (pc := 44) (tgt := 59) D10_go_44 (by decide) (fun h44 => absurd h44 (nI_ge (by omega) (by omega))) (fun h44 => ?_)
    refine J_aload_n (pc := 47) D10_go_47 rfl ?_
    refine J_iconst (pc := 48) (v := (nI 0)) D10_go_48 (by decide) ?_
    refine J_iconst (pc := 49) (v := (nI 1)) D10_go_49 (by decide) ?_
    refine J_callVT (pc := 50) (ac := [.int _, .int _]) D10_go_50 m10_passes_v t1671 (c10_passes (d := d) hR hT (c := 0) (by decide) hI.2.2 (by rw [es, h48]; exact Or.inl ⟨rfl, rfl, rfl⟩)) (by omega) rfl rfl rfl rfl rfl rfl rfl (fun r w' hq hl => ?_)
    obtain ⟨rfl, s2, A2, L2, M2, rfl, hs2, hM2, hC2⟩ := hq
    refine J_iinc (pc := 53) D10_go_53 rfl (nI_inc _) rfl ?_
    refine J_goto (pc := 56) (tgt := 42) D10_go_56 (by decide) ?_
    exact ih (i + 1) _ _ _ _ _ (by omega) (hI.go hs2 hM2 hC2) K
theorem goOk_u {V : CV} {n : Int32} (h : goOk V n = true) : ixB 100 n = true ∧ V.1 + n ≤ nI 9900 := ⟨(Bool.and_eq_true_iff.mp h).1, of_decide_eq_true (Bool.and_eq_true_iff.mp h).2⟩
theorem c10_go {d : Nat} {s : Nat → Int32} {A : Nat → Nat → Int32} {L : LL} {M : Nat → MR} {T : TV} {np nb nn : Nat} (hR : RT A T np nb nn) (hT : WT T np nb nn) {V : CV} (hC : CR False np nb nn (M 0) V) {U : UV} (hU : UR s M U V np nb nn) (h48 : s 48 = 0) {n : Int32} : Tr (d + 6) 0 0 m10_go [.ref 0, .int n] (modW s A L M) (gQ s A M np nb nn (goA T V nb nn n) (goU V U n) (goV T V nb nn n)) := by
  have hnb := hT.2.2.2.2.1
  have hnp := hT.2.2.2.1
  have hnn := hT.2.2.2.2.2.1
  have e0 := hC.1
  refine Tr.intro (by decide) rfl ?_
  refine J_aload_n (pc := 0) D10_go_0 rfl ?_
  refine J_iconst (pc := 1) (v := (nI 0)) D10_go_1 (by decide) ?_
  refine J_mput (pc := 2) D10_go_2 fp10_139 ms_0 ?_
  refine J_iload_n (pc := 5) D10_go_5 rfl ?_
  refine J_if_lt (pc := 6) (tgt := 29) D10_go_6 (by decide) (fun h6 => ?_) (fun h6 => ?_)
  · have h6' := Int32.not_le.mpr h6
    refine J_iconst (pc := 29) (v := (-1)) D10_go_29 (by decide) ?_
    refine J_iret (pc := 30) D10_go_30 rfl ?_
    have hn9 : ¬ goOk V n = true := fun z => ixB_0 h6 (goOk_u z).1
    exact ⟨by rw [goA, if_neg hn9], _, _, _, _, rfl, fun k h0 _ _ => updI_n h0, fun _ _ => rfl, rfl, by rw [goV, if_neg hn9]; exact hC, by rw [goV, if_neg hn9, goU, if_neg (fun z => hn9 z.1)]; exact ⟨hU.1, hU.2⟩⟩
  · have h6' := Int32.not_lt.mp h6
    refine J_iload_n (pc := 9) D10_go_9 rfl ?_
    refine J_bipush (pc := 10) (v := (nI 99)) D10_go_10 (by decide) ?_
    refine J_icmp_gt (pc := 12) (tgt := 29) D10_go_12 (by decide) (fun h12 => ?_) (fun h12 => ?_)
    · have h12' := Int32.not_le.mpr h12
      refine J_iconst (pc := 29) (v := (-1)) D10_go_29 (by decide) ?_
      refine J_iret (pc := 30) D10_go_30 rfl ?_
      have hn9 : ¬ goOk V n = true := fun z => ixB_gt (n := 99) (by decide) h12 (goOk_u z).1
      exact ⟨by rw [goA, if_neg hn9], _, _, _, _, rfl, fun k h0 _ _ => updI_n h0, fun _ _ => rfl, rfl, by rw [goV, if_neg hn9]; exact hC, by rw [goV, if_neg hn9, goU, if_neg (fun z => hn9 z.1)]; exact ⟨hU.1, hU.2⟩⟩
    · have h12' := Int32.not_lt.mp h12
      refine J_aload_n (pc := 15) D10_go_15 rfl ?_
      refine J_getf (pc := 16) D10_go_16 fl10_75 rfl rfl ?_
      refine J_iconst (pc := 19) (v := (nI 0)) D10_go_19 (by decide) ?_
      refine J_msld (pc := 20) D10_go_20 mq_year rfl (by omega) ?_
      refine J_iload_n (pc := 21) D10_go_21 rfl ?_
      refine J_iadd (pc := 22) D10_go_22 ?_
      refine J_sipush (pc := 23) (v := (nI 9900)) D10_go_23 (by decide) ?_
      rw [e0]
      refine J_icmp_le (pc := 26) (tgt := 31) D10_go_26 (by decide) (fun h26 => ?_) (fun h26 => ?_)
      · have h26' := Int32.not_lt.mpr h26
        have hx := ixB_in (n := 99) (by decide) h6 (Int32.not_lt.mp h12)
        have ok : goOk V n = true := by unfold goOk; rw [hx, decide_eq_true h26]; rfl
        obtain ⟨m, hm, rfl⟩ := ixB_t hx (by decide)
        refine J_iload_n (pc := 31) D10_go_31 rfl ?_
        refine J_if_le (pc := 32) (tgt := 40) D10_go_32 (by decide) (fun h32 => ?_) (fun h32 => ?_)
        · have h32' := Int32.not_lt.mpr h32
          refine J_iconst (pc := 40) (v := (nI 0)) D10_go_40 (by decide) ?_
          refine J_istore_n (pc := 41) D10_go_41 rfl ?_
          refine L10_go (s0 := updI s 0 (nI 0)) hR hT (by rw [updI_n (by decide)]; exact h48) (by omega) m 0 V _ _ _ _ (by omega) ⟨SC.rf, fun _ _ => rfl, hC⟩ (fun s' A' L' M' hI => ?_)
          have hz : m = 0 := by
            rcases Nat.eq_zero_or_pos m with z | z
            · exact z
            · exact absurd h32 (by rw [show (0 : Int32) = nI 0 from rfl]; exact nI_ge z (by omega))
          subst hz
          refine ⟨by rw [goA, if_pos ok, goV, if_pos ok, nI_clamp (by omega)]; exact congrArg (fun q => some (Value.int q)) hI.2.2.1, _, _, _, _, rfl, fun k h0 h35 _ => (hI.1.1 k h35).trans (updI_n h0), fun k h => hI.1.2 k h, hI.2.1 2 (by decide), by rw [goV, if_pos ok, nI_clamp (by omega)]; exact hI.2.2, ?_⟩
          rw [goV, if_pos ok, nI_clamp (by omega), goU, if_neg (fun z => absurd z.2 (by decide))]
          exact ⟨(hI.1.1 47 (by decide)).trans hU.1, hU.2.1, fun k hk => by rw [hI.2.1 _ (by omega)]; exact hU.2.2 k hk⟩
        · have h32' := Int32.not_le.mp h32
          refine J_aload_n (pc := 35) D10_go_35 rfl ?_
          refine J_iconst (pc := 36) (v := (nI 0)) D10_go_36 (by decide) ?_
          refine J_mput (pc := 37) D10_go_37 fp10_302 ms_47 ?_
          refine J_iconst (pc := 40) (v := (nI 0)) D10_go_40 (by decide) ?_
          refine J_istore_n (pc := 41) D10_go_41 rfl ?_
          refine L10_go (s0 := updI (updI s 0 (nI 0)) 47 (nI 0)) hR hT (by rw [updI_n (by decide), updI_n (by decide)]; exact h48) (by omega) m 0 V _ _ _ _ (by omega) ⟨SC.rf, fun _ _ => rfl, hC⟩ (fun s' A' L' M' hI => ?_)
          refine ⟨by rw [goA, if_pos ok, goV, if_pos ok, nI_clamp (by omega)]; exact congrArg (fun q => some (Value.int q)) hI.2.2.1, _, _, _, _, rfl, fun k h0 h35 h47 => (hI.1.1 k h35).trans ((updI_n h47).trans (updI_n h0)), fun k h => hI.1.2 k h, hI.2.1 2 (by decide), by rw [goV, if_pos ok, nI_clamp (by omega)]; exact hI.2.2, ?_⟩
          rw [goU, if_pos ⟨ok, Int32.not_le.mp h32⟩]
          exact UR.clear (s := s) (M := M) (U := U) (V := V) U.2 ((hI.1.1 47 (by decide)).trans updI_s)
      · have h26' := Int32.not_le.mp h26
        refine J_iconst (pc := 29) (v := (-1)) D10_go_29 (by decide) ?_
        refine J_iret (pc := 30) D10_go_30 rfl ?_
        have hn9 : ¬ goOk V n = true := fun z => absurd (goOk_u z).2 h26
        exact ⟨by rw [goA, if_neg hn9], _, _, _, _, rfl, fun k h0 _ _ => updI_n h0, fun _ _ => rfl, rfl, by rw [goV, if_neg hn9]; exact hC, by rw [goV, if_neg hn9, goU, if_neg (fun z => hn9 z.1)]; exact ⟨hU.1, hU.2⟩⟩
theorem c10_undo {d : Nat} {s : Nat → Int32} {A : Nat → Nat → Int32} {L : LL} {M : Nat → MR} {T : TV} {np nb nn : Nat} (hR : RT A T np nb nn) (hT : WT T np nb nn) {V : CV} (hC : CR False np nb nn (M 0) V) {U : UV} (hU : UR s M U V np nb nn) : Tr (d + 1) 0 0 m10_undo [.ref 0] (modW s A L M) (dQ s A M np nb nn (unA U) (unU U) (unV V U)) := by
  have hnb := hT.2.2.2.2.1
  have hnp := hT.2.2.2.1
  have hnn := hT.2.2.2.2.2.1
  have hu := hU.2.1.1
  have e47 := hU.1
  refine Tr.intro (by decide) rfl ?_
  refine J_aload_n (pc := 0) D10_undo_0 rfl ?_
  refine J_iconst (pc := 1) (v := (nI 0)) D10_undo_1 (by decide) ?_
  refine J_mput (pc := 2) D10_undo_2 fp10_139 ms_0 ?_
  refine J_aload_n (pc := 5) D10_undo_5 rfl ?_
  refine J_getf (pc := 6) D10_undo_6 fl10_302 rfl rfl ?_
  rw [show updI s 0 (nI 0) 47 = nI U.1 from e47]
  refine J_if_ne (pc := 9) (tgt := 14) D10_undo_9 (by decide) (fun h9 => ?_) (fun h9 => ?_)
  · have h0 : ¬ U.1 = 0 := fun z => h9 (by rw [z]; rfl)
    have eu : nI U.1 - nI 1 = nI (U.1 - 1) := by rw [show U.1 = (U.1 - 1) + 1 by omega]; exact nI_pred (U.1 - 1)
    refine J_aload_n (pc := 14) D10_undo_14 rfl ?_
    refine J_dup (pc := 15) D10_undo_15 rfl ?_
    refine J_getf (pc := 16) D10_undo_16 fl10_302 rfl rfl ?_
    refine J_iconst (pc := 19) (v := (nI 1)) D10_undo_19 (by decide) ?_
    refine J_isub (pc := 20) D10_undo_20 ?_
    refine J_st (.int (nI (U.1 - 1)) :: .ref 0 :: []) (by rw [← eu, ← e47]; rfl) ?_
    refine J_mput (pc := 21) D10_undo_21 fp10_302 ms_47 ?_
    refine J_aload_n (pc := 24) D10_undo_24 rfl ?_
    refine J_iconst (pc := 25) (v := (nI 0)) D10_undo_25 (by decide) ?_
    refine J_iconst (pc := 26) (v := (nI 3)) D10_undo_26 (by decide) ?_
    refine J_aload_n (pc := 27) D10_undo_27 rfl ?_
    refine J_getf (pc := 28) D10_undo_28 fl10_302 rfl rfl ?_
    refine J_iadd (pc := 31) D10_undo_31 ?_
    refine J_st (.int (nI (3 + (U.1 - 1))) :: .int (nI 0) :: .ref 0 :: []) (by rw [← nI_add]; rfl) ?_
    refine J_callVT (pc := 32) (ac := [.int _, .int _]) D10_undo_32 m10_copies_v t1655 (c10_copies (d := d) (t := 0) (a := 3 + (U.1 - 1)) (by decide) (by omega) (by omega)) (by omega) rfl rfl rfl rfl rfl rfl rfl (fun r w' hq hl => ?_)
    obtain ⟨rfl, M2, rfl, hM2, hE2⟩ := hq
    refine J_aload_n (pc := 35) D10_undo_35 rfl ?_
    refine J_getf (pc := 36) D10_undo_36 fl10_302 rfl rfl ?_
    refine J_iret (pc := 39) D10_undo_39 rfl ?_
    refine ⟨by rw [unA, if_neg h0]; rfl, _, _, _, rfl, fun k a b => (updI_n b).trans (updI_n a), hM2 2 (by decide), (hU.now h0).eqR hE2 hnp hnb, hU.undo h0 updI_s hM2⟩
  · have h9' := eq_true h9
    have h0 : U.1 = 0 := nI_eqI (by omega) (by decide) h9
    refine J_iconst (pc := 12) (v := (-1)) D10_undo_12 (by decide) ?_
    refine J_iret (pc := 13) D10_undo_13 rfl ?_
    exact dQ.no hC hU (by rw [unA, if_pos h0]) (by unfold unU; rw [h0]; exact Prod.ext h0.symm rfl) (by rw [unV, if_pos h0])
theorem c10_keep {d : Nat} {s : Nat → Int32} {A : Nat → Nat → Int32} {L : LL} {M : Nat → MR} {T : TV} {np nb nn : Nat} (hR : RT A T np nb nn) (hT : WT T np nb nn) {V : CV} (hC : CR False np nb nn (M 0) V) : Tr (d + 1) 0 0 m10_keep [.ref 0] (modW s A L M) (fun r w' => r = some (.int V.1) ∧ ∃ M', w' = modW (updI (updI s 0 (nI 0)) 46 (nI 1)) A L M' ∧ (∀ i, i ≠ 2 → M' i = M i) ∧ CR False np nb nn (M' 2) V) := by
  have hnb := hT.2.2.2.2.1
  have hnp := hT.2.2.2.1
  have hnn := hT.2.2.2.2.2.1
  refine Tr.intro (by decide) rfl ?_
  refine J_aload_n (pc := 0) D10_keep_0 rfl ?_
  refine J_iconst (pc := 1) (v := (nI 0)) D10_keep_1 (by decide) ?_
  refine J_mput (pc := 2) D10_keep_2 fp10_139 ms_0 ?_
  refine J_aload_n (pc := 5) D10_keep_5 rfl ?_
  refine J_iconst (pc := 6) (v := (nI 2)) D10_keep_6 (by decide) ?_
  refine J_iconst (pc := 7) (v := (nI 0)) D10_keep_7 (by decide) ?_
  refine J_callVT (pc := 8) (ac := [.int _, .int _]) D10_keep_8 m10_copies_v t1655 (c10_copies (d := d) (t := 2) (a := 0) (by decide) (by decide) (by decide)) (by omega) rfl rfl rfl rfl rfl rfl rfl (fun r w' hq hl => ?_)
  obtain ⟨rfl, M2, rfl, hM2, hE2⟩ := hq
  refine J_aload_n (pc := 11) D10_keep_11 rfl ?_
  refine J_iconst (pc := 12) (v := (nI 1)) D10_keep_12 (by decide) ?_
  refine J_mputZ (pc := 13) D10_keep_13 fp10_298 ms_46 (by first | exact Or.inl rfl | exact Or.inr rfl) ?_
  refine J_aload_n (pc := 16) D10_keep_16 rfl ?_
  refine J_getf (pc := 17) D10_keep_17 fl10_75 rfl rfl ?_
  refine J_iconst (pc := 20) (v := (nI 0)) D10_keep_20 (by decide) ?_
  refine J_msld (pc := 21) D10_keep_21 mq_year rfl (by omega) ?_
  refine J_iret (pc := 22) D10_keep_22 rfl ?_
  exact ⟨by rw [show (M2 0).1 = V.1 from by rw [hM2 0 (by decide)]; exact hC.1], M2, rfl, hM2, hC.eqR hE2 hnp hnb⟩
theorem c10_back {d : Nat} {s : Nat → Int32} {A : Nat → Nat → Int32} {L : LL} {M : Nat → MR} {T : TV} {np nb nn : Nat} (hR : RT A T np nb nn) (hT : WT T np nb nn) {V : CV} (hC : CR False np nb nn (M 0) V) {U : UV} (hU : UR s M U V np nb nn) {hi : Int32} {I : CV} (e46 : s 46 = hi) (hI : ¬ hi = 0 → CR False np nb nn (M 2) I) : Tr (d + 1) 0 0 m10_back [.ref 0] (modW s A L M) (dQ s A M np nb nn (bkA hi I) (bkU hi U) (bkV hi V I)) := by
  have hnb := hT.2.2.2.2.1
  have hnp := hT.2.2.2.1
  have hnn := hT.2.2.2.2.2.1
  subst e46
  refine Tr.intro (by decide) rfl ?_
  refine J_aload_n (pc := 0) D10_back_0 rfl ?_
  refine J_iconst (pc := 1) (v := (nI 0)) D10_back_1 (by decide) ?_
  refine J_mput (pc := 2) D10_back_2 fp10_139 ms_0 ?_
  refine J_aload_n (pc := 5) D10_back_5 rfl ?_
  refine J_getf (pc := 6) D10_back_6 fl10_298 rfl rfl ?_
  rw [show updI s 0 (nI 0) 46 = s 46 from rfl]
  refine J_if_ne (pc := 9) (tgt := 14) D10_back_9 (by decide) (fun h9 => ?_) (fun h9 => ?_)
  · refine J_aload_n (pc := 14) D10_back_14 rfl ?_
    refine J_iconst (pc := 15) (v := (nI 0)) D10_back_15 (by decide) ?_
    refine J_iconst (pc := 16) (v := (nI 2)) D10_back_16 (by decide) ?_
    refine J_callVT (pc := 17) (ac := [.int _, .int _]) D10_back_17 m10_copies_v t1655 (c10_copies (d := d) (t := 0) (a := 2) (by decide) (by decide) (by decide)) (by omega) rfl rfl rfl rfl rfl rfl rfl (fun r w' hq hl => ?_)
    obtain ⟨rfl, M2, rfl, hM2, hE2⟩ := hq
    refine J_aload_n (pc := 20) D10_back_20 rfl ?_
    refine J_iconst (pc := 21) (v := (nI 0)) D10_back_21 (by decide) ?_
    refine J_mput (pc := 22) D10_back_22 fp10_302 ms_47 ?_
    refine J_aload_n (pc := 25) D10_back_25 rfl ?_
    refine J_getf (pc := 26) D10_back_26 fl10_75 rfl rfl ?_
    refine J_iconst (pc := 29) (v := (nI 0)) D10_back_29 (by decide) ?_
    refine J_msld (pc := 30) D10_back_30 mq_year rfl (by omega) ?_
    refine J_iret (pc := 31) D10_back_31 rfl ?_
    have hC2 := (hI h9).eqR hE2 hnp hnb
    refine ⟨by rw [bkA, if_neg h9]; exact congrArg (fun q => some (Value.int q)) hC2.1, _, _, _, rfl, fun k a b => (updI_n b).trans (updI_n a), hM2 2 (by decide), by rw [bkV, if_neg h9]; exact hC2, by rw [bkU, if_neg h9]; exact UR.clear (s := s) (M := M) (U := U) (V := V) U.2 updI_s⟩
  · have h9' := eq_true h9
    refine J_iconst (pc := 12) (v := (-1)) D10_back_12 (by decide) ?_
    refine J_iret (pc := 13) D10_back_13 rfl ?_
    exact dQ.no hC hU (by rw [bkA, if_pos h9]) (by rw [bkU, if_pos h9]) (by rw [bkV, if_pos h9])
