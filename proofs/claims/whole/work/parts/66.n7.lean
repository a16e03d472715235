/-! THE MODEL: answers 6 (own program mod_n7.py) -/
theorem L10_chI {d : Nat} {T : TV} {np nb nn n : Nat} {s0 : Nat → Int32} {A0 : Nat → Nat → Int32} {M0 : Nat → MR} (hR0 : RT A0 T np nb nn) (hT : WT T np nb nn) (h48 : s0 48 = 0) {sd off last m5 m6 : Int32} {Q : Option Value → List EC → Prop} (hn : n < 100) : ∀ (g k : Nat) (X : CV) (s : Nat → Int32) (A : Nat → Nat → Int32) (L : LL) (M : Nat → MR), k + g = n → IV False np nb nn 1 s0 A0 M0 s A M X →
    (∀ s A L M, IV False np nb nn 1 s0 A0 M0 s A M (passN T y0 nb nn g X) → J m10_chance (d + 6) 0 0 40 83 [(0, .ref 0), (1, .int sd), (2, .int (nI n)), (3, .int off), (4, .int last), (5, .int m5), (6, .int m6)] [] (modW s A L M) 0 0 Q) → J m10_chance (d + 6) 0 0 40 65 [(0, .ref 0), (1, .int sd), (2, .int (nI n)), (3, .int off), (4, .int last), (5, .int m5), (6, .int m6), (7, .int (nI k))] [] (modW s A L M) 0 0 Q := by
  intro g
  induction g with
  | zero =>
    intro k X s A L M hk hI K
    refine J_iload (pc := 65) D10_chance_65 rfl ?_
    refine J_iload_n (pc := 67) D10_chance_67 rfl ?_
    refine J_icmp_ge (pc := 68) (tgt := 83) D10_chance_68 (by decide) (fun h68 => ?_) (fun h68 => absurd (nI_le (by omega) (by omega)) h68)
    refine J_lk [(0, .ref 0), (1, .int sd), (2, .int (nI n)), (3, .int off), (4, .int last), (5, .int m5), (6, .int m6)] rfl ?_
    exact K s A L M hI
  | succ g ih =>
    intro k X s A L M hk hI K
    have hR := hI.1.rt hR0
    refine J_iload (pc := 65) D10_chance_65 rfl ?_
    refine J_iload_n (pc := 67) D10_chance_67 rfl ?_
    refine J_icmp_ge (pc := 68) (tgt := 83) D10_chance_68 (by decide) (fun h68 => absurd h68 (nI_ge (by omega) (by omega))) (fun h68 => ?_)
    refine J_aload_n (pc := 71) D10_chance_71 rfl ?_
    refine J_iconst (pc := 72) (v := (nI 1)) D10_chance_72 (by decide) ?_
    refine J_iconst (pc := 73) (v := (nI 1)) D10_chance_73 (by decide) ?_
    refine J_callVT (pc := 74) (ac := [.int _, .int _]) D10_chance_74 m10_passes_v t1671 (c10_passes (d := d) hR hT (c := 1) (by decide) hI.2.2 (RY.y0 (by rw [hI.1.1 48 (by decide)]; exact h48))) (by omega) rfl rfl rfl rfl rfl rfl rfl (fun r w' hq hl => ?_)
    obtain ⟨rfl, s2, A2, L2, M2, rfl, hs2, hM2, hC2⟩ := hq
    refine J_iinc (pc := 77) D10_chance_77 rfl (nI_inc _) rfl ?_
    refine J_goto (pc := 80) (tgt := 65) D10_chance_80 (by decide) ?_
    exact ih (k + 1) _ _ _ _ _ (by omega) (hI.go hs2 hM2 hC2) K
theorem L10_chance {d : Nat} {T : TV} {np nb nn : Nat} {s0 : Nat → Int32} {A0 : Nat → Nat → Int32} {M0 : Nat → MR} (hR0 : RT A0 T np nb nn) (hT : WT T np nb nn) {V : CV} (hC : CR False np nb nn (M0 0) V) (h48 : s0 48 = 0) {n : Nat} {sd off : Int32} (hn : n < 100) : ∀ (g r m : Nat) (last : Int32) (s : Nat → Int32) (A : Nat → Nat → Int32) (L : LL) (M : Nat → MR), r + g = 10 → m ≤ r → 0 ≤ last → SC s0 A0 s A → (∀ i, i ≠ 1 → M i = M0 i) → J m10_chance (d + 6) 0 0 40 41 [(0, .ref 0), (1, .int sd), (2, .int (nI n)), (3, .int off), (4, .int last), (5, .int (nI m)), (6, .int (nI r))] [] (modW s A L M) 0 0 (mR s0 A0 M0 (.int (nI (chaL T V nb nn n off g last.toInt64 m)))) := by
  have hnb := hT.2.2.2.2.1
  have hnp := hT.2.2.2.1
  have hnn := hT.2.2.2.2.2.1
  intro g
  induction g with
  | zero =>
    intro r m last s A L M hr hm hlast hS hMM
    refine J_iload (pc := 41) D10_chance_41 rfl ?_
    refine J_bipush (pc := 43) (v := (nI 10)) D10_chance_43 (by decide) ?_
    refine J_icmp_ge (pc := 45) (tgt := 124) D10_chance_45 (by decide) (fun h45 => ?_) (fun h45 => absurd (nI_le (by omega) (by omega)) h45)
    refine J_iload (pc := 124) D10_chance_124 rfl ?_
    refine J_iret (pc := 126) D10_chance_126 rfl ?_
    exact ⟨rfl, s, A, L, M, rfl, PX.sc hS hMM⟩
  | succ g ih =>
    intro r m last s A L M hr hm hlast hS hMM
    have hR := hS.rt hR0
    refine J_iload (pc := 41) D10_chance_41 rfl ?_
    refine J_bipush (pc := 43) (v := (nI 10)) D10_chance_43 (by decide) ?_
    refine J_icmp_ge (pc := 45) (tgt := 124) D10_chance_45 (by decide) (fun h45 => absurd h45 (nI_ge (by omega) (by omega))) (fun h45 => ?_)
    refine J_aload_n (pc := 48) D10_chance_48 rfl ?_
    refine J_iconst (pc := 49) (v := (nI 1)) D10_chance_49 (by decide) ?_
    refine J_iconst (pc := 50) (v := (nI 0)) D10_chance_50 (by decide) ?_
    refine J_callVT (pc := 51) (ac := [.int _, .int _]) D10_chance_51 m10_copies_v t1655 (c10_copies (d := d + 5) (t := 1) (a := 0) (by decide) (by decide) (by decide)) (by omega) rfl rfl rfl rfl rfl rfl rfl (fun r w' hq hl => ?_)
    obtain ⟨rfl, M1, rfl, hM1, hE1⟩ := hq
    have hC1 : CR False np nb nn (M1 1) V := CR.eqR (by rw [hMM 0 (by decide)]; exact hC) hE1 hnp hnb
    refine J_aload_n (pc := 54) D10_chance_54 rfl ?_
    refine J_getf (pc := 55) D10_chance_55 fl10_78 rfl rfl ?_
    refine J_iconst (pc := 58) (v := (nI 1)) D10_chance_58 (by decide) ?_
    refine J_iload (pc := 59) D10_chance_59 rfl ?_
    refine J_msst (pc := 61) D10_chance_61 mq_drawn rfl (by decide) ?_
    refine J_iconst (pc := 62) (v := (nI 0)) D10_chance_62 (by decide) ?_
    refine J_istore (pc := 63) D10_chance_63 rfl ?_
    refine L10_chI (X := lsV V last.toInt64) (s0 := s0) (A0 := A0) (M0 := M0) hR0 hT h48 hn n 0 _ _ _ _ (by omega) ⟨hS, fun i hi => by rw [upM_n hi, hM1 i hi]; exact hMM i hi, by rw [upM_s]; exact hC1.drw rfl hlast⟩ (fun s2 A2 L2 M2 hI2 => ?_)
    have hR2 := hI2.1.rt hR0
    have hC0 : CR False np nb nn (M2 0) V := by rw [hI2.2.1 0 (by decide)]; exact hC
    refine J_aload_n (pc := 83) D10_chance_83 rfl ?_
    refine J_getf (pc := 84) D10_chance_84 fl10_78 rfl rfl ?_
    refine J_iconst (pc := 87) (v := (nI 1)) D10_chance_87 (by decide) ?_
    refine J_msld (pc := 88) D10_chance_88 mq_drawn rfl (by omega) ?_
    refine J_istore (pc := 89) D10_chance_89 rfl ?_
    refine J_iload (pc := 91) D10_chance_91 rfl ?_
    refine J_aload_n (pc := 93) D10_chance_93 rfl ?_
    refine J_iconst (pc := 94) (v := (nI 1)) D10_chance_94 (by decide) ?_
    refine J_iconst (pc := 95) (v := (nI 2)) D10_chance_95 (by decide) ?_
    refine J_callVTR (pc := 96) (ac := [.int _, .int _]) D10_chance_96 m10_manyOf_v t1722 (c10_manyOf (d := d + 5) hR2 hT (by decide)) (by omega) rfl rfl rfl rfl (fun _ => rfl) rfl rfl rfl ?_
    refine J_aload_n (pc := 99) D10_chance_99 rfl ?_
    refine J_iconst (pc := 100) (v := (nI 0)) D10_chance_100 (by decide) ?_
    refine J_iconst (pc := 101) (v := (nI 2)) D10_chance_101 (by decide) ?_
    refine J_callVTR (pc := 102) (ac := [.int _, .int _]) D10_chance_102 m10_manyOf_v t1722 (c10_manyOf (d := d + 5) hR2 hT (by decide)) (by omega) rfl rfl rfl rfl (fun _ => rfl) rfl rfl rfl ?_
    refine J_isub (pc := 105) D10_chance_105 ?_
    refine J_iload_n (pc := 106) D10_chance_106 rfl ?_
    rw [off_e hI2.2.2 hnb, off_e hC0 hnb]
    refine J_icmp_lt (pc := 107) (tgt := 114) D10_chance_107 (by decide) (fun h107 => ?_) (fun h107 => ?_)
    · have h107' := Int32.not_le.mpr h107
      refine J_iconst (pc := 114) (v := (nI 0)) D10_chance_114 (by decide) ?_
      refine J_iadd (pc := 115) D10_chance_115 ?_
      refine J_istore (pc := 116) D10_chance_116 rfl ?_
      refine J_iinc (pc := 118) D10_chance_118 rfl (nI_inc _) rfl ?_
      refine J_goto (pc := 121) (tgt := 41) D10_chance_121 (by decide) ?_
      rw [show chaL T V nb nn n off (g + 1) last.toInt64 m = chaL T V nb nn n off g (M2 1).2.1.toInt64 m from by rw [chaL, if_neg (Int32.not_le.mpr h107), hI2.2.2.2.1.1]]
      refine J_lk [(0, .ref 0), (1, .int sd), (2, .int (nI n)), (3, .int off), (4, .int (M2 1).2.1), (5, .int (nI m)), (6, .int (nI (r + 1)))] (by rw [ad0]; rfl) ?_
      exact ih (r + 1) m _ s2 A2 L2 M2 (by omega) (by omega) hI2.2.2.2.1.2 hI2.1 hI2.2.1
    · have h107' := Int32.not_lt.mp h107
      refine J_iconst (pc := 110) (v := (nI 1)) D10_chance_110 (by decide) ?_
      refine J_goto (pc := 111) (tgt := 115) D10_chance_111 (by decide) ?_
      refine J_iadd (pc := 115) D10_chance_115 ?_
      refine J_istore (pc := 116) D10_chance_116 rfl ?_
      refine J_iinc (pc := 118) D10_chance_118 rfl (nI_inc _) rfl ?_
      refine J_goto (pc := 121) (tgt := 41) D10_chance_121 (by decide) ?_
      rw [show chaL T V nb nn n off (g + 1) last.toInt64 m = chaL T V nb nn n off g (M2 1).2.1.toInt64 (m + 1) from by rw [chaL, if_pos (Int32.not_lt.mp h107), hI2.2.2.2.1.1]]
      refine J_lk [(0, .ref 0), (1, .int sd), (2, .int (nI n)), (3, .int off), (4, .int (M2 1).2.1), (5, .int (nI (m + 1))), (6, .int (nI (r + 1)))] (by rw [← nI_add m]; rfl) ?_
      exact ih (r + 1) (m + 1) _ s2 A2 L2 M2 (by omega) (by omega) hI2.2.2.2.1.2 hI2.1 hI2.2.1
theorem c10_chance {d : Nat} {s : Nat → Int32} {A : Nat → Nat → Int32} {L : LL} {M : Nat → MR} {T : TV} {np nb nn : Nat} (hR : RT A T np nb nn) (hT : WT T np nb nn) {V : CV} (hC : CR False np nb nn (M 0) V) (h48 : s 48 = 0) {sd n off : Int32} : Tr (d + 6) 0 0 m10_chance [.ref 0, .int sd, .int n, .int off] (modW s A L M) (mR s A M (.int (chcF T V nb nn sd n off))) := by
  have hnb := hT.2.2.2.2.1
  have hnp := hT.2.2.2.1
  have hnn := hT.2.2.2.2.2.1
  refine Tr.intro (by decide) rfl ?_
  refine J_aload_n (pc := 0) D10_chance_0 rfl ?_
  refine J_iconst (pc := 1) (v := (nI 0)) D10_chance_1 (by decide) ?_
  refine J_mput (pc := 2) D10_chance_2 fp10_139 ms_0 ?_
  refine J_iload_n (pc := 5) D10_chance_5 rfl ?_
  refine J_if_lt (pc := 6) (tgt := 30) D10_chance_6 (by decide) (fun h6 => ?_) (fun h6 => ?_)
  · have h6' := Int32.not_le.mpr h6
    refine J_iconst (pc := 30) (v := (-1)) D10_chance_30 (by decide) ?_
    refine J_iret (pc := 31) D10_chance_31 rfl ?_
    exact ⟨congrArg (fun q => some (Value.int q)) (by rw [chcF, if_neg (fun q => absurd q.1 (Int32.not_le.mpr h6))]), _, _, _, _, rfl, PX.s0⟩
  · have h6' := Int32.not_lt.mp h6
    refine J_iload_n (pc := 9) D10_chance_9 rfl ?_
    refine J_iconst (pc := 10) (v := (nI 1)) D10_chance_10 (by decide) ?_
    refine J_icmp_lt (pc := 11) (tgt := 30) D10_chance_11 (by decide) (fun h11 => ?_) (fun h11 => ?_)
    · have h11' := Int32.not_le.mpr h11
      refine J_iconst (pc := 30) (v := (-1)) D10_chance_30 (by decide) ?_
      refine J_iret (pc := 31) D10_chance_31 rfl ?_
      exact ⟨congrArg (fun q => some (Value.int q)) (by rw [chcF, if_neg (fun q => absurd q.2.1.1 (Int32.not_le.mpr h11))]), _, _, _, _, rfl, PX.s0⟩
    · have h11' := Int32.not_lt.mp h11
      refine J_iload_n (pc := 14) D10_chance_14 rfl ?_
      refine J_bipush (pc := 15) (v := (nI 99)) D10_chance_15 (by decide) ?_
      refine J_icmp_gt (pc := 17) (tgt := 30) D10_chance_17 (by decide) (fun h17 => ?_) (fun h17 => ?_)
      · have h17' := Int32.not_le.mpr h17
        refine J_iconst (pc := 30) (v := (-1)) D10_chance_30 (by decide) ?_
        refine J_iret (pc := 31) D10_chance_31 rfl ?_
        exact ⟨congrArg (fun q => some (Value.int q)) (by rw [chcF, if_neg (fun q => absurd q.2.1.2 (Int32.not_le.mpr h17))]), _, _, _, _, rfl, PX.s0⟩
      · have h17' := Int32.not_lt.mp h17
        refine J_iload_n (pc := 20) D10_chance_20 rfl ?_
        refine J_if_lt (pc := 21) (tgt := 30) D10_chance_21 (by decide) (fun h21 => ?_) (fun h21 => ?_)
        · have h21' := Int32.not_le.mpr h21
          refine J_iconst (pc := 30) (v := (-1)) D10_chance_30 (by decide) ?_
          refine J_iret (pc := 31) D10_chance_31 rfl ?_
          exact ⟨congrArg (fun q => some (Value.int q)) (by rw [chcF, if_neg (fun q => ixB_0 h21 q.2.2)]), _, _, _, _, rfl, PX.s0⟩
        · have h21' := Int32.not_lt.mp h21
          refine J_iload_n (pc := 24) D10_chance_24 rfl ?_
          refine J_bipush (pc := 25) (v := (nI 10)) D10_chance_25 (by decide) ?_
          refine J_icmp_le (pc := 27) (tgt := 32) D10_chance_27 (by decide) (fun h27 => ?_) (fun h27 => ?_)
          · have h27' := Int32.not_lt.mpr h27
            refine J_iload_n (pc := 32) D10_chance_32 rfl ?_
            refine J_istore (pc := 33) D10_chance_33 rfl ?_
            refine J_iconst (pc := 35) (v := (nI 0)) D10_chance_35 (by decide) ?_
            refine J_istore (pc := 36) D10_chance_36 rfl ?_
            refine J_iconst (pc := 38) (v := (nI 0)) D10_chance_38 (by decide) ?_
            refine J_istore (pc := 39) D10_chance_39 rfl ?_
            have hs9 : 0 ≤ sd := Int32.not_lt.mp h6
            have hn9 : nI 1 ≤ n ∧ n ≤ nI 99 := ⟨Int32.not_lt.mp h11, Int32.not_lt.mp h17⟩
            rw [chcF, if_pos ⟨hs9, hn9, ixB_in (n := 10) (by decide) h21 h27⟩]
            obtain ⟨n1, hn1, rfl⟩ := nI_of (x := n) (Int32.not_lt.mpr (Int32.le_trans (by decide) hn9.1))
            have hn2 := (nI_leI hn1 (by decide)).mp hn9.2
            rw [nI_clamp hn1]
            exact J_mono (L10_chance (s0 := updI s 0 (nI 0)) hR hT hC h48 (n := n1) (by omega) 10 0 0 sd _ A L M (by omega) (by omega) hs9 SC.rf (fun _ _ => rfl)) (mR.tr PX.s0)
          · have h27' := Int32.not_le.mp h27
            refine J_iconst (pc := 30) (v := (-1)) D10_chance_30 (by decide) ?_
            refine J_iret (pc := 31) D10_chance_31 rfl ?_
            exact ⟨congrArg (fun q => some (Value.int q)) (by rw [chcF, if_neg (fun q => ixB_gt (n := 10) (by decide) (Int32.not_le.mp h27) q.2.2)]), _, _, _, _, rfl, PX.s0⟩
theorem CR.leaveW {σ : Prop} {np nb nn : Nat} {m : MR} {V : CV} (h : CR σ np nb nn m V) {b : Nat} (hb : b < nb) (hl : V.2.2.2 3 b = 0) : CR True np nb nn (setm m 3 b (nI 1)) (lvV V b (nI 3)) := by
  have h0 := h.leave hb hl (x := nI 1) (by decide)
  obtain ⟨h1, h2, h3, h4, h5, h6, h7, h8, h9, h10, h11, h12⟩ := h0
  refine ⟨h1, h2, h3, fun i hi => ⟨(h4 i hi).1, (h4 i hi).2.1, (h4 i hi).2.2.1, (h4 i hi).2.2.2.1, ?_⟩, h5, h6, h7, h8, fun i hi hi8 => ?_, h10, h11, h12⟩
  · show upd (m.2.2.2 3) b (nI 1) i = upd (V.2.2.2 3) b (nI 3) i ∨ True ∧ upd (m.2.2.2 3) b (nI 1) i = nI 1 ∧ upd (V.2.2.2 3) b (nI 3) i = nI 3
    by_cases e : i = b
    · rw [e, pk_us, pk_us]; exact Or.inr ⟨trivial, rfl, rfl⟩
    · rw [pk_un e, pk_un e]
      exact (h.2.2.2.1 i hi).2.2.2.2.imp id (fun q => ⟨trivial, q.2⟩)
  · show upd (V.2.2.2 3) b (nI 3) i = nI 3
    rw [pk_un (by omega)]
    exact h.2.2.2.2.2.2.2.2.1 i hi hi8
/-- the first k corks are put to 9 -/
def crk (V : CV) (k : Nat) : CV := (V.1, V.2.1, V.2.2.1, upA V.2.2.2 2 (fun i => if i < k then nI 9 else V.2.2.2 2 i))
theorem crk_s {σ : Prop} {np nb nn k : Nat} {m : MR} {V : CV} (h : CR σ np nb nn m (crk V k)) : CR σ np nb nn (setm m 2 k (nI 9)) (crk V (k + 1)) := by
  refine (h.val2 k (nI 9)).V_ext rfl rfl rfl (fun j hj => ?_)
  by_cases e : j = 2
  · subst e
    show (fun i => if i < k + 1 then nI 9 else V.2.2.2 2 i) = upd (fun i => if i < k then nI 9 else V.2.2.2 2 i) k (nI 9)
    funext i
    by_cases e1 : i = k
    · rw [e1, pk_us, if_pos (by omega)]
    · rw [pk_un e1]
      by_cases e2 : i < k
      · rw [if_pos e2, if_pos (by omega)]
      · rw [if_neg e2, if_neg (by omega)]
  · show upA V.2.2.2 2 _ j = upA (crk V k).2.2.2 2 _ j
    rw [upA_n e, upA_n e]
    exact (upA_n e).symm
theorem crk_0 {σ : Prop} {np nb nn : Nat} {m : MR} {V : CV} (h : CR σ np nb nn m V) : CR σ np nb nn m (crk V 0) := by
  refine h.V_ext rfl rfl rfl (fun j hj => ?_)
  by_cases e : j = 2
  · subst e; rfl
  · exact upA_n e
/-- only corks of those that are told matter -/
theorem CR.c2 {σ : Prop} {np nb nn : Nat} {m : MR} {V : CV} {f g : Nat → Int32} (h : CR σ np nb nn m (V.1, V.2.1, V.2.2.1, upA V.2.2.2 2 f)) (e : ∀ i, i < nb → f i = g i) : CR σ np nb nn m (V.1, V.2.1, V.2.2.1, upA V.2.2.2 2 g) := by
  obtain ⟨h1, h2, h3, h4, h5, h6, h7, h8, h9, h10, h11, h12⟩ := h
  exact ⟨h1, h2, h3, fun i hi => ⟨(h4 i hi).1, (h4 i hi).2.1, (h4 i hi).2.2.1.trans (e i hi), (h4 i hi).2.2.2⟩, h5, h6, h7, h8, h9, h10, h11, h12⟩
theorem L10_tr88 {d : Nat} {T : TV} {np nb nn n : Nat} {s : Nat → Int32} {A : Nat → Nat → Int32} {M0 : Nat → MR} {L : LL} (hR : RT A T np nb nn) (hT : WT T np nb nn) {X : CV} {i : Int32} {Q : Option Value → List EC → Prop} : ∀ (g b : Nat) (M : Nat → MR), b + g = nb → CR True np nb nn (M 1) (crk X b) → (∀ i, i ≠ 1 → M i = M0 i) →
    (∀ M, CR True np nb nn (M 1) (crk X nb) → (∀ i, i ≠ 1 → M i = M0 i) → J m10_tried (d + 7) 0 0 40 122 [(0, .ref 0), (1, .int (nI 5)), (2, .int i), (3, .int (nI n))] [] (modW s A L M) 0 0 Q) → J m10_tried (d + 7) 0 0 40 88 [(0, .ref 0), (1, .int (nI 5)), (2, .int i), (3, .int (nI n)), (5, .int (nI b))] [] (modW s A L M) 0 0 Q := by
  have hnb := hT.2.2.2.2.1
  have hnp := hT.2.2.2.1
  have hnn := hT.2.2.2.2.2.1
  intro g
  induction g with
  | zero =>
    intro b M hb hX hM K
    have e9 : b = nb := by omega
    subst e9
    refine J_iload (pc := 88) D10_tried_88 rfl ?_
    refine J_aload_n (pc := 90) D10_tried_90 rfl ?_
    refine J_getf (pc := 91) D10_tried_91 fl10_13 rfl rfl ?_
    refine J_iconst (pc := 94) (v := (nI 1)) D10_tried_94 (by decide) ?_
    refine J_mald (pc := 95) D10_tried_95 ma_3 rfl (by omega) rfl ?_
    refine J_st [.int (nI b), .int (nI b)] (by rw [← hR.2.1]) ?_
    refine J_icmp_ge (pc := 96) (tgt := 122) D10_tried_96 (by decide) (fun h96 => ?_) (fun h96 => absurd (Int32.le_refl _) h96)
    refine J_lk [(0, .ref 0), (1, .int (nI 5)), (2, .int i), (3, .int (nI n))] rfl ?_
    exact K M hX hM
  | succ g ih =>
    intro b M hb hX hM K
    refine J_iload (pc := 88) D10_tried_88 rfl ?_
    refine J_aload_n (pc := 90) D10_tried_90 rfl ?_
    refine J_getf (pc := 91) D10_tried_91 fl10_13 rfl rfl ?_
    refine J_iconst (pc := 94) (v := (nI 1)) D10_tried_94 (by decide) ?_
    refine J_mald (pc := 95) D10_tried_95 ma_3 rfl (by omega) rfl ?_
    refine J_st [.int (nI nb), .int (nI b)] (by rw [← hR.2.1]) ?_
    refine J_icmp_ge (pc := 96) (tgt := 122) D10_tried_96 (by decide) (fun h96 => absurd h96 (nI_ge (by omega) (by omega))) (fun h96 => ?_)
    refine J_iload_n (pc := 99) D10_tried_99 rfl ?_
    refine J_iconst (pc := 100) (v := (nI 5)) D10_tried_100 (by decide) ?_
    refine J_icmp_ne (pc := 101) (tgt := 122) D10_tried_101 (by decide) (fun h101 => absurd rfl h101) (fun h101 => ?_)
    refine J_aload_n (pc := 104) D10_tried_104 rfl ?_
    refine J_getf (pc := 105) D10_tried_105 fl10_90 rfl rfl ?_
    refine J_bipush (pc := 108) (v := (nI 10)) D10_tried_108 (by decide) ?_
    refine J_iload (pc := 110) D10_tried_110 rfl ?_
    refine J_iadd (pc := 112) D10_tried_112 ?_
    refine J_bipush (pc := 113) (v := (nI 9)) D10_tried_113 (by decide) ?_
    refine J_mcst (pc := 115) (stp := 10) D10_tried_115 mc_2 (ix1 _ _) (by omega) (by omega) rfl ?_
    refine J_iinc (pc := 116) D10_tried_116 rfl (nI_inc _) rfl ?_
    refine J_goto (pc := 119) (tgt := 88) D10_tried_119 (by decide) ?_
    refine J_lk [(0, .ref 0), (1, .int (nI 5)), (2, .int i), (3, .int (nI n)), (5, .int (nI (b + 1)))] rfl ?_
    refine ih (b + 1) (upM M 1 (setm (M 1) 2 b (nI 9))) (by omega) (by rw [upM_s]; exact crk_s hX) (fun i hi => (upM_n hi).trans (hM i hi)) K
theorem L10_tr122 {d : Nat} {T : TV} {np nb nn n : Nat} {s : Nat → Int32} {A : Nat → Nat → Int32} {M M0 : Nat → MR} {L : LL} (hR : RT A T np nb nn) (hT : WT T np nb nn) {V X : CV} {x i : Int32} (hC : CR False np nb nn (M0 0) V) (h48 : s 48 = 0) (hn : n < 1000) (hX : CR True np nb nn (M 1) X) (hM : ∀ i, i ≠ 1 → M i = M0 i) : J m10_tried (d + 7) 0 0 40 122 [(0, .ref 0), (1, .int x), (2, .int i), (3, .int (nI n))] [] (modW s A L M) 0 0 (mR s A M0 (.int (offN (passN T (trY x) nb nn n X) - offN V))) := by
  have hnb := hT.2.2.2.2.1
  have hnp := hT.2.2.2.1
  have hnn := hT.2.2.2.2.2.1
  refine J_aload_n (pc := 122) D10_tried_122 rfl ?_
  refine J_iload_n (pc := 123) D10_tried_123 rfl ?_
  refine J_mput (pc := 124) D10_tried_124 fp10_356 ms_48 ?_
  refine J_aload_n (pc := 127) D10_tried_127 rfl ?_
  refine J_iload_n (pc := 128) D10_tried_128 rfl ?_
  refine J_callVT (pc := 129) (ac := [.int _]) D10_tried_129 m10_goesOn_v t1718 (c10_goesOn (d := d) (s := updI s 48 x) hR hT hX (y := trY x) (Or.inr ⟨rfl, by rw [updI_s]⟩) hn) (by omega) rfl rfl rfl rfl rfl rfl rfl (fun r w' hq hl => ?_)
  obtain ⟨rfl, s2, A2, L2, M2, rfl, hs2, hM2, hC2⟩ := hq
  have hR2 := hs2.rt hR
  have hC0 : CR False np nb nn (M2 0) V := by rw [hM2 0 (by decide), hM 0 (by decide)]; exact hC
  refine J_aload_n (pc := 132) D10_tried_132 rfl ?_
  refine J_iconst (pc := 133) (v := (nI 0)) D10_tried_133 (by decide) ?_
  refine J_mput (pc := 134) D10_tried_134 fp10_356 ms_48 ?_
  refine J_aload_n (pc := 137) D10_tried_137 rfl ?_
  refine J_iconst (pc := 138) (v := (nI 1)) D10_tried_138 (by decide) ?_
  refine J_iconst (pc := 139) (v := (nI 2)) D10_tried_139 (by decide) ?_
  refine J_callVTR (pc := 140) (ac := [.int _, .int _]) D10_tried_140 m10_manyOf_v t1722 (c10_manyOf (d := d + 6) hR2 hT (by decide)) (by omega) rfl rfl rfl rfl (fun _ => rfl) rfl rfl rfl ?_
  refine J_aload_n (pc := 143) D10_tried_143 rfl ?_
  refine J_iconst (pc := 144) (v := (nI 0)) D10_tried_144 (by decide) ?_
  refine J_iconst (pc := 145) (v := (nI 2)) D10_tried_145 (by decide) ?_
  refine J_callVTR (pc := 146) (ac := [.int _, .int _]) D10_tried_146 m10_manyOf_v t1722 (c10_manyOf (d := d + 6) hR2 hT (by decide)) (by omega) rfl rfl rfl rfl (fun _ => rfl) rfl rfl rfl ?_
  refine J_isub (pc := 149) D10_tried_149 ?_
  refine J_iret (pc := 150) D10_tried_150 rfl ?_
  refine ⟨congrArg (fun q => some (Value.int q)) (by rw [off_e hC2 hnb, off_e hC0 hnb]), _, _, _, _, rfl, ⟨fun k k0 k35 _ _ _ _ => ?_, fun k k49 _ _ _ _ => hs2.2 k k49, fun i hi => (hM2 i hi).trans (hM i hi)⟩⟩
  by_cases e : k = 48
  · rw [e, updI_s, h48]; rfl
  · rw [updI_n e, hs2.1 k k35, updI_n e]
theorem L10_tr85 {d : Nat} {T : TV} {np nb nn n : Nat} {s : Nat → Int32} {A : Nat → Nat → Int32} {M M0 : Nat → MR} {L : LL} (hR : RT A T np nb nn) (hT : WT T np nb nn) {V X : CV} {x i : Int32} (hC : CR False np nb nn (M0 0) V) (h48 : s 48 = 0) (hn : n < 1000) (hX : CR True np nb nn (M 1) X) (hM : ∀ i, i ≠ 1 → M i = M0 i) : J m10_tried (d + 7) 0 0 40 85 [(0, .ref 0), (1, .int x), (2, .int i), (3, .int (nI n))] [] (modW s A L M) 0 0 (mR s A M0 (.int (offN (passN T (trY x) nb nn n (trK x X)) - offN V))) := by
  have hnb := hT.2.2.2.2.1
  have hnp := hT.2.2.2.1
  have hnn := hT.2.2.2.2.2.1
  by_cases e5 : x = nI 5
  · subst e5
    refine J_iconst (pc := 85) (v := (nI 0)) D10_tried_85 (by decide) ?_
    refine J_istore (pc := 86) D10_tried_86 rfl ?_
    refine L10_tr88 (X := X) hR hT nb 0 M (by omega) (crk_0 hX) hM (fun M2 hX2 hM2 => ?_)
    rw [show trK (nI 5) X = (X.1, X.2.1, X.2.2.1, upA X.2.2.2 2 (fun _ => nI 9)) from if_pos rfl]
    exact L10_tr122 hR hT hC h48 hn (hX2.c2 (fun i hi => if_pos hi)) hM2
  · rw [show trK x X = X from if_neg e5]
    by_cases h0 : 0 < nb
    · refine J_iconst (pc := 85) (v := (nI 0)) D10_tried_85 (by decide) ?_
      refine J_istore (pc := 86) D10_tried_86 rfl ?_
      refine J_iload (pc := 88) D10_tried_88 rfl ?_
      refine J_aload_n (pc := 90) D10_tried_90 rfl ?_
      refine J_getf (pc := 91) D10_tried_91 fl10_13 rfl rfl ?_
      refine J_iconst (pc := 94) (v := (nI 1)) D10_tried_94 (by decide) ?_
      refine J_mald (pc := 95) D10_tried_95 ma_3 rfl (by omega) rfl ?_
      refine J_st [.int (nI nb), .int (nI 0)] (by rw [← hR.2.1]) ?_
      refine J_icmp_ge (pc := 96) (tgt := 122) D10_tried_96 (by decide) (fun h96 => absurd h96 (nI_ge (by omega) (by omega))) (fun h96 => ?_)
      refine J_iload_n (pc := 99) D10_tried_99 rfl ?_
      refine J_iconst (pc := 100) (v := (nI 5)) D10_tried_100 (by decide) ?_
      refine J_icmp_ne (pc := 101) (tgt := 122) D10_tried_101 (by decide) (fun h101 => ?_) (fun h101 => absurd h101 e5)
      refine J_lk [(0, .ref 0), (1, .int x), (2, .int i), (3, .int (nI n))] rfl ?_
      exact L10_tr122 hR hT hC h48 hn hX hM
    · refine J_iconst (pc := 85) (v := (nI 0)) D10_tried_85 (by decide) ?_
      refine J_istore (pc := 86) D10_tried_86 rfl ?_
      refine J_iload (pc := 88) D10_tried_88 rfl ?_
      refine J_aload_n (pc := 90) D10_tried_90 rfl ?_
      refine J_getf (pc := 91) D10_tried_91 fl10_13 rfl rfl ?_
      refine J_iconst (pc := 94) (v := (nI 1)) D10_tried_94 (by decide) ?_
      refine J_mald (pc := 95) D10_tried_95 ma_3 rfl (by omega) rfl ?_
      refine J_st [.int (nI nb), .int (nI 0)] (by rw [← hR.2.1]) ?_
      refine J_icmp_ge (pc := 96) (tgt := 122) D10_tried_96 (by decide) (fun h96 => ?_) (fun h96 => absurd (nI_le (by omega) (by omega)) h96)
      refine J_lk [(0, .ref 0), (1, .int x), (2, .int i), (3, .int (nI n))] rfl ?_
      exact L10_tr122 hR hT hC h48 hn hX hM
theorem c10_tried {d : Nat} {s : Nat → Int32} {A : Nat → Nat → Int32} {L : LL} {M : Nat → MR} {T : TV} {np nb nn : Nat} (hR : RT A T np nb nn) (hT : WT T np nb nn) {V : CV} (hC : CR False np nb nn (M 0) V) (h48 : s 48 = 0) {x i n : Int32} : Tr (d + 7) 0 0 m10_tried [.ref 0, .int x, .int i, .int n] (modW s A L M) (mR s A M (.int (triF T V nb nn x i n))) := by
  have hnb := hT.2.2.2.2.1
  have hnp := hT.2.2.2.1
  have hnn := hT.2.2.2.2.2.1
  refine Tr.intro (by decide) rfl ?_
  refine J_aload_n (pc := 0) D10_tried_0 rfl ?_
  refine J_iconst (pc := 1) (v := (nI 0)) D10_tried_1 (by decide) ?_
  refine J_mput (pc := 2) D10_tried_2 fp10_139 ms_0 ?_
  refine J_iload_n (pc := 5) D10_tried_5 rfl ?_
  refine J_iconst (pc := 6) (v := (nI 2)) D10_tried_6 (by decide) ?_
  refine J_icmp_ne (pc := 7) (tgt := 18) D10_tried_7 (by decide) (fun h7 => ?_) (fun h7 => ?_)
  · refine J_iload_n (pc := 18) D10_tried_18 rfl ?_
    refine J_if_lt (pc := 19) (tgt := 35) D10_tried_19 (by decide) (fun h19 => ?_) (fun h19 => ?_)
    · have h19' := Int32.not_le.mpr h19
      refine J_iconst (pc := 35) (v := (nI 0)) D10_tried_35 (by decide) ?_
      refine J_istore (pc := 36) D10_tried_36 rfl ?_
      refine J_iload (pc := 38) D10_tried_38 rfl ?_
      refine J_if_eq (pc := 40) (tgt := 53) D10_tried_40 (by decide) (fun h40 => ?_) (fun h40 => absurd rfl h40)
      refine J_iconst (pc := 53) (v := (-1)) D10_tried_53 (by decide) ?_
      refine J_iret (pc := 54) D10_tried_54 rfl ?_
      exact ⟨congrArg (fun q => some (Value.int q)) (by rw [triF, if_neg (fun q => by obtain ⟨q1, q2, q3⟩ := trG_e.mp q; exact ixB_0 h19 q1)]), _, _, _, _, rfl, PX.s0⟩
    · have h19' := Int32.not_lt.mp h19
      refine J_iload_n (pc := 22) D10_tried_22 rfl ?_
      refine J_iconst (pc := 23) (v := (nI 5)) D10_tried_23 (by decide) ?_
      refine J_icmp_gt (pc := 24) (tgt := 35) D10_tried_24 (by decide) (fun h24 => ?_) (fun h24 => ?_)
      · have h24' := Int32.not_le.mpr h24
        refine J_iconst (pc := 35) (v := (nI 0)) D10_tried_35 (by decide) ?_
        refine J_istore (pc := 36) D10_tried_36 rfl ?_
        refine J_iload (pc := 38) D10_tried_38 rfl ?_
        refine J_if_eq (pc := 40) (tgt := 53) D10_tried_40 (by decide) (fun h40 => ?_) (fun h40 => absurd rfl h40)
        refine J_iconst (pc := 53) (v := (-1)) D10_tried_53 (by decide) ?_
        refine J_iret (pc := 54) D10_tried_54 rfl ?_
        exact ⟨congrArg (fun q => some (Value.int q)) (by rw [triF, if_neg (fun q => by obtain ⟨q1, q2, q3⟩ := trG_e.mp q; exact ixB_gt (n := 5) (by decide) h24 q1)]), _, _, _, _, rfl, PX.s0⟩
      · have h24' := Int32.not_lt.mp h24
        refine J_iload_n (pc := 27) D10_tried_27 rfl ?_
        refine J_if_ne (pc := 28) (tgt := 35) D10_tried_28 (by decide) (fun h28 => ?_) (fun h28 => ?_)
        · refine J_iconst (pc := 35) (v := (nI 0)) D10_tried_35 (by decide) ?_
          refine J_istore (pc := 36) D10_tried_36 rfl ?_
          refine J_iload (pc := 38) D10_tried_38 rfl ?_
          refine J_if_eq (pc := 40) (tgt := 53) D10_tried_40 (by decide) (fun h40 => ?_) (fun h40 => absurd rfl h40)
          refine J_iconst (pc := 53) (v := (-1)) D10_tried_53 (by decide) ?_
          refine J_iret (pc := 54) D10_tried_54 rfl ?_
          exact ⟨congrArg (fun q => some (Value.int q)) (by rw [triF, if_neg (fun q => by obtain ⟨q1, q2, q3⟩ := trG_e.mp q; exact h28 (by rw [if_neg h7] at q3; exact q3))]), _, _, _, _, rfl, PX.s0⟩
        · have h28' := eq_true h28
          refine J_iconst (pc := 31) (v := (nI 1)) D10_tried_31 (by decide) ?_
          refine J_goto (pc := 32) (tgt := 36) D10_tried_32 (by decide) ?_
          refine J_istore (pc := 36) D10_tried_36 rfl ?_
          refine J_iload (pc := 38) D10_tried_38 rfl ?_
          refine J_if_eq (pc := 40) (tgt := 53) D10_tried_40 (by decide) (fun h40 => absurd h40 (by decide)) (fun h40 => ?_)
          refine J_iload_n (pc := 43) D10_tried_43 rfl ?_
          refine J_if_lt (pc := 44) (tgt := 53) D10_tried_44 (by decide) (fun h44 => ?_) (fun h44 => ?_)
          · have h44' := Int32.not_le.mpr h44
            refine J_iconst (pc := 53) (v := (-1)) D10_tried_53 (by decide) ?_
            refine J_iret (pc := 54) D10_tried_54 rfl ?_
            exact ⟨congrArg (fun q => some (Value.int q)) (by rw [triF, if_neg (fun q => by obtain ⟨q1, q2, q3⟩ := trG_e.mp q; exact ixB_0 h44 q2)]), _, _, _, _, rfl, PX.s0⟩
          · have h44' := Int32.not_lt.mp h44
            refine J_iload_n (pc := 47) D10_tried_47 rfl ?_
            refine J_bipush (pc := 48) (v := (nI 99)) D10_tried_48 (by decide) ?_
            refine J_icmp_le (pc := 50) (tgt := 55) D10_tried_50 (by decide) (fun h50 => ?_) (fun h50 => ?_)
            · have h50' := Int32.not_lt.mpr h50
              have hx9 : ixB 6 x = true := ixB_in (n := 5) (by decide) h19 (Int32.not_lt.mp h24)
              have hi9 : (if x = nI 2 then ixB nb i = true else i = 0) := by rw [if_neg h7]; exact h28
              have hn9 := ixB_in (n := 99) (by decide) h44 h50
              have hT9 : trG nb x i n = true := trG_e.mpr ⟨hx9, hn9, hi9⟩
              rw [triF, if_pos hT9]
              obtain ⟨n1, hn1, rfl⟩ := ixB_t hn9 (by decide)
              rw [nI_clamp (by omega)]
              refine J_aload_n (pc := 55) D10_tried_55 rfl ?_
              refine J_iconst (pc := 56) (v := (nI 1)) D10_tried_56 (by decide) ?_
              refine J_iconst (pc := 57) (v := (nI 0)) D10_tried_57 (by decide) ?_
              refine J_callVT (pc := 58) (ac := [.int _, .int _]) D10_tried_58 m10_copies_v t1655 (c10_copies (d := d + 6) (t := 1) (a := 0) (by decide) (by decide) (by decide)) (by omega) rfl rfl rfl rfl rfl rfl rfl (fun r w' hq hl => ?_)
              obtain ⟨rfl, M1, rfl, hM1, hE1⟩ := hq
              have hC1 := hC.eqR hE1 hnp hnb
              have hC01 : CR False np nb nn (M1 0) V := by rw [hM1 0 (by decide)]; exact hC
              refine J_iload_n (pc := 61) D10_tried_61 rfl ?_
              refine J_iconst (pc := 62) (v := (nI 2)) D10_tried_62 (by decide) ?_
              refine J_icmp_ne (pc := 63) (tgt := 85) D10_tried_63 (by decide) (fun h63 => ?_) (fun h63 => absurd h63 h7)
              rw [show trM V x i.toNatClampNeg = V from if_neg (fun q => h7 q.1)]
              refine J_lk [(0, .ref 0), (1, .int x), (2, .int i), (3, .int (nI n1))] rfl ?_
              refine J_mono (L10_tr85 (s := updI s 0 (nI 0)) (M0 := M) hR hT hC h48 (n := n1) (by omega) hC1.weak hM1) (mR.tr PX.s0)
            · have h50' := Int32.not_le.mp h50
              refine J_iconst (pc := 53) (v := (-1)) D10_tried_53 (by decide) ?_
              refine J_iret (pc := 54) D10_tried_54 rfl ?_
              exact ⟨congrArg (fun q => some (Value.int q)) (by rw [triF, if_neg (fun q => by obtain ⟨q1, q2, q3⟩ := trG_e.mp q; exact ixB_gt (n := 99) (by decide) (Int32.not_le.mp h50) q2)]), _, _, _, _, rfl, PX.s0⟩
  · have h7' := eq_true h7
    refine J_aload_n (pc := 10) D10_tried_10 rfl ?_
    refine J_iload_n (pc := 11) D10_tried_11 rfl ?_
    refine J_callVTR (pc := 12) (ac := [.int _]) D10_tried_12 m10_isBottle_v t1567 (c10_isBottle (d := d) hR) (by omega) rfl rfl rfl rfl (fun _ => rfl) rfl rfl rfl ?_
    refine J_goto (pc := 15) (tgt := 36) D10_tried_15 (by decide) ?_
    refine J_istore (pc := 36) D10_tried_36 rfl ?_
    refine J_iload (pc := 38) D10_tried_38 rfl ?_
    refine J_if_eq (pc := 40) (tgt := 53) D10_tried_40 (by decide) (fun h40 => ?_) (fun h40 => ?_)
    · have h40' := eq_true h40
      replace h40 := i01_z h40
      refine J_iconst (pc := 53) (v := (-1)) D10_tried_53 (by decide) ?_
      refine J_iret (pc := 54) D10_tried_54 rfl ?_
      exact ⟨congrArg (fun q => some (Value.int q)) (by rw [triF, if_neg (fun q => by obtain ⟨q1, q2, q3⟩ := trG_e.mp q; exact h40 (by rw [if_pos h7] at q3; exact q3))]), _, _, _, _, rfl, PX.s0⟩
    · replace h40 := i01_nz h40
      refine J_iload_n (pc := 43) D10_tried_43 rfl ?_
      refine J_if_lt (pc := 44) (tgt := 53) D10_tried_44 (by decide) (fun h44 => ?_) (fun h44 => ?_)
      · have h44' := Int32.not_le.mpr h44
        refine J_iconst (pc := 53) (v := (-1)) D10_tried_53 (by decide) ?_
        refine J_iret (pc := 54) D10_tried_54 rfl ?_
        exact ⟨congrArg (fun q => some (Value.int q)) (by rw [triF, if_neg (fun q => by obtain ⟨q1, q2, q3⟩ := trG_e.mp q; exact ixB_0 h44 q2)]), _, _, _, _, rfl, PX.s0⟩
      · have h44' := Int32.not_lt.mp h44
        refine J_iload_n (pc := 47) D10_tried_47 rfl ?_
        refine J_bipush (pc := 48) (v := (nI 99)) D10_tried_48 (by decide) ?_
        refine J_icmp_le (pc := 50) (tgt := 55) D10_tried_50 (by decide) (fun h50 => ?_) (fun h50 => ?_)
        · have h50' := Int32.not_lt.mpr h50
          have hx9 : ixB 6 x = true := by rw [h7]; decide
          have hi9 : (if x = nI 2 then ixB nb i = true else i = 0) := by rw [if_pos h7]; exact h40
          have hn9 := ixB_in (n := 99) (by decide) h44 h50
          have hT9 : trG nb x i n = true := trG_e.mpr ⟨hx9, hn9, hi9⟩
          rw [triF, if_pos hT9]
          obtain ⟨n1, hn1, rfl⟩ := ixB_t hn9 (by decide)
          rw [nI_clamp (by omega)]
          refine J_aload_n (pc := 55) D10_tried_55 rfl ?_
          refine J_iconst (pc := 56) (v := (nI 1)) D10_tried_56 (by decide) ?_
          refine J_iconst (pc := 57) (v := (nI 0)) D10_tried_57 (by decide) ?_
          refine J_callVT (pc := 58) (ac := [.int _, .int _]) D10_tried_58 m10_copies_v t1655 (c10_copies (d := d + 6) (t := 1) (a := 0) (by decide) (by decide) (by decide)) (by omega) rfl rfl rfl rfl rfl rfl rfl (fun r w' hq hl => ?_)
          obtain ⟨rfl, M1, rfl, hM1, hE1⟩ := hq
          have hC1 := hC.eqR hE1 hnp hnb
          have hC01 : CR False np nb nn (M1 0) V := by rw [hM1 0 (by decide)]; exact hC
          refine J_iload_n (pc := 61) D10_tried_61 rfl ?_
          refine J_iconst (pc := 62) (v := (nI 2)) D10_tried_62 (by decide) ?_
          refine J_icmp_ne (pc := 63) (tgt := 85) D10_tried_63 (by decide) (fun h63 => absurd h7 h63) (fun h63 => ?_)
          obtain ⟨b1, hb1, rfl⟩ := ixB_t h40 (by omega)
          have ely : (M1 1).2.2.2 3 b1 = 0 ↔ V.2.2.2 3 b1 = 0 := hC1.ly hb1
          refine J_aload_n (pc := 66) D10_tried_66 rfl ?_
          refine J_iconst (pc := 67) (v := (nI 1)) D10_tried_67 (by decide) ?_
          refine J_iload_n (pc := 68) D10_tried_68 rfl ?_
          refine J_callVTR (pc := 69) (ac := [.int _, .int _]) D10_tried_69 m10_isLying_v t1583 (c10_isLying (d := d) (c := 1) (b := b1) (by decide) (by omega)) (by omega) rfl rfl rfl rfl (fun _ => rfl) rfl rfl rfl ?_
          refine J_if_eq (pc := 72) (tgt := 85) D10_tried_72 (by decide) (fun h72 => ?_) (fun h72 => ?_)
          · have h72' := eq_true h72
            replace h72 := i01_z h72
            rw [show trM V x (nI b1).toNatClampNeg = V from by rw [nI_clamp (by omega)]; exact if_neg (fun q => h72 (ely.mpr q.2))]
            refine J_lk [(0, .ref 0), (1, .int x), (2, .int (nI b1)), (3, .int (nI n1))] rfl ?_
            refine J_mono (L10_tr85 (s := updI s 0 (nI 0)) (M0 := M) hR hT hC h48 (n := n1) (by omega) hC1.weak hM1) (mR.tr PX.s0)
          · replace h72 := i01_nz h72
            refine J_aload_n (pc := 75) D10_tried_75 rfl ?_
            refine J_getf (pc := 76) D10_tried_76 fl10_96 rfl rfl ?_
            refine J_bipush (pc := 79) (v := (nI 10)) D10_tried_79 (by decide) ?_
            refine J_iload_n (pc := 81) D10_tried_81 rfl ?_
            refine J_iadd (pc := 82) D10_tried_82 ?_
            refine J_iconst (pc := 83) (v := (nI 1)) D10_tried_83 (by decide) ?_
            refine J_mcst (pc := 84) (stp := 10) D10_tried_84 mc_3 (ix1 _ _) (by omega) (by omega) rfl ?_
            rw [show trM V x (nI b1).toNatClampNeg = lvV V b1 (nI 3) from by rw [nI_clamp (by omega)]; exact if_pos ⟨h7, ely.mp h72⟩]
            refine J_lk [(0, .ref 0), (1, .int x), (2, .int (nI b1)), (3, .int (nI n1))] rfl ?_
            refine J_mono (L10_tr85 (s := updI s 0 (nI 0)) (M0 := M) hR hT hC h48 (n := n1) (by omega) (by rw [upM_s]; exact hC1.leaveW hb1 (ely.mp h72)) (fun i hi => (upM_n hi).trans (hM1 i hi))) (mR.tr PX.s0)
        · have h50' := Int32.not_le.mp h50
          refine J_iconst (pc := 53) (v := (-1)) D10_tried_53 (by decide) ?_
          refine J_iret (pc := 54) D10_tried_54 rfl ?_
          exact ⟨congrArg (fun q => some (Value.int q)) (by rw [triF, if_neg (fun q => by obtain ⟨q1, q2, q3⟩ := trG_e.mp q; exact ixB_gt (n := 99) (by decide) (Int32.not_le.mp h50) q2)]), _, _, _, _, rfl, PX.s0⟩
