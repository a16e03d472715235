/-! THE MODEL: answers 5 (own program mod_n6.py) -/
theorem crL_3 {T : TV} : ∀ (g b : Nat) (V : CV), (crL T g b V).2.2.2 3 = V.2.2.2 3
  | 0, _, _ => rfl
  | g + 1, b, V => by
    refine (crL_3 g (b + 1) (crS T V b)).trans ?_
    unfold crS; split <;> rfl
theorem agL_3 {T : TV} : ∀ (g b : Nat) (V : CV), (agL T g b V).2.2.2 3 = V.2.2.2 3
  | 0, _, _ => rfl
  | g + 1, b, V => by
    refine (agL_3 g (b + 1) (agS T V b)).trans ?_
    unfold agS; split <;> rfl
theorem lvV_k {V : CV} {b i : Nat} {x : Int32} (hb : V.2.2.2 3 b = 0) (hi : ¬ V.2.2.2 3 i = 0) : (lvV V b x).2.2.2 3 i = V.2.2.2 3 i := pk_un (fun e => hi (by rw [e]; exact hb))
theorem goS_k {T : TV} {bin : Int32} {b i : Nat} {S : GS} (hi : ¬ S.1.2.2.2 3 i = 0) : (goS T bin b S).1.2.2.2 3 i = S.1.2.2.2 3 i := by
  unfold goS
  split
  · next q => exact lvV_k q.1 hi
  · rfl
theorem goI_k {T : TV} {bin : Int32} {i : Nat} : ∀ (g b : Nat) (S : GS), ¬ S.1.2.2.2 3 i = 0 → (goI T bin g b S).1.2.2.2 3 i = S.1.2.2.2 3 i
  | 0, _, _, _ => rfl
  | g + 1, b, S, h => (goI_k g (b + 1) (goS T bin b S) (by rw [goS_k h]; exact h)).trans (goS_k h)
theorem goO_k {T : TV} {nb i : Nat} : ∀ (g x : Nat) (S : GS), ¬ S.1.2.2.2 3 i = 0 → (goO T nb g x S).1.2.2.2 3 i = S.1.2.2.2 3 i
  | 0, _, _, _ => rfl
  | g + 1, x, S, h => by
    unfold goO
    split
    · exact (goO_k g (x + 1) _ (by rw [goI_k _ _ _ h]; exact h)).trans (goI_k _ _ _ h)
    · rfl
theorem goOffF_k {T : TV} {y : Int32 × Int32 × Int32} {nb : Nat} {V : CV} {b i : Nat} (hb : V.2.2.2 3 b = 0) (h : ¬ V.2.2.2 3 i = 0) : (goOffF T y nb V b).2.2.2 3 i = V.2.2.2 3 i := by
  unfold goOffF
  split
  · exact lvV_k hb h
  · exact (goO_k 10 0 _ (by show ¬ (lvV V b (nI 2)).2.2.2 3 i = 0; rw [lvV_k hb h]; exact h)).trans (lvV_k hb h)
theorem haF_3 {a : Nat → Nat → Int32} {p q : Nat} : haF a p q 3 = a 3 := by
  unfold haF
  split <;> rfl
theorem meetF_k {T : TV} {nb : Nat} {V : CV} {n i : Nat} (h : ¬ V.2.2.2 3 i = 0) : (meetF T nb V n).2.2.2 3 i = V.2.2.2 3 i := by
  unfold meetF
  split
  · next b hb => exact pk_un (fun e => h (by rw [e]; exact weF_ly hb))
  · split
    · next b hb =>
      show haF _ _ _ 3 i = _
      rw [haF_3]
      exact pk_un (fun e => h (by rw [e]; exact weF_ly hb))
    · rfl
theorem p3L_k {T : TV} {y : Int32 × Int32 × Int32} {nb i : Nat} : ∀ (g b : Nat) (V : CV), ¬ V.2.2.2 3 i = 0 → (p3L T y nb g b V).2.2.2 3 i = V.2.2.2 3 i
  | 0, _, _, _ => rfl
  | g + 1, b, V, h => by
    have h1 : (p3S T y nb V b).2.2.2 3 i = V.2.2.2 3 i := by
      unfold p3S
      split
      · next q => exact goOffF_k q.1 h
      · rfl
    exact (p3L_k g (b + 1) _ (by rw [h1]; exact h)).trans h1
theorem p4L_k {T : TV} {nb i : Nat} : ∀ (g b : Nat) (V : CV), ¬ V.2.2.2 3 i = 0 → (p4L T nb g b V).2.2.2 3 i = V.2.2.2 3 i
  | 0, _, _, _ => rfl
  | g + 1, b, V, h => by
    have h1 : (p4S T nb V b).2.2.2 3 i = V.2.2.2 3 i := by
      unfold p4S
      split
      · exact meetF_k h
      · rfl
    exact (p4L_k g (b + 1) _ (by rw [h1]; exact h)).trans h1
def KpA (V V' : CV) : Prop := V'.2.2.2 = V.2.2.2 ∧ V'.1 = V.1
theorem KpA.rf {V V' : CV} (h : V' = V) : KpA V V' := by rw [h]; exact ⟨rfl, rfl⟩
theorem KpA.r2 {V : CV} {l : Int64} : KpA V (V.1, l, V.2.2) := ⟨rfl, rfl⟩
theorem thF_a {y : Int32 × Int32 × Int32} {T : TV} {V : CV} : KpA V (thF y T V).2 := by
  unfold thF
  split
  · exact KpA.rf rfl
  · split
    · exact KpA.rf rfl
    · split
      · exact KpA.rf rfl
      · exact KpA.r2
theorem p2F_k {T : TV} {y : Int32 × Int32 × Int32} {nb nn i : Nat} {V : CV} (h : ¬ V.2.2.2 3 i = 0) : (p2F T y nb nn V).2.2.2 3 i = V.2.2.2 3 i := by
  have h2 : (if y.2.2 = 0 then V else agL T nb 0 V).2.2.2 3 = V.2.2.2 3 := by
    split
    · rfl
    · exact agL_3 _ _ _
  unfold p2F
  generalize (if y.2.2 = 0 then V else agL T nb 0 V) = X at h2
  have hX : ¬ X.2.2.2 3 i = 0 := by rw [h2]; exact h
  have h5 := p3L_k (T := T) (y := y) (nb := nb) nb 0 X hX
  have h6 := p4L_k (T := T) (nb := nb) nn 0 (p3L T y nb nb 0 X) (by rw [h5]; exact hX)
  exact h6.trans (h5.trans (congrFun h2 i))
theorem passF_k {T : TV} {y : Int32 × Int32 × Int32} {nb nn i : Nat} {V : CV} (h : ¬ V.2.2.2 3 i = 0) : (passF T y nb nn V).2.2.2 3 i = V.2.2.2 3 i := by
  have h1 : (if (thF y T V).1 = 0 then (thF y T V).2 else creepF T nb (thF y T V).2).2.2.2 3 = V.2.2.2 3 := by
    have ht := congrFun (thF_a (y := y) (T := T) (V := V)).1 3
    split
    · exact ht
    · exact (crL_3 _ _ _).trans ht
  unfold passF
  generalize (if (thF y T V).1 = 0 then (thF y T V).2 else creepF T nb (thF y T V).2) = X at h1
  exact (p2F_k (by rw [h1]; exact h)).trans (congrFun h1 i)
theorem y1_t : y1 = trY 0 := by decide
theorem RY.y1 {t : Int32} (h : t = 0) : RY t (nI 0) y1 := Or.inr ⟨rfl, by rw [h]; exact y1_t⟩
theorem RY.y0 {t : Int32} (h : t = 0) : RY t (nI 1) y0 := Or.inl ⟨h, rfl, rfl⟩
theorem c10_runs {d : Nat} {s : Nat → Int32} {A : Nat → Nat → Int32} {L : LL} {M : Nat → MR} {T : TV} {np nb nn : Nat} (hR : RT A T np nb nn) (hT : WT T np nb nn) {V : CV} (hC : CR False np nb nn (M 0) V) (h48 : s 48 = 0) {n : Nat} (hn : n < 1000) : Tr (d + 7) 0 0 m10_runs [.ref 0, .int (nI n)] (modW s A L M) (mQ 1 s A M (fun m => CR False np nb nn m (passN T y1 nb nn n V))) := by
  have hnb := hT.2.2.2.2.1
  have hnp := hT.2.2.2.1
  have hnn := hT.2.2.2.2.2.1
  refine Tr.intro (by decide) rfl ?_
  refine J_aload_n (pc := 0) D10_runs_0 rfl ?_
  refine J_iconst (pc := 1) (v := (nI 1)) D10_runs_1 (by decide) ?_
  refine J_iconst (pc := 2) (v := (nI 0)) D10_runs_2 (by decide) ?_
  refine J_callVT (pc := 3) (ac := [.int _, .int _]) D10_runs_3 m10_copies_v t1655 (c10_copies (d := d + 6) (t := 1) (a := 0) (by decide) (by decide) (by decide)) (by omega) rfl rfl rfl rfl rfl rfl rfl (fun r w' hq hl => ?_)
  obtain ⟨rfl, M1, rfl, hM1, hE1⟩ := hq
  have hC1 := hC.eqR hE1 hnp hnb
  have hC01 : CR False np nb nn (M1 0) V := by rw [hM1 0 (by decide)]; exact hC
  refine J_aload_n (pc := 6) D10_runs_6 rfl ?_
  refine J_iload_n (pc := 7) D10_runs_7 rfl ?_
  refine J_callVT (pc := 8) (ac := [.int _]) D10_runs_8 m10_goesOn_v t1718 (c10_goesOn (d := d) hR hT hC1 (RY.y1 h48) hn) (by omega) rfl rfl rfl rfl rfl rfl rfl (fun r w' hq hl => ?_)
  obtain ⟨rfl, s2, A2, L2, M2, rfl, hs2, hM2, hC2⟩ := hq
  refine J_vret (pc := 11) D10_runs_11 rfl ?_
  exact ⟨rfl, s2, A2, L2, M2, rfl, hs2, fun i hi => (hM2 i hi).trans (hM1 i hi), hC2⟩
theorem c10_ahead {d : Nat} {s : Nat → Int32} {A : Nat → Nat → Int32} {L : LL} {M : Nat → MR} {T : TV} {np nb nn : Nat} (hR : RT A T np nb nn) (hT : WT T np nb nn) {V : CV} (hC : CR False np nb nn (M 0) V) (h48 : s 48 = 0) {n w b : Int32} : Tr (d + 8) 0 0 m10_ahead [.ref 0, .int n, .int w, .int b] (modW s A L M) (mR s A M (.int (ahF T V nb nn n w b))) := by
  have hnb := hT.2.2.2.2.1
  have hnp := hT.2.2.2.1
  have hnn := hT.2.2.2.2.2.1
  refine Tr.intro (by decide) rfl ?_
  refine J_aload_n (pc := 0) D10_ahead_0 rfl ?_
  refine J_iconst (pc := 1) (v := (nI 0)) D10_ahead_1 (by decide) ?_
  refine J_mput (pc := 2) D10_ahead_2 fp10_139 ms_0 ?_
  refine J_iload_n (pc := 5) D10_ahead_5 rfl ?_
  refine J_if_lt (pc := 6) (tgt := 37) D10_ahead_6 (by decide) (fun h6 => ?_) (fun h6 => ?_)
  · have h6' := Int32.not_le.mpr h6
    refine J_iconst (pc := 37) (v := (-1)) D10_ahead_37 (by decide) ?_
    refine J_iret (pc := 38) D10_ahead_38 rfl ?_
    exact ⟨congrArg (fun q => some (Value.int q)) (by rw [ahF, if_neg (fun q => ixB_0 h6 q.1)]), _, _, _, _, rfl, PX.s0⟩
  · have h6' := Int32.not_lt.mp h6
    refine J_iload_n (pc := 9) D10_ahead_9 rfl ?_
    refine J_bipush (pc := 10) (v := (nI 99)) D10_ahead_10 (by decide) ?_
    refine J_icmp_gt (pc := 12) (tgt := 37) D10_ahead_12 (by decide) (fun h12 => ?_) (fun h12 => ?_)
    · have h12' := Int32.not_le.mpr h12
      refine J_iconst (pc := 37) (v := (-1)) D10_ahead_37 (by decide) ?_
      refine J_iret (pc := 38) D10_ahead_38 rfl ?_
      exact ⟨congrArg (fun q => some (Value.int q)) (by rw [ahF, if_neg (fun q => ixB_gt (n := 99) (by decide) h12 q.1)]), _, _, _, _, rfl, PX.s0⟩
    · have h12' := Int32.not_lt.mp h12
      refine J_iload_n (pc := 15) D10_ahead_15 rfl ?_
      refine J_if_lt (pc := 16) (tgt := 37) D10_ahead_16 (by decide) (fun h16 => ?_) (fun h16 => ?_)
      · have h16' := Int32.not_le.mpr h16
        refine J_iconst (pc := 37) (v := (-1)) D10_ahead_37 (by decide) ?_
        refine J_iret (pc := 38) D10_ahead_38 rfl ?_
        exact ⟨congrArg (fun q => some (Value.int q)) (by rw [ahF, if_neg (fun q => ixB_0 h16 q.2.1)]), _, _, _, _, rfl, PX.s0⟩
      · have h16' := Int32.not_lt.mp h16
        refine J_iload_n (pc := 19) D10_ahead_19 rfl ?_
        refine J_iconst (pc := 20) (v := (nI 4)) D10_ahead_20 (by decide) ?_
        refine J_icmp_gt (pc := 21) (tgt := 37) D10_ahead_21 (by decide) (fun h21 => ?_) (fun h21 => ?_)
        · have h21' := Int32.not_le.mpr h21
          refine J_iconst (pc := 37) (v := (-1)) D10_ahead_37 (by decide) ?_
          refine J_iret (pc := 38) D10_ahead_38 rfl ?_
          exact ⟨congrArg (fun q => some (Value.int q)) (by rw [ahF, if_neg (fun q => ixB_gt (n := 4) (by decide) h21 q.2.1)]), _, _, _, _, rfl, PX.s0⟩
        · have h21' := Int32.not_lt.mp h21
          refine J_iload_n (pc := 24) D10_ahead_24 rfl ?_
          refine J_iconst (pc := 25) (v := (nI 4)) D10_ahead_25 (by decide) ?_
          refine J_icmp_ne (pc := 26) (tgt := 39) D10_ahead_26 (by decide) (fun h26 => ?_) (fun h26 => ?_)
          · have hx9 := ixB_in (n := 99) (by decide) h6 (Int32.not_lt.mp h12)
            have hw9 := ixB_in (n := 4) (by decide) h16 (Int32.not_lt.mp h21)
            obtain ⟨n1, hn1, rfl⟩ := ixB_t hx9 (by decide)
            have hb9 : w = nI 4 → ixB nb b = true := fun q => absurd q h26
            refine J_aload_n (pc := 39) D10_ahead_39 rfl ?_
            refine J_iload_n (pc := 40) D10_ahead_40 rfl ?_
            refine J_callVT (pc := 41) (ac := [.int _]) D10_ahead_41 m10_runs_v t1714 (c10_runs (d := d) (s := updI s 0 (nI 0)) hR hT hC h48 (n := n1) (by omega)) (by omega) rfl rfl rfl rfl rfl rfl rfl (fun r w' hq hl => ?_)
            obtain ⟨rfl, s2, A2, L2, M2, rfl, hs2, hM2, hC2⟩ := hq
            have hR2 := hs2.rt hR
            have hC0 : CR False np nb nn (M2 0) V := by rw [hM2 0 (by decide)]; exact hC
            have px : PX s A M s2 A2 M2 := PX.s0.tr (PX.sc hs2 hM2)
            have g9 : ahF T V nb nn (nI n1) w b = ahE V (passN T y1 nb nn n1 V) w b := by rw [ahF, if_pos ⟨hx9, hw9, hb9⟩, nI_clamp (by omega)]
            refine J_iload_n (pc := 44) D10_ahead_44 rfl ?_
            refine J_tsw (pc := 45) 0 [76, 90, 104, 118] 130 D10_ahead_45 (by decide) (by decide) rfl (by decide) (by decide) (fun j hj h45 => ?_) (fun h45 => ?_)
            · have hj45 : j = 0 ∨ j = 1 ∨ j = 2 ∨ j = 3 := by have hj2 : j < 4 := hj; omega
              clear hj
              rcases hj45 with rfl | rfl | rfl | rfl
              · refine J_aload_n (pc := 76) D10_ahead_76 rfl ?_
                refine J_iconst (pc := 77) (v := (nI 1)) D10_ahead_77 (by decide) ?_
                refine J_iconst (pc := 78) (v := (nI 2)) D10_ahead_78 (by decide) ?_
                refine J_callVTR (pc := 79) (ac := [.int _, .int _]) D10_ahead_79 m10_manyOf_v t1722 (c10_manyOf (d := d) hR2 hT (by decide)) (by omega) rfl rfl rfl rfl (fun _ => rfl) rfl rfl rfl ?_
                refine J_aload_n (pc := 82) D10_ahead_82 rfl ?_
                refine J_iconst (pc := 83) (v := (nI 0)) D10_ahead_83 (by decide) ?_
                refine J_iconst (pc := 84) (v := (nI 2)) D10_ahead_84 (by decide) ?_
                refine J_callVTR (pc := 85) (ac := [.int _, .int _]) D10_ahead_85 m10_manyOf_v t1722 (c10_manyOf (d := d) hR2 hT (by decide)) (by omega) rfl rfl rfl rfl (fun _ => rfl) rfl rfl rfl ?_
                refine J_isub (pc := 88) D10_ahead_88 ?_
                refine J_iret (pc := 89) D10_ahead_89 rfl ?_
                rw [g9]
                subst h45
                exact ⟨congrArg (fun q => some (Value.int q)) (by rw [off_e hC2 hnb, off_e hC0 hnb]; rfl), _, _, _, _, rfl, px⟩
              · refine J_aload_n (pc := 90) D10_ahead_90 rfl ?_
                refine J_iconst (pc := 91) (v := (nI 1)) D10_ahead_91 (by decide) ?_
                refine J_iconst (pc := 92) (v := (nI 1)) D10_ahead_92 (by decide) ?_
                refine J_callVTR (pc := 93) (ac := [.int _, .int _]) D10_ahead_93 m10_needsOf_v t1726 (c10_needsOf (d := d) hR2 hT (by decide)) (by omega) rfl rfl rfl rfl (fun _ => rfl) rfl rfl rfl ?_
                refine J_aload_n (pc := 96) D10_ahead_96 rfl ?_
                refine J_iconst (pc := 97) (v := (nI 0)) D10_ahead_97 (by decide) ?_
                refine J_iconst (pc := 98) (v := (nI 1)) D10_ahead_98 (by decide) ?_
                refine J_callVTR (pc := 99) (ac := [.int _, .int _]) D10_ahead_99 m10_needsOf_v t1726 (c10_needsOf (d := d) hR2 hT (by decide)) (by omega) rfl rfl rfl rfl (fun _ => rfl) rfl rfl rfl ?_
                refine J_isub (pc := 102) D10_ahead_102 ?_
                refine J_iret (pc := 103) D10_ahead_103 rfl ?_
                rw [g9]
                subst h45
                exact ⟨congrArg (fun q => some (Value.int q)) (by rw [met_e hC2 hnn, met_e hC0 hnn]; rfl), _, _, _, _, rfl, px⟩
              · refine J_aload_n (pc := 104) D10_ahead_104 rfl ?_
                refine J_iconst (pc := 105) (v := (nI 1)) D10_ahead_105 (by decide) ?_
                refine J_iconst (pc := 106) (v := (nI 0)) D10_ahead_106 (by decide) ?_
                refine J_callVTR (pc := 107) (ac := [.int _, .int _]) D10_ahead_107 m10_needsOf_v t1726 (c10_needsOf (d := d) hR2 hT (by decide)) (by omega) rfl rfl rfl rfl (fun _ => rfl) rfl rfl rfl ?_
                refine J_aload_n (pc := 110) D10_ahead_110 rfl ?_
                refine J_iconst (pc := 111) (v := (nI 0)) D10_ahead_111 (by decide) ?_
                refine J_iconst (pc := 112) (v := (nI 0)) D10_ahead_112 (by decide) ?_
                refine J_callVTR (pc := 113) (ac := [.int _, .int _]) D10_ahead_113 m10_needsOf_v t1726 (c10_needsOf (d := d) hR2 hT (by decide)) (by omega) rfl rfl rfl rfl (fun _ => rfl) rfl rfl rfl ?_
                refine J_isub (pc := 116) D10_ahead_116 ?_
                refine J_iret (pc := 117) D10_ahead_117 rfl ?_
                rw [g9]
                subst h45
                exact ⟨congrArg (fun q => some (Value.int q)) (by rw [um_e hC2 hnn, um_e hC0 hnn]; rfl), _, _, _, _, rfl, px⟩
              · refine J_aload_n (pc := 118) D10_ahead_118 rfl ?_
                refine J_iconst (pc := 119) (v := (nI 1)) D10_ahead_119 (by decide) ?_
                refine J_callVTR (pc := 120) (ac := [.int _]) D10_ahead_120 m10_hatesAll_v t1730 (c10_hatesAll (d := d) hR2 hT (by decide)) (by omega) rfl rfl rfl rfl (fun _ => rfl) rfl rfl rfl ?_
                refine J_aload_n (pc := 123) D10_ahead_123 rfl ?_
                refine J_iconst (pc := 124) (v := (nI 0)) D10_ahead_124 (by decide) ?_
                refine J_callVTR (pc := 125) (ac := [.int _]) D10_ahead_125 m10_hatesAll_v t1730 (c10_hatesAll (d := d) hR2 hT (by decide)) (by omega) rfl rfl rfl rfl (fun _ => rfl) rfl rfl rfl ?_
                refine J_isub (pc := 128) D10_ahead_128 ?_
                refine J_iret (pc := 129) D10_ahead_129 rfl ?_
                rw [g9]
                subst h45
                exact ⟨congrArg (fun q => some (Value.int q)) (by rw [hs_e hC2 hnp, hs_e hC0 hnp]; rfl), _, _, _, _, rfl, px⟩
            · refine J_aload_n (pc := 130) D10_ahead_130 rfl ?_
              refine J_getf (pc := 131) D10_ahead_131 fl10_87 rfl rfl ?_
              refine J_bipush (pc := 134) (v := (nI 10)) D10_ahead_134 (by decide) ?_
              have hw4 : w = nI 4 := by
                obtain ⟨j, hj, rfl⟩ := ixB_t hw9 (by decide)
                have h0 := h45 0 (by decide)
                have h1 := h45 1 (by decide)
                have h2 := h45 2 (by decide)
                have h3 := h45 3 (by decide)
                have : j = 0 ∨ j = 1 ∨ j = 2 ∨ j = 3 ∨ j = 4 := by omega
                rcases this with rfl | rfl | rfl | rfl | rfl
                · exact absurd rfl h0
                · exact absurd rfl h1
                · exact absurd rfl h2
                · exact absurd rfl h3
                · rfl
              obtain ⟨b1, hb1, rfl⟩ := ixB_t (hb9 hw4) (by omega)
              refine J_iload_n (pc := 136) D10_ahead_136 rfl ?_
              refine J_iadd (pc := 137) D10_ahead_137 ?_
              refine J_st (.int (nI (10 * 1 + b1)) :: .ref 25 :: []) (by rw [← ix1]; rfl) ?_
              refine J_mcld (pc := 138) (stp := 10) D10_ahead_138 mc_1 rfl (by omega) (by omega) rfl ?_
              refine J_iret (pc := 139) D10_ahead_139 rfl ?_
              rw [g9]
              subst hw4
              exact ⟨congrArg (fun q => some (Value.int q)) (by rw [(hC2.2.2.2.1 b1 hb1).2.1]; show _ = (passN T y1 nb nn n1 V).2.2.2 1 (nI b1).toNatClampNeg; rw [nI_clamp (by omega)]), _, _, _, _, rfl, px⟩
          · have h26' := eq_true h26
            refine J_aload_n (pc := 29) D10_ahead_29 rfl ?_
            refine J_iload_n (pc := 30) D10_ahead_30 rfl ?_
            refine J_callVTR (pc := 31) (ac := [.int _]) D10_ahead_31 m10_isBottle_v t1567 (c10_isBottle (d := d) hR) (by omega) rfl rfl rfl rfl (fun _ => rfl) rfl rfl rfl ?_
            refine J_if_ne (pc := 34) (tgt := 39) D10_ahead_34 (by decide) (fun h34 => ?_) (fun h34 => ?_)
            · replace h34 := i01_nz h34
              have hx9 := ixB_in (n := 99) (by decide) h6 (Int32.not_lt.mp h12)
              have hw9 := ixB_in (n := 4) (by decide) h16 (Int32.not_lt.mp h21)
              obtain ⟨n1, hn1, rfl⟩ := ixB_t hx9 (by decide)
              have hb9 : w = nI 4 → ixB nb b = true := fun _ => h34
              refine J_aload_n (pc := 39) D10_ahead_39 rfl ?_
              refine J_iload_n (pc := 40) D10_ahead_40 rfl ?_
              refine J_callVT (pc := 41) (ac := [.int _]) D10_ahead_41 m10_runs_v t1714 (c10_runs (d := d) (s := updI s 0 (nI 0)) hR hT hC h48 (n := n1) (by omega)) (by omega) rfl rfl rfl rfl rfl rfl rfl (fun r w' hq hl => ?_)
              obtain ⟨rfl, s2, A2, L2, M2, rfl, hs2, hM2, hC2⟩ := hq
              have hR2 := hs2.rt hR
              have hC0 : CR False np nb nn (M2 0) V := by rw [hM2 0 (by decide)]; exact hC
              have px : PX s A M s2 A2 M2 := PX.s0.tr (PX.sc hs2 hM2)
              have g9 : ahF T V nb nn (nI n1) w b = ahE V (passN T y1 nb nn n1 V) w b := by rw [ahF, if_pos ⟨hx9, hw9, hb9⟩, nI_clamp (by omega)]
              refine J_iload_n (pc := 44) D10_ahead_44 rfl ?_
              refine J_tsw (pc := 45) 0 [76, 90, 104, 118] 130 D10_ahead_45 (by decide) (by decide) rfl (by decide) (by decide) (fun j hj h45 => ?_) (fun h45 => ?_)
              · have hj45 : j = 0 ∨ j = 1 ∨ j = 2 ∨ j = 3 := by have hj2 : j < 4 := hj; omega
                clear hj
                rcases hj45 with rfl | rfl | rfl | rfl
                · refine J_aload_n (pc := 76) D10_ahead_76 rfl ?_
                  refine J_iconst (pc := 77) (v := (nI 1)) D10_ahead_77 (by decide) ?_
                  refine J_iconst (pc := 78) (v := (nI 2)) D10_ahead_78 (by decide) ?_
                  refine J_callVTR (pc := 79) (ac := [.int _, .int _]) D10_ahead_79 m10_manyOf_v t1722 (c10_manyOf (d := d) hR2 hT (by decide)) (by omega) rfl rfl rfl rfl (fun _ => rfl) rfl rfl rfl ?_
                  refine J_aload_n (pc := 82) D10_ahead_82 rfl ?_
                  refine J_iconst (pc := 83) (v := (nI 0)) D10_ahead_83 (by decide) ?_
                  refine J_iconst (pc := 84) (v := (nI 2)) D10_ahead_84 (by decide) ?_
                  refine J_callVTR (pc := 85) (ac := [.int _, .int _]) D10_ahead_85 m10_manyOf_v t1722 (c10_manyOf (d := d) hR2 hT (by decide)) (by omega) rfl rfl rfl rfl (fun _ => rfl) rfl rfl rfl ?_
                  refine J_isub (pc := 88) D10_ahead_88 ?_
                  refine J_iret (pc := 89) D10_ahead_89 rfl ?_
                  rw [g9]
                  subst h45
                  exact ⟨congrArg (fun q => some (Value.int q)) (by rw [off_e hC2 hnb, off_e hC0 hnb]; rfl), _, _, _, _, rfl, px⟩
                · refine J_aload_n (pc := 90) D10_ahead_90 rfl ?_
                  refine J_iconst (pc := 91) (v := (nI 1)) D10_ahead_91 (by decide) ?_
                  refine J_iconst (pc := 92) (v := (nI 1)) D10_ahead_92 (by decide) ?_
                  refine J_callVTR (pc := 93) (ac := [.int _, .int _]) D10_ahead_93 m10_needsOf_v t1726 (c10_needsOf (d := d) hR2 hT (by decide)) (by omega) rfl rfl rfl rfl (fun _ => rfl) rfl rfl rfl ?_
                  refine J_aload_n (pc := 96) D10_ahead_96 rfl ?_
                  refine J_iconst (pc := 97) (v := (nI 0)) D10_ahead_97 (by decide) ?_
                  refine J_iconst (pc := 98) (v := (nI 1)) D10_ahead_98 (by decide) ?_
                  refine J_callVTR (pc := 99) (ac := [.int _, .int _]) D10_ahead_99 m10_needsOf_v t1726 (c10_needsOf (d := d) hR2 hT (by decide)) (by omega) rfl rfl rfl rfl (fun _ => rfl) rfl rfl rfl ?_
                  refine J_isub (pc := 102) D10_ahead_102 ?_
                  refine J_iret (pc := 103) D10_ahead_103 rfl ?_
                  rw [g9]
                  subst h45
                  exact ⟨congrArg (fun q => some (Value.int q)) (by rw [met_e hC2 hnn, met_e hC0 hnn]; rfl), _, _, _, _, rfl, px⟩
                · refine J_aload_n (pc := 104) D10_ahead_104 rfl ?_
                  refine J_iconst (pc := 105) (v := (nI 1)) D10_ahead_105 (by decide) ?_
                  refine J_iconst (pc := 106) (v := (nI 0)) D10_ahead_106 (by decide) ?_
                  refine J_callVTR (pc := 107) (ac := [.int _, .int _]) D10_ahead_107 m10_needsOf_v t1726 (c10_needsOf (d := d) hR2 hT (by decide)) (by omega) rfl rfl rfl rfl (fun _ => rfl) rfl rfl rfl ?_
                  refine J_aload_n (pc := 110) D10_ahead_110 rfl ?_
                  refine J_iconst (pc := 111) (v := (nI 0)) D10_ahead_111 (by decide) ?_
                  refine J_iconst (pc := 112) (v := (nI 0)) D10_ahead_112 (by decide) ?_
                  refine J_callVTR (pc := 113) (ac := [.int _, .int _]) D10_ahead_113 m10_needsOf_v t1726 (c10_needsOf (d := d) hR2 hT (by decide)) (by omega) rfl rfl rfl rfl (fun _ => rfl) rfl rfl rfl ?_
                  refine J_isub (pc := 116) D10_ahead_116 ?_
                  refine J_iret (pc := 117) D10_ahead_117 rfl ?_
                  rw [g9]
                  subst h45
                  exact ⟨congrArg (fun q => some (Value.int q)) (by rw [um_e hC2 hnn, um_e hC0 hnn]; rfl), _, _, _, _, rfl, px⟩
                · refine J_aload_n (pc := 118) D10_ahead_118 rfl ?_
                  refine J_iconst (pc := 119) (v := (nI 1)) D10_ahead_119 (by decide) ?_
                  refine J_callVTR (pc := 120) (ac := [.int _]) D10_ahead_120 m10_hatesAll_v t1730 (c10_hatesAll (d := d) hR2 hT (by decide)) (by omega) rfl rfl rfl rfl (fun _ => rfl) rfl rfl rfl ?_
                  refine J_aload_n (pc := 123) D10_ahead_123 rfl ?_
                  refine J_iconst (pc := 124) (v := (nI 0)) D10_ahead_124 (by decide) ?_
                  refine J_callVTR (pc := 125) (ac := [.int _]) D10_ahead_125 m10_hatesAll_v t1730 (c10_hatesAll (d := d) hR2 hT (by decide)) (by omega) rfl rfl rfl rfl (fun _ => rfl) rfl rfl rfl ?_
                  refine J_isub (pc := 128) D10_ahead_128 ?_
                  refine J_iret (pc := 129) D10_ahead_129 rfl ?_
                  rw [g9]
                  subst h45
                  exact ⟨congrArg (fun q => some (Value.int q)) (by rw [hs_e hC2 hnp, hs_e hC0 hnp]; rfl), _, _, _, _, rfl, px⟩
              · refine J_aload_n (pc := 130) D10_ahead_130 rfl ?_
                refine J_getf (pc := 131) D10_ahead_131 fl10_87 rfl rfl ?_
                refine J_bipush (pc := 134) (v := (nI 10)) D10_ahead_134 (by decide) ?_
                have hw4 : w = nI 4 := by
                  obtain ⟨j, hj, rfl⟩ := ixB_t hw9 (by decide)
                  have h0 := h45 0 (by decide)
                  have h1 := h45 1 (by decide)
                  have h2 := h45 2 (by decide)
                  have h3 := h45 3 (by decide)
                  have : j = 0 ∨ j = 1 ∨ j = 2 ∨ j = 3 ∨ j = 4 := by omega
                  rcases this with rfl | rfl | rfl | rfl | rfl
                  · exact absurd rfl h0
                  · exact absurd rfl h1
                  · exact absurd rfl h2
                  · exact absurd rfl h3
                  · rfl
                obtain ⟨b1, hb1, rfl⟩ := ixB_t (hb9 hw4) (by omega)
                refine J_iload_n (pc := 136) D10_ahead_136 rfl ?_
                refine J_iadd (pc := 137) D10_ahead_137 ?_
                refine J_st (.int (nI (10 * 1 + b1)) :: .ref 25 :: []) (by rw [← ix1]; rfl) ?_
                refine J_mcld (pc := 138) (stp := 10) D10_ahead_138 mc_1 rfl (by omega) (by omega) rfl ?_
                refine J_iret (pc := 139) D10_ahead_139 rfl ?_
                rw [g9]
                subst hw4
                exact ⟨congrArg (fun q => some (Value.int q)) (by rw [(hC2.2.2.2.1 b1 hb1).2.1]; show _ = (passN T y1 nb nn n1 V).2.2.2 1 (nI b1).toNatClampNeg; rw [nI_clamp (by omega)]), _, _, _, _, rfl, px⟩
            · have h34' := eq_true h34
              replace h34 := i01_z h34
              refine J_iconst (pc := 37) (v := (-1)) D10_ahead_37 (by decide) ?_
              refine J_iret (pc := 38) D10_ahead_38 rfl ?_
              exact ⟨congrArg (fun q => some (Value.int q)) (by rw [ahF, if_neg (fun q => h34 (q.2.2 h26))]), _, _, _, _, rfl, PX.s0⟩
theorem L10_firstOff {d : Nat} {T : TV} {np nb nn : Nat} {s0 : Nat → Int32} {A0 : Nat → Nat → Int32} {M0 : Nat → MR} (hR0 : RT A0 T np nb nn) (hT : WT T np nb nn) {V : CV} (hC : CR False np nb nn (M0 0) V) (h48 : s0 48 = 0) {w : Int32} : ∀ (g k : Nat) (X : CV) (s : Nat → Int32) (A : Nat → Nat → Int32) (L : LL) (M : Nat → MR), k + g = 100 → IV False np nb nn 1 s0 A0 M0 s A M X → J m10_firstOff (d + 6) 0 0 40 24 [(0, .ref 0), (1, .int w), (2, .int (nI k))] [] (modW s A L M) 0 0 (mR s0 A0 M0 (.int (fiL T nb nn (bOff V) w g k X))) := by
  have hnb := hT.2.2.2.2.1
  have hnp := hT.2.2.2.1
  have hnn := hT.2.2.2.2.2.1
  intro g
  induction g with
  | zero =>
    intro k X s A L M hk hI
    refine J_iload_n (pc := 24) D10_firstOff_24 rfl ?_
    refine J_bipush (pc := 25) (v := (nI 99)) D10_firstOff_25 (by decide) ?_
    refine J_icmp_gt (pc := 27) (tgt := 62) D10_firstOff_27 (by decide) (fun h27 => ?_) (fun h27 => absurd (nI_lt (by omega) (by omega)) h27)
    refine J_bipush (pc := 62) (v := (-2)) D10_firstOff_62 (by decide) ?_
    refine J_iret (pc := 64) D10_firstOff_64 rfl ?_
    exact ⟨rfl, s, A, L, M, rfl, PX.sc hI.1 hI.2.1⟩
  | succ g ih =>
    intro k X s A L M hk hI
    have hR := hI.1.rt hR0
    refine J_iload_n (pc := 24) D10_firstOff_24 rfl ?_
    refine J_bipush (pc := 25) (v := (nI 99)) D10_firstOff_25 (by decide) ?_
    refine J_icmp_gt (pc := 27) (tgt := 62) D10_firstOff_27 (by decide) (fun h27 => absurd h27 (Int32.not_lt.mpr (nI_le (by omega) (by omega)))) (fun h27 => ?_)
    refine J_aload_n (pc := 30) D10_firstOff_30 rfl ?_
    refine J_iconst (pc := 31) (v := (nI 1)) D10_firstOff_31 (by decide) ?_
    refine J_iconst (pc := 32) (v := (nI 0)) D10_firstOff_32 (by decide) ?_
    refine J_callVT (pc := 33) (ac := [.int _, .int _]) D10_firstOff_33 m10_passes_v t1671 (c10_passes (d := d) hR hT (c := 1) (by decide) hI.2.2 (RY.y1 (by rw [hI.1.1 48 (by decide)]; exact h48))) (by omega) rfl rfl rfl rfl rfl rfl rfl (fun r w' hq hl => ?_)
    obtain ⟨rfl, s2, A2, L2, M2, rfl, hs2, hM2, hC2⟩ := hq
    have hR2 := hs2.rt hR
    have hI2 := hI.go hs2 hM2 hC2
    have hC0 : CR False np nb nn (M2 0) V := by rw [hI2.2.1 0 (by decide)]; exact hC
    refine J_aload_n (pc := 36) D10_firstOff_36 rfl ?_
    refine J_callVTR (pc := 37) (ac := []) D10_firstOff_37 m10_offMore_v t1738 (c10_offMore (d := d + 1) hR2 hT hC0 hC2) (by omega) rfl rfl rfl rfl (fun _ => rfl) rfl rfl rfl ?_
    refine J_if_eq (pc := 40) (tgt := 56) D10_firstOff_40 (by decide) (fun h40 => ?_) (fun h40 => ?_)
    · have h40' := eq_true h40
      refine J_iinc (pc := 56) D10_firstOff_56 rfl (nI_inc _) rfl ?_
      refine J_goto (pc := 59) (tgt := 24) D10_firstOff_59 (by decide) ?_
      rw [fiL, if_pos h40]
      exact ih (k + 1) _ _ _ _ _ (by omega) hI2
    · refine J_iload_n (pc := 43) D10_firstOff_43 rfl ?_
      refine J_if_ne (pc := 44) (tgt := 51) D10_firstOff_44 (by decide) (fun h44 => ?_) (fun h44 => ?_)
      · refine J_aload_n (pc := 51) D10_firstOff_51 rfl ?_
        refine J_callVTR (pc := 52) (ac := []) D10_firstOff_52 m10_offMore_v t1738 (c10_offMore (d := d + 1) hR2 hT hC0 hC2) (by omega) rfl rfl rfl rfl (fun _ => rfl) rfl rfl rfl ?_
        refine J_iret (pc := 55) D10_firstOff_55 rfl ?_
        refine ⟨congrArg (fun q => some (Value.int q)) ?_, s2, A2, L2, M2, rfl, PX.sc hI2.1 hI2.2.1⟩
        rw [fiL, if_neg h40, if_neg h44]
      · have h44' := eq_true h44
        refine J_iload_n (pc := 47) D10_firstOff_47 rfl ?_
        refine J_goto (pc := 48) (tgt := 55) D10_firstOff_48 (by decide) ?_
        refine J_iret (pc := 55) D10_firstOff_55 rfl ?_
        refine ⟨congrArg (fun q => some (Value.int q)) ?_, s2, A2, L2, M2, rfl, PX.sc hI2.1 hI2.2.1⟩
        rw [fiL, if_neg h40, if_pos h44]
theorem c10_firstOff {d : Nat} {s : Nat → Int32} {A : Nat → Nat → Int32} {L : LL} {M : Nat → MR} {T : TV} {np nb nn : Nat} (hR : RT A T np nb nn) (hT : WT T np nb nn) {V : CV} (hC : CR False np nb nn (M 0) V) (h48 : s 48 = 0) {w : Int32} : Tr (d + 6) 0 0 m10_firstOff [.ref 0, .int w] (modW s A L M) (mR s A M (.int (fioF T V nb nn w))) := by
  have hnb := hT.2.2.2.2.1
  have hnp := hT.2.2.2.1
  have hnn := hT.2.2.2.2.2.1
  refine Tr.intro (by decide) rfl ?_
  refine J_aload_n (pc := 0) D10_firstOff_0 rfl ?_
  refine J_iconst (pc := 1) (v := (nI 0)) D10_firstOff_1 (by decide) ?_
  refine J_mput (pc := 2) D10_firstOff_2 fp10_139 ms_0 ?_
  refine J_iload_n (pc := 5) D10_firstOff_5 rfl ?_
  refine J_if_lt (pc := 6) (tgt := 14) D10_firstOff_6 (by decide) (fun h6 => ?_) (fun h6 => ?_)
  · have h6' := Int32.not_le.mpr h6
    refine J_iconst (pc := 14) (v := (-1)) D10_firstOff_14 (by decide) ?_
    refine J_iret (pc := 15) D10_firstOff_15 rfl ?_
    exact ⟨congrArg (fun q => some (Value.int q)) (by rw [fioF, if_neg (fun q => ixB_0 h6 q)]), _, _, _, _, rfl, PX.s0⟩
  · have h6' := Int32.not_lt.mp h6
    refine J_iload_n (pc := 9) D10_firstOff_9 rfl ?_
    refine J_iconst (pc := 10) (v := (nI 1)) D10_firstOff_10 (by decide) ?_
    refine J_icmp_le (pc := 11) (tgt := 16) D10_firstOff_11 (by decide) (fun h11 => ?_) (fun h11 => ?_)
    · have h11' := Int32.not_lt.mpr h11
      refine J_aload_n (pc := 16) D10_firstOff_16 rfl ?_
      refine J_iconst (pc := 17) (v := (nI 1)) D10_firstOff_17 (by decide) ?_
      refine J_iconst (pc := 18) (v := (nI 0)) D10_firstOff_18 (by decide) ?_
      refine J_callVT (pc := 19) (ac := [.int _, .int _]) D10_firstOff_19 m10_copies_v t1655 (c10_copies (d := d + 5) (t := 1) (a := 0) (by decide) (by decide) (by decide)) (by omega) rfl rfl rfl rfl rfl rfl rfl (fun r w' hq hl => ?_)
      obtain ⟨rfl, M1, rfl, hM1, hE1⟩ := hq
      have hC1 := hC.eqR hE1 hnp hnb
      have hC01 : CR False np nb nn (M1 0) V := by rw [hM1 0 (by decide)]; exact hC
      refine J_iconst (pc := 22) (v := (nI 1)) D10_firstOff_22 (by decide) ?_
      refine J_istore_n (pc := 23) D10_firstOff_23 rfl ?_
      rw [fioF, if_pos (ixB_in (n := 1) (by decide) h6 h11)]
      exact J_mono (L10_firstOff (s0 := updI s 0 (nI 0)) hR hT hC h48 99 1 V (updI s 0 (nI 0)) A L M1 (by omega) ⟨SC.rf, hM1, hC1⟩) (mR.tr PX.s0)
    · have h11' := Int32.not_le.mp h11
      refine J_iconst (pc := 14) (v := (-1)) D10_firstOff_14 (by decide) ?_
      refine J_iret (pc := 15) D10_firstOff_15 rfl ?_
      exact ⟨congrArg (fun q => some (Value.int q)) (by rw [fioF, if_neg (fun q => ixB_gt (n := 1) (by decide) (Int32.not_le.mp h11) q)]), _, _, _, _, rfl, PX.s0⟩
theorem c10_chain {d : Nat} {s : Nat → Int32} {A : Nat → Nat → Int32} {L : LL} {M : Nat → MR} {T : TV} {np nb nn : Nat} (hR : RT A T np nb nn) (hT : WT T np nb nn) {V : CV} (hC : CR False np nb nn (M 0) V) (h48 : s 48 = 0) {b : Int32} : Tr (d + 5) 0 0 m10_chain [.ref 0, .int b] (modW s A L M) (mR s A M (.int (chnF T V nb b))) := by
  have hnb := hT.2.2.2.2.1
  have hnp := hT.2.2.2.1
  have hnn := hT.2.2.2.2.2.1
  refine Tr.intro (by decide) rfl ?_
  refine J_aload_n (pc := 0) D10_chain_0 rfl ?_
  refine J_iconst (pc := 1) (v := (nI 0)) D10_chain_1 (by decide) ?_
  refine J_mput (pc := 2) D10_chain_2 fp10_139 ms_0 ?_
  refine J_aload_n (pc := 5) D10_chain_5 rfl ?_
  refine J_iload_n (pc := 6) D10_chain_6 rfl ?_
  refine J_callVTR (pc := 7) (ac := [.int _]) D10_chain_7 m10_isBottle_v t1567 (c10_isBottle (d := d) hR) (by omega) rfl rfl rfl rfl (fun _ => rfl) rfl rfl rfl ?_
  refine J_if_ne (pc := 10) (tgt := 15) D10_chain_10 (by decide) (fun h10 => ?_) (fun h10 => ?_)
  · replace h10 := i01_nz h10
    obtain ⟨b1, hb1, rfl⟩ := ixB_t h10 (by omega)
    have ely := hC.ly hb1
    refine J_aload_n (pc := 15) D10_chain_15 rfl ?_
    refine J_iconst (pc := 16) (v := (nI 0)) D10_chain_16 (by decide) ?_
    refine J_iload_n (pc := 17) D10_chain_17 rfl ?_
    refine J_callVTR (pc := 18) (ac := [.int _, .int _]) D10_chain_18 m10_isLying_v t1583 (c10_isLying (d := d) (c := 0) (b := b1) (by decide) (by omega)) (by omega) rfl rfl rfl rfl (fun _ => rfl) rfl rfl rfl ?_
    refine J_if_ne (pc := 21) (tgt := 27) D10_chain_21 (by decide) (fun h21 => ?_) (fun h21 => ?_)
    · replace h21 := i01_nz h21
      refine J_aload_n (pc := 27) D10_chain_27 rfl ?_
      refine J_iconst (pc := 28) (v := (nI 1)) D10_chain_28 (by decide) ?_
      refine J_iconst (pc := 29) (v := (nI 0)) D10_chain_29 (by decide) ?_
      refine J_callVT (pc := 30) (ac := [.int _, .int _]) D10_chain_30 m10_copies_v t1655 (c10_copies (d := d + 4) (t := 1) (a := 0) (by decide) (by decide) (by decide)) (by omega) rfl rfl rfl rfl rfl rfl rfl (fun r w' hq hl => ?_)
      obtain ⟨rfl, M1, rfl, hM1, hE1⟩ := hq
      have hC1 := hC.eqR hE1 hnp hnb
      have hC01 : CR False np nb nn (M1 0) V := by rw [hM1 0 (by decide)]; exact hC
      refine J_aload_n (pc := 33) D10_chain_33 rfl ?_
      refine J_iconst (pc := 34) (v := (nI 1)) D10_chain_34 (by decide) ?_
      refine J_iload_n (pc := 35) D10_chain_35 rfl ?_
      refine J_callVT (pc := 36) (ac := [.int _, .int _]) D10_chain_36 m10_goesOff_v t1694 (c10_goesOff (d := d) (s := updI s 0 (nI 0)) hR hT (c := 1) (by decide) hC1 (RY.y1 h48) hb1 (ely.mp h21)) (by omega) rfl rfl rfl rfl rfl rfl rfl (fun r w' hq hl => ?_)
      obtain ⟨rfl, s2, A2, L2, M2, rfl, hs2, hM2, hC2⟩ := hq
      have hR2 := hs2.rt hR
      have hC0 : CR False np nb nn (M2 0) V := by rw [hM2 0 (by decide), hM1 0 (by decide)]; exact hC
      refine J_aload_n (pc := 39) D10_chain_39 rfl ?_
      refine J_callVTR (pc := 40) (ac := []) D10_chain_40 m10_offMore_v t1738 (c10_offMore (d := d + 1) hR2 hT hC0 hC2) (by omega) rfl rfl rfl rfl (fun _ => rfl) rfl rfl rfl ?_
      refine J_iret (pc := 43) D10_chain_43 rfl ?_
      exact ⟨congrArg (fun q => some (Value.int q)) (by rw [chnF, if_pos h10, nI_clamp (by omega), if_pos (ely.mp h21)]), _, _, _, _, rfl, PX.s0.tr ((PX.sc SC.rf hM1).tr (PX.sc hs2 hM2))⟩
    · have h21' := eq_true h21
      replace h21 := i01_z h21
      refine J_bipush (pc := 24) (v := (-2)) D10_chain_24 (by decide) ?_
      refine J_iret (pc := 26) D10_chain_26 rfl ?_
      exact ⟨congrArg (fun q => some (Value.int q)) (by rw [chnF, if_pos h10, nI_clamp (by omega), if_neg (fun q => h21 (ely.mpr q))]), _, _, _, _, rfl, PX.s0⟩
  · have h10' := eq_true h10
    replace h10 := i01_z h10
    refine J_iconst (pc := 13) (v := (-1)) D10_chain_13 (by decide) ?_
    refine J_iret (pc := 14) D10_chain_14 rfl ?_
    exact ⟨congrArg (fun q => some (Value.int q)) (by rw [chnF, if_neg h10]), _, _, _, _, rfl, PX.s0⟩
theorem L10_ripeN {d : Nat} {T : TV} {np nb nn : Nat} {s0 : Nat → Int32} {A0 : Nat → Nat → Int32} {M0 : Nat → MR} (hR0 : RT A0 T np nb nn) (hT : WT T np nb nn) {V : CV} (hC : CR False np nb nn (M0 0) V) (h48 : s0 48 = 0) {b : Nat} {w : Int32} (hb : b < nb) : ∀ (g k : Nat) (X : CV) (s : Nat → Int32) (A : Nat → Nat → Int32) (L : LL) (M : Nat → MR), k + g = 100 → IV False np nb nn 1 s0 A0 M0 s A M X → ¬ X.2.2.2 3 b = 0 → J m10_ripe (d + 6) 0 0 40 34 [(0, .ref 0), (1, .int (nI b)), (2, .int w), (3, .int (nI k))] [] (modW s A L M) 0 0 (mR s0 A0 M0 (.int (-2))) := by
  have hnb := hT.2.2.2.2.1
  have hnp := hT.2.2.2.1
  have hnn := hT.2.2.2.2.2.1
  intro g
  induction g with
  | zero =>
    intro k X s A L M hk hI hx
    refine J_iload_n (pc := 34) D10_ripe_34 rfl ?_
    refine J_bipush (pc := 35) (v := (nI 99)) D10_ripe_35 (by decide) ?_
    refine J_icmp_gt (pc := 37) (tgt := 76) D10_ripe_37 (by decide) (fun h37 => ?_) (fun h37 => absurd (nI_lt (by omega) (by omega)) h37)
    refine J_bipush (pc := 76) (v := (-2)) D10_ripe_76 (by decide) ?_
    refine J_iret (pc := 78) D10_ripe_78 rfl ?_
    exact ⟨rfl, s, A, L, M, rfl, PX.sc hI.1 hI.2.1⟩
  | succ g ih =>
    intro k X s A L M hk hI hx
    have hR := hI.1.rt hR0
    have ely := hI.2.2.ly hb
    refine J_iload_n (pc := 34) D10_ripe_34 rfl ?_
    refine J_bipush (pc := 35) (v := (nI 99)) D10_ripe_35 (by decide) ?_
    refine J_icmp_gt (pc := 37) (tgt := 76) D10_ripe_37 (by decide) (fun h37 => absurd h37 (Int32.not_lt.mpr (nI_le (by omega) (by omega)))) (fun h37 => ?_)
    refine J_aload_n (pc := 40) D10_ripe_40 rfl ?_
    refine J_iconst (pc := 41) (v := (nI 1)) D10_ripe_41 (by decide) ?_
    refine J_iload_n (pc := 42) D10_ripe_42 rfl ?_
    refine J_callVTR (pc := 43) (ac := [.int _, .int _]) D10_ripe_43 m10_isLying_v t1583 (c10_isLying (d := d + 5) (c := 1) (b := b) (by decide) (by omega)) (by omega) rfl rfl rfl rfl (fun _ => rfl) rfl rfl rfl ?_
    refine J_if_eq (pc := 46) (tgt := 64) D10_ripe_46 (by decide) (fun h46 => ?_) (fun h46 => absurd (i01_f (fun q => hx (ely.mp q))) h46)
    refine J_aload_n (pc := 64) D10_ripe_64 rfl ?_
    refine J_iconst (pc := 65) (v := (nI 1)) D10_ripe_65 (by decide) ?_
    refine J_iconst (pc := 66) (v := (nI 0)) D10_ripe_66 (by decide) ?_
    refine J_callVT (pc := 67) (ac := [.int _, .int _]) D10_ripe_67 m10_passes_v t1671 (c10_passes (d := d) hR hT (c := 1) (by decide) hI.2.2 (RY.y1 (by rw [hI.1.1 48 (by decide)]; exact h48))) (by omega) rfl rfl rfl rfl rfl rfl rfl (fun r w' hq hl => ?_)
    obtain ⟨rfl, s2, A2, L2, M2, rfl, hs2, hM2, hC2⟩ := hq
    have hR2 := hs2.rt hR
    have hI2 := hI.go hs2 hM2 hC2
    have hC0 : CR False np nb nn (M2 0) V := by rw [hI2.2.1 0 (by decide)]; exact hC
    refine J_iinc (pc := 70) D10_ripe_70 rfl (nI_inc _) rfl ?_
    refine J_goto (pc := 73) (tgt := 34) D10_ripe_73 (by decide) ?_
    exact ih (k + 1) _ _ _ _ _ (by omega) hI2 (by rw [passF_k hx]; exact hx)
theorem L10_ripe {d : Nat} {T : TV} {np nb nn : Nat} {s0 : Nat → Int32} {A0 : Nat → Nat → Int32} {M0 : Nat → MR} (hR0 : RT A0 T np nb nn) (hT : WT T np nb nn) {V : CV} (hC : CR False np nb nn (M0 0) V) (h48 : s0 48 = 0) {b : Nat} {w : Int32} (hb : b < nb) : ∀ (g k : Nat) (X : CV) (s : Nat → Int32) (A : Nat → Nat → Int32) (L : LL) (M : Nat → MR), k + g = 100 → IV False np nb nn 1 s0 A0 M0 s A M X → J m10_ripe (d + 6) 0 0 40 34 [(0, .ref 0), (1, .int (nI b)), (2, .int w), (3, .int (nI k))] [] (modW s A L M) 0 0 (mR s0 A0 M0 (.int (rpL T nb nn b w g k X))) := by
  have hnb := hT.2.2.2.2.1
  have hnp := hT.2.2.2.1
  have hnn := hT.2.2.2.2.2.1
  intro g
  induction g with
  | zero =>
    intro k X s A L M hk hI
    refine J_iload_n (pc := 34) D10_ripe_34 rfl ?_
    refine J_bipush (pc := 35) (v := (nI 99)) D10_ripe_35 (by decide) ?_
    refine J_icmp_gt (pc := 37) (tgt := 76) D10_ripe_37 (by decide) (fun h37 => ?_) (fun h37 => absurd (nI_lt (by omega) (by omega)) h37)
    refine J_bipush (pc := 76) (v := (-2)) D10_ripe_76 (by decide) ?_
    refine J_iret (pc := 78) D10_ripe_78 rfl ?_
    exact ⟨rfl, s, A, L, M, rfl, PX.sc hI.1 hI.2.1⟩
  | succ g ih =>
    intro k X s A L M hk hI
    have hR := hI.1.rt hR0
    have ely := hI.2.2.ly hb
    have e1 := (hI.2.2.2.2.2.1 b hb).2.1
    refine J_iload_n (pc := 34) D10_ripe_34 rfl ?_
    refine J_bipush (pc := 35) (v := (nI 99)) D10_ripe_35 (by decide) ?_
    refine J_icmp_gt (pc := 37) (tgt := 76) D10_ripe_37 (by decide) (fun h37 => absurd h37 (Int32.not_lt.mpr (nI_le (by omega) (by omega)))) (fun h37 => ?_)
    refine J_aload_n (pc := 40) D10_ripe_40 rfl ?_
    refine J_iconst (pc := 41) (v := (nI 1)) D10_ripe_41 (by decide) ?_
    refine J_iload_n (pc := 42) D10_ripe_42 rfl ?_
    refine J_callVTR (pc := 43) (ac := [.int _, .int _]) D10_ripe_43 m10_isLying_v t1583 (c10_isLying (d := d + 5) (c := 1) (b := b) (by decide) (by omega)) (by omega) rfl rfl rfl rfl (fun _ => rfl) rfl rfl rfl ?_
    refine J_if_eq (pc := 46) (tgt := 64) D10_ripe_46 (by decide) (fun h46 => ?_) (fun h46 => ?_)
    · have h46' := eq_true h46
      replace h46 := i01_z h46
      refine J_aload_n (pc := 64) D10_ripe_64 rfl ?_
      refine J_iconst (pc := 65) (v := (nI 1)) D10_ripe_65 (by decide) ?_
      refine J_iconst (pc := 66) (v := (nI 0)) D10_ripe_66 (by decide) ?_
      refine J_callVT (pc := 67) (ac := [.int _, .int _]) D10_ripe_67 m10_passes_v t1671 (c10_passes (d := d) hR hT (c := 1) (by decide) hI.2.2 (RY.y1 (by rw [hI.1.1 48 (by decide)]; exact h48))) (by omega) rfl rfl rfl rfl rfl rfl rfl (fun r w' hq hl => ?_)
      obtain ⟨rfl, s2, A2, L2, M2, rfl, hs2, hM2, hC2⟩ := hq
      have hR2 := hs2.rt hR
      have hI2 := hI.go hs2 hM2 hC2
      have hC0 : CR False np nb nn (M2 0) V := by rw [hI2.2.1 0 (by decide)]; exact hC
      refine J_iinc (pc := 70) D10_ripe_70 rfl (nI_inc _) rfl ?_
      refine J_goto (pc := 73) (tgt := 34) D10_ripe_73 (by decide) ?_
      rw [rpL, if_neg (fun q => h46 (ely.mpr q))]
      exact L10_ripeN hR0 hT hC h48 hb g (k + 1) _ _ _ _ _ (by omega) hI2 (by rw [passF_k (fun q => h46 (ely.mpr q))]; exact fun q => h46 (ely.mpr q))
    · replace h46 := i01_nz h46
      refine J_aload_n (pc := 49) D10_ripe_49 rfl ?_
      refine J_getf (pc := 50) D10_ripe_50 fl10_87 rfl rfl ?_
      refine J_bipush (pc := 53) (v := (nI 10)) D10_ripe_53 (by decide) ?_
      refine J_iload_n (pc := 55) D10_ripe_55 rfl ?_
      refine J_iadd (pc := 56) D10_ripe_56 ?_
      refine J_mcld (pc := 57) (stp := 10) D10_ripe_57 mc_1 (ix1 _ _) (by omega) (by omega) rfl ?_
      refine J_iload_n (pc := 58) D10_ripe_58 rfl ?_
      refine J_icmp_lt (pc := 59) (tgt := 64) D10_ripe_59 (by decide) (fun h59 => ?_) (fun h59 => ?_)
      · have h59' := Int32.not_le.mpr h59
        refine J_aload_n (pc := 64) D10_ripe_64 rfl ?_
        refine J_iconst (pc := 65) (v := (nI 1)) D10_ripe_65 (by decide) ?_
        refine J_iconst (pc := 66) (v := (nI 0)) D10_ripe_66 (by decide) ?_
        refine J_callVT (pc := 67) (ac := [.int _, .int _]) D10_ripe_67 m10_passes_v t1671 (c10_passes (d := d) hR hT (c := 1) (by decide) hI.2.2 (RY.y1 (by rw [hI.1.1 48 (by decide)]; exact h48))) (by omega) rfl rfl rfl rfl rfl rfl rfl (fun r w' hq hl => ?_)
        obtain ⟨rfl, s2, A2, L2, M2, rfl, hs2, hM2, hC2⟩ := hq
        have hR2 := hs2.rt hR
        have hI2 := hI.go hs2 hM2 hC2
        have hC0 : CR False np nb nn (M2 0) V := by rw [hI2.2.1 0 (by decide)]; exact hC
        refine J_iinc (pc := 70) D10_ripe_70 rfl (nI_inc _) rfl ?_
        refine J_goto (pc := 73) (tgt := 34) D10_ripe_73 (by decide) ?_
        rw [rpL, if_pos (ely.mp h46), if_neg (Int32.not_le.mpr (e1 ▸ h59))]
        exact ih (k + 1) _ _ _ _ _ (by omega) hI2
      · have h59' := Int32.not_lt.mp h59
        refine J_iload_n (pc := 62) D10_ripe_62 rfl ?_
        refine J_iret (pc := 63) D10_ripe_63 rfl ?_
        exact ⟨congrArg (fun q => some (Value.int q)) (by rw [rpL, if_pos (ely.mp h46), if_pos (Int32.not_lt.mp (e1 ▸ h59))]), s, A, L, M, rfl, PX.sc hI.1 hI.2.1⟩
theorem c10_ripe {d : Nat} {s : Nat → Int32} {A : Nat → Nat → Int32} {L : LL} {M : Nat → MR} {T : TV} {np nb nn : Nat} (hR : RT A T np nb nn) (hT : WT T np nb nn) {V : CV} (hC : CR False np nb nn (M 0) V) (h48 : s 48 = 0) {b w : Int32} : Tr (d + 6) 0 0 m10_ripe [.ref 0, .int b, .int w] (modW s A L M) (mR s A M (.int (ripF T V nb nn b w))) := by
  have hnb := hT.2.2.2.2.1
  have hnp := hT.2.2.2.1
  have hnn := hT.2.2.2.2.2.1
  refine Tr.intro (by decide) rfl ?_
  refine J_aload_n (pc := 0) D10_ripe_0 rfl ?_
  refine J_iconst (pc := 1) (v := (nI 0)) D10_ripe_1 (by decide) ?_
  refine J_mput (pc := 2) D10_ripe_2 fp10_139 ms_0 ?_
  refine J_aload_n (pc := 5) D10_ripe_5 rfl ?_
  refine J_iload_n (pc := 6) D10_ripe_6 rfl ?_
  refine J_callVTR (pc := 7) (ac := [.int _]) D10_ripe_7 m10_isBottle_v t1567 (c10_isBottle (d := d) hR) (by omega) rfl rfl rfl rfl (fun _ => rfl) rfl rfl rfl ?_
  refine J_if_eq (pc := 10) (tgt := 24) D10_ripe_10 (by decide) (fun h10 => ?_) (fun h10 => ?_)
  · have h10' := eq_true h10
    replace h10 := i01_z h10
    refine J_iconst (pc := 24) (v := (-1)) D10_ripe_24 (by decide) ?_
    refine J_iret (pc := 25) D10_ripe_25 rfl ?_
    exact ⟨congrArg (fun q => some (Value.int q)) (by rw [ripF, if_neg (fun q => h10 q.1)]), _, _, _, _, rfl, PX.s0⟩
  · replace h10 := i01_nz h10
    obtain ⟨b1, hb1, rfl⟩ := ixB_t h10 (by omega)
    refine J_iload_n (pc := 13) D10_ripe_13 rfl ?_
    refine J_if_lt (pc := 14) (tgt := 24) D10_ripe_14 (by decide) (fun h14 => ?_) (fun h14 => ?_)
    · have h14' := Int32.not_le.mpr h14
      refine J_iconst (pc := 24) (v := (-1)) D10_ripe_24 (by decide) ?_
      refine J_iret (pc := 25) D10_ripe_25 rfl ?_
      exact ⟨congrArg (fun q => some (Value.int q)) (by rw [ripF, if_neg (fun q => ixB_0 h14 q.2)]), _, _, _, _, rfl, PX.s0⟩
    · have h14' := Int32.not_lt.mp h14
      refine J_iload_n (pc := 17) D10_ripe_17 rfl ?_
      refine J_sipush (pc := 18) (v := (nI 199)) D10_ripe_18 (by decide) ?_
      refine J_icmp_le (pc := 21) (tgt := 26) D10_ripe_21 (by decide) (fun h21 => ?_) (fun h21 => ?_)
      · have h21' := Int32.not_lt.mpr h21
        refine J_aload_n (pc := 26) D10_ripe_26 rfl ?_
        refine J_iconst (pc := 27) (v := (nI 1)) D10_ripe_27 (by decide) ?_
        refine J_iconst (pc := 28) (v := (nI 0)) D10_ripe_28 (by decide) ?_
        refine J_callVT (pc := 29) (ac := [.int _, .int _]) D10_ripe_29 m10_copies_v t1655 (c10_copies (d := d + 5) (t := 1) (a := 0) (by decide) (by decide) (by decide)) (by omega) rfl rfl rfl rfl rfl rfl rfl (fun r w' hq hl => ?_)
        obtain ⟨rfl, M1, rfl, hM1, hE1⟩ := hq
        have hC1 := hC.eqR hE1 hnp hnb
        have hC01 : CR False np nb nn (M1 0) V := by rw [hM1 0 (by decide)]; exact hC
        refine J_iconst (pc := 32) (v := (nI 0)) D10_ripe_32 (by decide) ?_
        refine J_istore_n (pc := 33) D10_ripe_33 rfl ?_
        rw [ripF, if_pos ⟨h10, ixB_in (n := 199) (by decide) h14 h21⟩, nI_clamp (by omega)]
        exact J_mono (L10_ripe (s0 := updI s 0 (nI 0)) hR hT hC h48 hb1 100 0 V (updI s 0 (nI 0)) A L M1 (by omega) ⟨SC.rf, hM1, hC1⟩) (mR.tr PX.s0)
      · have h21' := Int32.not_le.mp h21
        refine J_iconst (pc := 24) (v := (-1)) D10_ripe_24 (by decide) ?_
        refine J_iret (pc := 25) D10_ripe_25 rfl ?_
        exact ⟨congrArg (fun q => some (Value.int q)) (by rw [ripF, if_neg (fun q => ixB_gt (n := 199) (by decide) (Int32.not_le.mp h21) q.2)]), _, _, _, _, rfl, PX.s0⟩
