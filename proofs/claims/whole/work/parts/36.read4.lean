/-! READER: a line, a text (own; walks by program wk.py) -/
def lwJ (K : TK) (C : RC) : Nat := (K.2.2.2.1 C.1 - nI 6).toNatClampNeg
def lawR2 (K : TK) (j : Nat) (R : RS) : RS := (R.1, (R.2.1.1, R.2.1.2), (R.2.2.1.1, R.2.2.1.2.1, R.2.2.1.2.2), (R.2.2.2.1.1, R.2.2.2.1.2), (R.2.2.2.2.1.1, R.2.2.2.2.1.2), R.2.2.2.2.2.1, upA R.2.2.2.2.2.2 1 (upd (R.2.2.2.2.2.2 1) j (nI R.2.2.2.2.1.1)))
def lawR1 (K : TK) (j : Nat) (C : RC) (R : RS) : RS := RL K 63 0 0 (C, (R.2.1.1, R.2.1.2), (R.2.2.1.1, R.2.2.1.2.1, R.2.2.1.2.2), (R.2.2.2.1.1, R.2.2.2.1.2), (R.2.2.2.2.1.1, R.2.2.2.2.1.2), R.2.2.2.2.2.1, upA R.2.2.2.2.2.2 0 (upd (R.2.2.2.2.2.2 0) j (nI R.2.2.2.2.1.1)))
def lawR (K : TK) (R : RS) : RS :=
  if nI 6 ≤ K.2.2.2.1 (stepC K R.1).1 ∧ K.2.2.2.1 (stepC K R.1).1 ≤ nI 8 then
    (if R.2.2.2.2.2.2 0 (lwJ K (stepC K R.1)) = -1 then lawR2 K (lwJ K (stepC K R.1)) (lawR1 K (lwJ K (stepC K R.1)) (stepC K (stepC K R.1)) R)
     else (refC K (nI 3) (stepC K R.1), R.2))
  else (refC K (nI 1) (stepC K R.1), R.2)
theorem am68 {x : Int32} (h : nI 6 ≤ x ∧ x ≤ nI 8) : ∃ j, j < 3 ∧ x - nI 6 = nI j := by
  obtain ⟨j, hj, rfl⟩ := nI_of2 (M := nI 8) (n := 8) rfl (Int32.not_lt.mpr (Int32.le_trans (show (0 : Int32) ≤ nI 6 by decide) h.1)) h.2
  have h6 := (nI_leI (by omega) (by omega)).mp h.1
  exact ⟨j - 6, by omega, pk_sub h6⟩
theorem c2_readLaw {d n : Nat} {K : TK} {R : RS} (hK : KI K n) (hI : RI n R) : Tr (d + 131) 0 0 m2_readLaw [.ref 0] (rdrW K R) (rQ K (lawR K R)) := by
  refine Tr.intro (by decide) rfl ?_
  refine J_aload_n (pc := 0) D2_readLaw_0 rfl ?_
  refine J_callVT (pc := 1) (ac := []) D2_readLaw_1 m2_step_v t600 (c2_step (d := d + 129) hK hI) (by omega) rfl rfl rfl rfl rfl rfl rfl (fun r w' hq hl => ?_)
  obtain ⟨rfl, rfl⟩ := hq
  obtain ⟨C1, eC1⟩ : ∃ x, stepC K R.1 = x := ⟨_, rfl⟩
  refine J_w (w2 := rdrW K (C1, R.2)) (by subst eC1; rfl) ?_
  have hC1 : C1.1 ≤ n := by rw [← eC1]; exact stepC_le hK hI.1
  have hI1 := hI.core hC1
  refine J_aload_n (pc := 4) D2_readLaw_4 rfl ?_
  refine J_callVTR (pc := 5) (ac := []) D2_readLaw_5 m2_kind_v t584 (c2_kind (d := d + 130) hK hI1) (by omega) rfl rfl rfl rfl (fun _ => rfl) rfl rfl rfl ?_
  refine J_bipush (pc := 8) (v := (nI 6)) D2_readLaw_8 (by decide) ?_
  refine J_bipush (pc := 10) (v := (nI 8)) D2_readLaw_10 (by decide) ?_
  refine J_callSNR (pc := 12) (ι := []) (ac := [.int _, .int _, .int _]) (host := "TemperCellar") D2_readLaw_12 m9_isAmong_s (by decide) (c9_isAmong (d := d + 130)) (by omega) ⟨rfl, rfl⟩ rfl rfl (fun _ => rfl) rfl rfl rfl ?_
  refine J_if_ne (pc := 15) (tgt := 24) D2_readLaw_15 (by decide) (fun h15 => ?_) (fun h15 => ?_)
  · replace h15 := i01_nz h15
    obtain ⟨j, hj, ej⟩ := am68 h15
    have ejn : lwJ K C1 = j := by rw [lwJ, ej, nI_clamp (by omega)]
    refine J_aload_n (pc := 24) D2_readLaw_24 rfl ?_
    refine J_callVTR (pc := 25) (ac := []) D2_readLaw_25 m2_kind_v t584 (c2_kind (d := d + 130) hK hI1) (by omega) rfl rfl rfl rfl (fun _ => rfl) rfl rfl rfl ?_
    refine J_bipush (pc := 28) (v := (nI 6)) D2_readLaw_28 (by decide) ?_
    refine J_isub (pc := 30) D2_readLaw_30 ?_
    refine J_st [.int (nI j)] (by rw [← ej]; try rfl) ?_
    refine J_istore_n (pc := 31) D2_readLaw_31 rfl ?_
    refine J_aload_n (pc := 32) D2_readLaw_32 rfl ?_
    refine J_getf (pc := 33) D2_readLaw_33 fl2_19 rfl rfl ?_
    refine J_getf (pc := 36) D2_readLaw_36 fl2_162 rfl rfl ?_
    refine J_iload_n (pc := 39) D2_readLaw_39 rfl ?_
    refine J_callVR (pc := 40) (ι := [19, 20, 21, 22, 23]) (ac := [.int _]) D2_readLaw_40 m1_isTold_v t659 (c1_isTold (d := d + 130) (k := j) (s := (tvR R).2.2.1) (a := (tvR R).2.2.2) hj) (by omega) rfl rfl ⟨rfl, rfl⟩ rfl rfl (fun _ => rfl) rfl rfl rfl ?_
    refine J_if_eq (pc := 43) (tgt := 52) D2_readLaw_43 (by decide) (fun h43 => ?_) (fun h43 => ?_)
    · have h43' := eq_true h43
      have h43b : R.2.2.2.2.2.2 0 j = -1 := Decidable.not_not.mp (i01_z h43)
      refine J_aload_n (pc := 52) D2_readLaw_52 rfl ?_
      refine J_callVT (pc := 53) (ac := []) D2_readLaw_53 m2_step_v t600 (c2_step (d := d + 129) hK hI1) (by omega) rfl rfl rfl rfl rfl rfl rfl (fun r w' hq hl => ?_)
      obtain ⟨rfl, rfl⟩ := hq
      obtain ⟨C2, eC2⟩ : ∃ x, stepC K C1 = x := ⟨_, rfl⟩
      refine J_w (w2 := rdrW K (C2, R.2)) (by subst eC2; rfl) ?_
      have hC2 : C2.1 ≤ n := by rw [← eC2]; exact stepC_le hK hC1
      refine J_aload_n (pc := 56) D2_readLaw_56 rfl ?_
      refine J_getf (pc := 57) D2_readLaw_57 fl2_19 rfl rfl ?_
      refine J_getf (pc := 60) D2_readLaw_60 fl2_162 rfl rfl ?_
      refine J_getf (pc := 63) D2_readLaw_63 fl2_172 rfl rfl ?_
      refine J_iload_n (pc := 66) D2_readLaw_66 rfl ?_
      refine J_aload_n (pc := 67) D2_readLaw_67 rfl ?_
      refine J_getf (pc := 68) D2_readLaw_68 fl2_19 rfl rfl ?_
      refine J_getf (pc := 71) D2_readLaw_71 fl2_162 rfl rfl ?_
      refine J_getf (pc := 74) D2_readLaw_74 fl2_175 rfl rfl ?_
      refine J_iast (pc := 77) D2_readLaw_77 rfl rfl (by omega) rfl ?_
      refine J_w (w2 := rdrW K (C2, (R.2.1.1, R.2.1.2), (R.2.2.1.1, R.2.2.1.2.1, R.2.2.1.2.2), (R.2.2.2.1.1, R.2.2.2.1.2), (R.2.2.2.2.1.1, R.2.2.2.2.1.2), R.2.2.2.2.2.1, upA R.2.2.2.2.2.2 0 (upd (R.2.2.2.2.2.2 0) j (nI R.2.2.2.2.1.1)))) rfl ?_
      refine J_aload_n (pc := 78) D2_readLaw_78 rfl ?_
      refine J_iconst (pc := 79) (v := (nI 0)) D2_readLaw_79 (by decide) ?_
      refine J_iconst (pc := 80) (v := (nI 0)) D2_readLaw_80 (by decide) ?_
      refine J_callVT (pc := 81) (ac := [.int _, .int _]) D2_readLaw_81 m2_readLevel_v t663 (c2_readLevel hK d 63 0 0 (C2, (R.2.1.1, R.2.1.2), (R.2.2.1.1, R.2.2.1.2.1, R.2.2.1.2.2), (R.2.2.2.1.1, R.2.2.2.1.2), (R.2.2.2.2.1.1, R.2.2.2.2.1.2), R.2.2.2.2.2.1, upA R.2.2.2.2.2.2 0 (upd (R.2.2.2.2.2.2 0) j (nI R.2.2.2.2.1.1))) ⟨hC2, hI.2⟩ (fun _ => ⟨by omega, by omega, by omega⟩)) (by omega) rfl rfl rfl rfl rfl rfl rfl (fun r w' hq hl => ?_)
      obtain ⟨rfl, rfl⟩ := hq
      obtain ⟨R3, eR3⟩ : ∃ x, lawR1 K j C2 R = x := ⟨_, rfl⟩
      refine J_w (w2 := rdrW K R3) (by subst eR3; rfl) ?_
      refine J_aload_n (pc := 84) D2_readLaw_84 rfl ?_
      refine J_getf (pc := 85) D2_readLaw_85 fl2_19 rfl rfl ?_
      refine J_getf (pc := 88) D2_readLaw_88 fl2_162 rfl rfl ?_
      refine J_getf (pc := 91) D2_readLaw_91 fl2_182 rfl rfl ?_
      refine J_iload_n (pc := 94) D2_readLaw_94 rfl ?_
      refine J_aload_n (pc := 95) D2_readLaw_95 rfl ?_
      refine J_getf (pc := 96) D2_readLaw_96 fl2_19 rfl rfl ?_
      refine J_getf (pc := 99) D2_readLaw_99 fl2_162 rfl rfl ?_
      refine J_getf (pc := 102) D2_readLaw_102 fl2_175 rfl rfl ?_
      refine J_iast (pc := 105) D2_readLaw_105 rfl rfl (by omega) rfl ?_
      refine J_vret (pc := 106) D2_readLaw_106 rfl ?_
      refine ⟨rfl, ?_⟩
      rw [lawR, eC1, if_pos h15, ejn, if_pos h43b, eC2, eR3]
      try rfl
    · have h43b : ¬ R.2.2.2.2.2.2 0 j = -1 := i01_nz h43
      refine J_aload_n (pc := 46) D2_readLaw_46 rfl ?_
      refine J_iconst (pc := 47) (v := (nI 3)) D2_readLaw_47 (by decide) ?_
      refine J_callVT (pc := 48) (ac := [.int _]) D2_readLaw_48 m2_refuse_v t596 (c2_refuse (d := d + 130) hK hI1) (by omega) rfl rfl rfl rfl rfl rfl rfl (fun r w' hq hl => ?_)
      obtain ⟨rfl, rfl⟩ := hq
      refine J_vret (pc := 51) D2_readLaw_51 rfl ?_
      refine ⟨rfl, ?_⟩
      rw [lawR, eC1, if_pos h15, ejn, if_neg h43b]
      try rfl
  · have h15' := eq_true h15
    replace h15 := i01_z h15
    refine J_aload_n (pc := 18) D2_readLaw_18 rfl ?_
    refine J_iconst (pc := 19) (v := (nI 1)) D2_readLaw_19 (by decide) ?_
    refine J_callVT (pc := 20) (ac := [.int _]) D2_readLaw_20 m2_refuse_v t596 (c2_refuse (d := d + 130) hK hI1) (by omega) rfl rfl rfl rfl rfl rfl rfl (fun r w' hq hl => ?_)
    obtain ⟨rfl, rfl⟩ := hq
    refine J_vret (pc := 23) D2_readLaw_23 rfl ?_
    refine ⟨rfl, ?_⟩
    rw [lawR, eC1, if_neg h15]
    try rfl
def linR1 (K : TK) (R : RS) : RS := if K.2.2.2.1 R.1.1 = nI 0 then manR K R else if K.2.2.2.1 R.1.1 = nI 1 then botR K R else if K.2.2.2.1 R.1.1 = nI 2 then needR K R else if K.2.2.2.1 R.1.1 = nI 3 then thuR K R else if K.2.2.2.1 R.1.1 = nI 4 then seeR K R else if K.2.2.2.1 R.1.1 = nI 5 then lawR K R else (refC K (nI 1) R.1, R.2)
def linR (K : TK) (R : RS) : RS := paC K (nI 31) (linR1 K R)
theorem manR_I {n : Nat} {K : TK} {R : RS} (hK : KI K n) (h : RI n R) : RI n (manR K R) := by
  unfold manR
  split
  · next q =>
    have key : ∀ (C : RC) (A : Nat → Nat → Int32), C.1 ≤ n → RI n (C, (R.2.1.1, R.2.1.2), (R.2.2.1.1 + 1, R.2.2.1.2.1, R.2.2.1.2.2), (R.2.2.2.1.1, R.2.2.2.1.2), (R.2.2.2.2.1.1, R.2.2.2.2.1.2), A, R.2.2.2.2.2.2) := fun C A hC => ⟨hC, by show R.2.2.1.1 + 1 ≤ 5; omega, h.2.2⟩
    refine key _ _ ?_
    exact numC_le hK (newC_le hK (stepC_le hK h.1))
  · exact h.ref
theorem botR_I {n : Nat} {K : TK} {R : RS} (hK : KI K n) (h : RI n R) : RI n (botR K R) := by
  unfold botR
  split
  · next q =>
    have key : ∀ (C : RC) (A : Nat → Nat → Int32), C.1 ≤ n → RI n (C, (R.2.1.1, R.2.1.2), (R.2.2.1.1, R.2.2.1.2.1 + 1, R.2.2.1.2.2), (R.2.2.2.1.1, R.2.2.2.1.2), (R.2.2.2.2.1.1, R.2.2.2.2.1.2), A, R.2.2.2.2.2.2) := fun C A hC => ⟨hC, h.2.1, by show R.2.2.1.2.1 + 1 ≤ 10; omega, h.2.2.2⟩
    refine key _ _ ?_
    exact numC_le hK (numC_le hK (numC_le hK (perC_le hK (perC_le hK (newC_le hK (stepC_le hK h.1))))))
  · exact h.ref
theorem needR_I {n : Nat} {K : TK} {R : RS} (hK : KI K n) (h : RI n R) : RI n (needR K R) := by
  unfold needR
  split
  · next q =>
    have key : ∀ (C : RC) (A : Nat → Nat → Int32), C.1 ≤ n → RI n (C, (R.2.1.1, R.2.1.2), (R.2.2.1.1, R.2.2.1.2.1, R.2.2.1.2.2 + 1), (R.2.2.2.1.1, R.2.2.2.1.2), (R.2.2.2.2.1.1, R.2.2.2.2.1.2), A, R.2.2.2.2.2.2) := fun C A hC => ⟨hC, h.2.1, h.2.2.1, by show R.2.2.1.2.2 + 1 ≤ 8; omega, h.2.2.2.2⟩
    refine key _ _ ?_
    exact numC_le hK (numC_le hK (numC_le hK (perC_le hK (stepC_le hK h.1))))
  · exact h.ref
theorem thuR_I {n : Nat} {K : TK} {R : RS} (hK : KI K n) (h : RI n R) : RI n (thuR K R) := by
  unfold thuR
  split
  · exact ⟨numC_le hK (stepC_le hK h.1), h.2⟩
  · exact h.ref
theorem seeR_I {n : Nat} {K : TK} {R : RS} (hK : KI K n) (h : RI n R) : RI n (seeR K R) := by
  unfold seeR
  split
  · exact ⟨numC_le hK (stepC_le hK h.1), h.2⟩
  · exact h.ref
theorem lawR_I {n : Nat} {K : TK} {R : RS} (hK : KI K n) (h : RI n R) : RI n (lawR K R) := by
  unfold lawR
  split
  · split
    · have key : ∀ (j : Nat) (R : RS), RI n R → RI n (lawR2 K j R) := fun j R h => ⟨h.1, h.2⟩
      refine key _ _ (RL_I hK 63 0 0 _ ?_)
      have k2 : ∀ (C : RC) (B : Nat → Nat → Int32), C.1 ≤ n → RI n (C, (R.2.1.1, R.2.1.2), (R.2.2.1.1, R.2.2.1.2.1, R.2.2.1.2.2), (R.2.2.2.1.1, R.2.2.2.1.2), (R.2.2.2.2.1.1, R.2.2.2.2.1.2), R.2.2.2.2.2.1, B) := fun C B hC => ⟨hC, h.2⟩
      exact k2 _ _ (stepC_le hK (stepC_le hK h.1))
    · exact (h.core (stepC_le hK h.1)).ref
  · exact (h.core (stepC_le hK h.1)).ref
theorem linR1_I {n : Nat} {K : TK} {R : RS} (hK : KI K n) (h : RI n R) : RI n (linR1 K R) := by
  unfold linR1
  split; · exact manR_I hK h
  split; · exact botR_I hK h
  split; · exact needR_I hK h
  split; · exact thuR_I hK h
  split; · exact seeR_I hK h
  split; · exact lawR_I hK h
  exact h.ref
theorem linR_I {n : Nat} {K : TK} {R : RS} (hK : KI K n) (h : RI n R) : RI n (linR K R) := paC_I hK (linR1_I hK h)
theorem L2_line91 {d n : Nat} {K : TK} {R : RS} (hK : KI K n) (hI : RI n R) : J m2_readLine (d + 132) 0 0 24 91 [(0, .ref 0)] [] (rdrW K R) 0 0 (rQ K (paC K (nI 31) R)) := by
  refine J_aload_n (pc := 91) D2_readLine_91 rfl ?_
  refine J_bipush (pc := 92) (v := (nI 31)) D2_readLine_92 (by decide) ?_
  refine J_callVT (pc := 94) (ac := [.int _]) D2_readLine_94 m2_take_v t619 (c2_take (d := d + 129) hK hI) (by omega) rfl rfl rfl rfl rfl rfl rfl (fun r w' hq hl => ?_)
  obtain ⟨rfl, rfl⟩ := hq
  refine J_vret (pc := 97) D2_readLine_97 rfl ?_
  exact ⟨rfl, rfl⟩
theorem c2_readLine {d n : Nat} {K : TK} {R : RS} (hK : KI K n) (hI : RI n R) : Tr (d + 132) 0 0 m2_readLine [.ref 0] (rdrW K R) (rQ K (linR K R)) := by
  refine Tr.intro (by decide) rfl ?_
  refine J_aload_n (pc := 0) D2_readLine_0 rfl ?_
  refine J_callVTR (pc := 1) (ac := []) D2_readLine_1 m2_kind_v t584 (c2_kind (d := d + 131) hK hI) (by omega) rfl rfl rfl rfl (fun _ => rfl) rfl rfl rfl ?_
  refine J_tsw (pc := 4) 0 [44, 51, 58, 65, 72, 79] 86 D2_readLine_4 (by decide) (by decide) rfl (by decide) (by decide) (fun j hj h4 => ?_) (fun h4 => ?_)
  · have hj4 : j = 0 ∨ j = 1 ∨ j = 2 ∨ j = 3 ∨ j = 4 ∨ j = 5 := by have hj2 : j < 6 := hj; omega
    clear hj
    rcases hj4 with rfl | rfl | rfl | rfl | rfl | rfl
    · refine J_aload_n (pc := 44) D2_readLine_44 rfl ?_
      refine J_callVT (pc := 45) (ac := []) D2_readLine_45 m2_readMan_v t592 (c2_readMan (d := d + 127) hK hI) (by omega) rfl rfl rfl rfl rfl rfl rfl (fun r w' hq hl => ?_)
      obtain ⟨rfl, rfl⟩ := hq
      refine J_goto (pc := 48) (tgt := 91) D2_readLine_48 (by decide) ?_
      have e : linR K R = paC K (nI 31) (manR K R) := by rw [linR, linR1, if_pos h4]
      rw [e]
      exact L2_line91 hK (manR_I hK hI)
    · refine J_aload_n (pc := 51) D2_readLine_51 rfl ?_
      refine J_callVT (pc := 52) (ac := []) D2_readLine_52 m2_readBottle_v t630 (c2_readBottle (d := d + 127) hK hI) (by omega) rfl rfl rfl rfl rfl rfl rfl (fun r w' hq hl => ?_)
      obtain ⟨rfl, rfl⟩ := hq
      refine J_goto (pc := 55) (tgt := 91) D2_readLine_55 (by decide) ?_
      have e : linR K R = paC K (nI 31) (botR K R) := by rw [linR, linR1, if_neg (by rw [h4]; decide), if_pos h4]
      rw [e]
      exact L2_line91 hK (botR_I hK hI)
    · refine J_aload_n (pc := 58) D2_readLine_58 rfl ?_
      refine J_callVT (pc := 59) (ac := []) D2_readLine_59 m2_readNeed_v t642 (c2_readNeed (d := d + 127) hK hI) (by omega) rfl rfl rfl rfl rfl rfl rfl (fun r w' hq hl => ?_)
      obtain ⟨rfl, rfl⟩ := hq
      refine J_goto (pc := 62) (tgt := 91) D2_readLine_62 (by decide) ?_
      have e : linR K R = paC K (nI 31) (needR K R) := by rw [linR, linR1, if_neg (by rw [h4]; decide), if_neg (by rw [h4]; decide), if_pos h4]
      rw [e]
      exact L2_line91 hK (needR_I hK hI)
    · refine J_aload_n (pc := 65) D2_readLine_65 rfl ?_
      refine J_callVT (pc := 66) (ac := []) D2_readLine_66 m2_readThunder_v t646 (c2_readThunder (d := d + 127) hK hI) (by omega) rfl rfl rfl rfl rfl rfl rfl (fun r w' hq hl => ?_)
      obtain ⟨rfl, rfl⟩ := hq
      refine J_goto (pc := 69) (tgt := 91) D2_readLine_69 (by decide) ?_
      have e : linR K R = paC K (nI 31) (thuR K R) := by rw [linR, linR1, if_neg (by rw [h4]; decide), if_neg (by rw [h4]; decide), if_neg (by rw [h4]; decide), if_pos h4]
      rw [e]
      exact L2_line91 hK (thuR_I hK hI)
    · refine J_aload_n (pc := 72) D2_readLine_72 rfl ?_
      refine J_callVT (pc := 73) (ac := []) D2_readLine_73 m2_readSeed_v t650 (c2_readSeed (d := d + 127) hK hI) (by omega) rfl rfl rfl rfl rfl rfl rfl (fun r w' hq hl => ?_)
      obtain ⟨rfl, rfl⟩ := hq
      refine J_goto (pc := 76) (tgt := 91) D2_readLine_76 (by decide) ?_
      have e : linR K R = paC K (nI 31) (seeR K R) := by rw [linR, linR1, if_neg (by rw [h4]; decide), if_neg (by rw [h4]; decide), if_neg (by rw [h4]; decide), if_neg (by rw [h4]; decide), if_pos h4]
      rw [e]
      exact L2_line91 hK (seeR_I hK hI)
    · refine J_aload_n (pc := 79) D2_readLine_79 rfl ?_
      refine J_callVT (pc := 80) (ac := []) D2_readLine_80 m2_readLaw_v t655 (c2_readLaw (d := d) hK hI) (by omega) rfl rfl rfl rfl rfl rfl rfl (fun r w' hq hl => ?_)
      obtain ⟨rfl, rfl⟩ := hq
      refine J_goto (pc := 83) (tgt := 91) D2_readLine_83 (by decide) ?_
      have e : linR K R = paC K (nI 31) (lawR K R) := by rw [linR, linR1, if_neg (by rw [h4]; decide), if_neg (by rw [h4]; decide), if_neg (by rw [h4]; decide), if_neg (by rw [h4]; decide), if_neg (by rw [h4]; decide), if_pos h4]
      rw [e]
      exact L2_line91 hK (lawR_I hK hI)
  · refine J_aload_n (pc := 86) D2_readLine_86 rfl ?_
    refine J_iconst (pc := 87) (v := (nI 1)) D2_readLine_87 (by decide) ?_
    refine J_callVT (pc := 88) (ac := [.int _]) D2_readLine_88 m2_refuse_v t596 (c2_refuse (d := d + 131) hK hI) (by omega) rfl rfl rfl rfl rfl rfl rfl (fun r w' hq hl => ?_)
    obtain ⟨rfl, rfl⟩ := hq
    have e : linR K R = paC K (nI 31) (refC K (nI 1) R.1, R.2) := by rw [linR, linR1, if_neg (h4 0 (by decide)), if_neg (h4 1 (by decide)), if_neg (h4 2 (by decide)), if_neg (h4 3 (by decide)), if_neg (h4 4 (by decide)), if_neg (h4 5 (by decide))]
    rw [e]
    exact L2_line91 hK hI.ref
def rdL (K : TK) : Nat → Nat → RS → Nat × RS
  | 0, l, R => (l, R)
  | g + 1, l, R => if R.1.2.1 = 0 ∧ ¬ K.2.2.2.1 R.1.1 = nI 34 then rdL K g (l + 1) (linR K R) else (l, R)
def rdV (X : Nat × RS) : Int32 := if X.2.1.2.1 = 0 then nI X.1 else -1
theorem L2_read72 {d n l : Nat} {K : TK} {R : RS} {t : Value} : J m2_read (d + 133) 0 0 24 72 [(0, .ref 0), (1, .ref 6), (2, .int (nI l))] [] (rdrW K R) 0 0 (rQv K (rdV (l, R)) R) := by
  refine J_aload_n (pc := 72) D2_read_72 rfl ?_
  refine J_getf (pc := 73) D2_read_73 fl2_35 rfl rfl ?_
  refine J_if_ne (pc := 76) (tgt := 83) D2_read_76 (by decide) (fun h76 => ?_) (fun h76 => ?_)
  · refine J_iconst (pc := 83) (v := (-1)) D2_read_83 (by decide) ?_
    refine J_iret (pc := 84) D2_read_84 rfl ?_
    refine ⟨?_, rfl⟩
    rw [rdV, if_neg h76]
    try rfl
  · have h76' := eq_true h76
    refine J_iload_n (pc := 79) D2_read_79 rfl ?_
    refine J_goto (pc := 80) (tgt := 84) D2_read_80 (by decide) ?_
    refine J_iret (pc := 84) D2_read_84 rfl ?_
    refine ⟨?_, rfl⟩
    rw [rdV, if_pos h76]
    try rfl
theorem L2_read39 {d n : Nat} {K : TK} (hK : KI K n) : ∀ (g l : Nat) (R : RS), RI n R → l + g = 700 → J m2_read (d + 133) 0 0 24 39 [(0, .ref 0), (1, .ref 6), (2, .int (nI l))] [] (rdrW K R) 0 0 (rQv K (rdV (rdL K g l R)) (rdL K g l R).2) := by
  intro g
  induction g with
  | zero =>
    intro l R hI hl
    refine J_iload_n (pc := 39) D2_read_39 rfl ?_
    refine J_sipush (pc := 40) (v := (nI 700)) D2_read_40 (by decide) ?_
    refine J_icmp_ge (pc := 43) (tgt := 72) D2_read_43 (by decide) (fun h43 => ?_) (fun h43 => absurd (nI_le (by omega) (by omega)) h43)
    exact L2_read72 (n := n) (t := .null)
  | succ g ih =>
    intro l R hI hl
    refine J_iload_n (pc := 39) D2_read_39 rfl ?_
    refine J_sipush (pc := 40) (v := (nI 700)) D2_read_40 (by decide) ?_
    refine J_icmp_ge (pc := 43) (tgt := 72) D2_read_43 (by decide) (fun h43 => absurd h43 (nI_ge (by omega) (by omega))) (fun h43 => ?_)
    refine J_aload_n (pc := 46) D2_read_46 rfl ?_
    refine J_getf (pc := 47) D2_read_47 fl2_35 rfl rfl ?_
    refine J_if_ne (pc := 50) (tgt := 72) D2_read_50 (by decide) (fun h50 => ?_) (fun h50 => ?_)
    · rw [rdL, if_neg (fun q => h50 q.1)]
      exact L2_read72 (n := n) (t := .null)
    · have h50' := eq_true h50
      refine J_aload_n (pc := 53) D2_read_53 rfl ?_
      refine J_callVTR (pc := 54) (ac := []) D2_read_54 m2_kind_v t584 (c2_kind (d := d + 132) hK hI) (by omega) rfl rfl rfl rfl (fun _ => rfl) rfl rfl rfl ?_
      refine J_bipush (pc := 57) (v := (nI 34)) D2_read_57 (by decide) ?_
      refine J_icmp_eq (pc := 59) (tgt := 72) D2_read_59 (by decide) (fun h59 => ?_) (fun h59 => ?_)
      · have h59' := eq_true h59
        rw [rdL, if_neg (fun q => q.2 h59)]
        exact L2_read72 (n := n) (t := .null)
      · refine J_aload_n (pc := 62) D2_read_62 rfl ?_
        refine J_callVT (pc := 63) (ac := []) D2_read_63 m2_readLine_v t588 (c2_readLine (d := d) hK hI) (by omega) rfl rfl rfl rfl rfl rfl rfl (fun r w' hq hl2 => ?_)
        obtain ⟨rfl, rfl⟩ := hq
        refine J_iinc (pc := 66) D2_read_66 rfl (nI_inc _) rfl ?_
        refine J_goto (pc := 69) (tgt := 39) D2_read_69 (by decide) ?_
        rw [rdL, if_pos ⟨h50, h59⟩]
        exact ih (l + 1) _ (linR_I hK hI) (by omega)
/-- a reader as a text begins -/
def rd0 (T : TV) : RS := ((0, nI 0, -1), (nI 0, nI 0), (0, 0, 0), (nI 0, nI 0), (0, 0), T.2.1, upA (upA T.2.2.2 0 (fun _ => -1)) 1 (fun _ => -1))
def rdrT (K : TK) (t : Value) (i it is fl fp : Int32) (T : TV) : List EC := .inr (2, [.ref 1, .int i, t, .int it, .int is, .int fl, .int fp]) :: .inr (5, [.ref 2, .ref 3, .ref 4, .ref 5, .int (nI K.1), .int (nI K.2.1)]) :: bA 700 K.2.2.1 :: iA 701 K.2.2.2.1 :: iA 701 K.2.2.2.2.1 :: iA 701 K.2.2.2.2.2 :: toldC 6 T
theorem rd0_I {n : Nat} {T : TV} : RI n (rd0 T) := ⟨Nat.zero_le _, Nat.zero_le _, Nat.zero_le _, Nat.zero_le _, Nat.zero_le _, Nat.zero_le _⟩
theorem c2_read {d n : Nat} {K : TK} {t : Value} {i it is fl fp : Int32} {T : TV} (hK : KI K n) : Tr (d + 133) 0 0 m2_read [.ref 0, .ref 6] (rdrT K t i it is fl fp T) (rQv K (rdV (rdL K 700 0 (rd0 T))) (rdL K 700 0 (rd0 T)).2) := by
  refine Tr.intro (by decide) rfl ?_
  refine J_aload_n (pc := 0) D2_read_0 rfl ?_
  refine J_aload_n (pc := 1) D2_read_1 rfl ?_
  refine J_putf (pc := 2) D2_read_2 fp2_19 rfl Fit.obj rfl ?_
  refine J_w (w2 := rdrT K (.ref 6) i it is fl fp T) rfl ?_
  refine J_aload_n (pc := 5) D2_read_5 rfl ?_
  refine J_getf (pc := 6) D2_read_6 fl2_19 rfl rfl ?_
  refine J_callVP (pc := 9) (ι := [6, 7, 8, 9, 10, 11, 12, 13, 14, 15, 16, 17, 18, 19, 20, 21, 22, 23]) (ac := []) D2_read_9 m6_clear_v t579 (c6_clear (d := d) (T := T)) (by omega) rfl rfl ⟨rfl, rfl⟩ rfl rfl rfl rfl rfl (fun r w' hq hl => ?_)
  obtain ⟨rfl, rfl⟩ := hq
  refine ⟨rdrT K (.ref 6) i it is fl fp (clrT T), ⟨rfl, ⟨rfl, rfl⟩, rfl⟩, ?_⟩
  refine J_aload_n (pc := 12) D2_read_12 rfl ?_
  refine J_iconst (pc := 13) (v := (nI 0)) D2_read_13 (by decide) ?_
  refine J_putf (pc := 14) D2_read_14 fp2_28 rfl (Fit.zb (by first | exact Or.inl rfl | exact Or.inr rfl)) rfl ?_
  refine J_aload_n (pc := 17) D2_read_17 rfl ?_
  refine J_iconst (pc := 18) (v := (nI 0)) D2_read_18 (by decide) ?_
  refine J_putf (pc := 19) D2_read_19 fp2_32 rfl (Fit.zb (by first | exact Or.inl rfl | exact Or.inr rfl)) rfl ?_
  refine J_aload_n (pc := 22) D2_read_22 rfl ?_
  refine J_iconst (pc := 23) (v := (nI 0)) D2_read_23 (by decide) ?_
  refine J_putf (pc := 24) D2_read_24 fp2_35 rfl Fit.int rfl ?_
  refine J_aload_n (pc := 27) D2_read_27 rfl ?_
  refine J_iconst (pc := 28) (v := (-1)) D2_read_28 (by decide) ?_
  refine J_putf (pc := 29) D2_read_29 fp2_9 rfl Fit.int rfl ?_
  refine J_aload_n (pc := 32) D2_read_32 rfl ?_
  refine J_iconst (pc := 33) (v := (nI 0)) D2_read_33 (by decide) ?_
  refine J_putf (pc := 34) D2_read_34 fp2_38 rfl Fit.int rfl ?_
  refine J_iconst (pc := 37) (v := (nI 0)) D2_read_37 (by decide) ?_
  refine J_istore_n (pc := 38) D2_read_38 rfl ?_
  refine J_w (w2 := rdrW K (rd0 T)) rfl ?_
  exact L2_read39 hK 700 0 _ rd0_I (by omega)
