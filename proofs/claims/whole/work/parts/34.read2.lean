/-! READER: lines (own; walks by program wk.py) -/
def manR (K : TK) (R : RS) : RS := if R.2.2.1.1 < 5 then ((numC K (nI 0) (nI 9) (newC K (wkI (plL (R.2.2.2.2.2.1 1) (K.2.2.2.2.2 (stepC K R.1).1) R.2.2.1.1 0)) (stepC K R.1))), (R.2.1.1, R.2.1.2), (R.2.2.1.1 + 1, R.2.2.1.2.1, R.2.2.1.2.2), (R.2.2.2.1.1, R.2.2.2.1.2), (R.2.2.2.2.1.1, R.2.2.2.2.1.2), (upA (upA R.2.2.2.2.2.1 1 (upd (R.2.2.2.2.2.1 1) R.2.2.1.1 (K.2.2.2.2.2 (stepC K R.1).1))) 2 (upd (R.2.2.2.2.2.1 2) R.2.2.1.1 (numV K (nI 0) (nI 9) (newC K (wkI (plL (R.2.2.2.2.2.1 1) (K.2.2.2.2.2 (stepC K R.1).1) R.2.2.1.1 0)) (stepC K R.1))))), R.2.2.2.2.2.2) else (refC K (nI 2) R.1, R.2)
theorem c2_readMan {d n : Nat} {K : TK} {R : RS} (hK : KI K n) (hI : RI n R) : Tr (d + 4) 0 0 m2_readMan [.ref 0] (rdrW K R) (rQ K (manR K R)) := by
  refine Tr.intro (by decide) rfl ?_
  refine J_aload_n (pc := 0) D2_readMan_0 rfl ?_
  refine J_getf (pc := 1) D2_readMan_1 fl2_19 rfl rfl ?_
  refine J_getf (pc := 4) D2_readMan_4 fl2_84 rfl rfl ?_
  refine J_istore_n (pc := 7) D2_readMan_7 rfl ?_
  refine J_iload_n (pc := 8) D2_readMan_8 rfl ?_
  refine J_iconst (pc := 9) (v := (nI 5)) D2_readMan_9 (by decide) ?_
  refine J_icmp_lt (pc := 10) (tgt := 19) D2_readMan_10 (by decide) (fun h10 => ?_) (fun h10 => ?_)
  · have h10' := Int32.not_le.mpr h10
    have hlt := (nI_ltI (by have := hI.2.1; omega) (by omega)).mp h10
    refine J_aload_n (pc := 19) D2_readMan_19 rfl ?_
    refine J_callVT (pc := 20) (ac := []) D2_readMan_20 m2_step_v t600 (c2_step (d := d + 2) hK hI) (by omega) rfl rfl rfl rfl rfl rfl rfl (fun r w' hq hl => ?_)
    obtain ⟨rfl, rfl⟩ := hq
    obtain ⟨C1, eC1⟩ : ∃ x, stepC K R.1 = x := ⟨_, rfl⟩
    refine J_w (w2 := rdrW K (C1, R.2)) (by subst eC1; rfl) ?_
    have hC1 : C1.1 ≤ n := by rw [← eC1]; exact stepC_le hK hI.1
    refine J_aload_n (pc := 23) D2_readMan_23 rfl ?_
    refine J_getf (pc := 24) D2_readMan_24 fl2_19 rfl rfl ?_
    refine J_getf (pc := 27) D2_readMan_27 fl2_90 rfl rfl ?_
    refine J_iload_n (pc := 30) D2_readMan_30 rfl ?_
    refine J_aload_n (pc := 31) D2_readMan_31 rfl ?_
    refine J_aload_n (pc := 32) D2_readMan_32 rfl ?_
    refine J_getf (pc := 33) D2_readMan_33 fl2_19 rfl rfl ?_
    refine J_aload_n (pc := 36) D2_readMan_36 rfl ?_
    refine J_callVTR (pc := 37) (ac := []) (rest := [_, _, _, _]) D2_readMan_37 m2_value_v t604 (c2_value (d := d + 3) (R := (C1, R.2)) hK (hI.core hC1)) (by omega) rfl rfl rfl rfl (fun _ => rfl) rfl rfl rfl ?_
    refine J_callVR (pc := 40) (ι := [6, 7, 8, 9, 10, 11, 12, 13, 14, 15, 16, 17, 18, 19, 20, 21, 22, 23]) (ac := [.int _]) (rest := [_, _, _]) D2_readMan_40 m6_personNamed_v t608 (c6_personNamed (d := d + 2) (T := tvR R) (n := R.2.2.1.1) rfl hI.2.1) (by omega) rfl rfl ⟨rfl, rfl⟩ rfl rfl (fun _ => rfl) rfl rfl rfl ?_
    refine J_callVT (pc := 43) (ac := [.int _]) D2_readMan_43 m2_takeNewName_v t615 (c2_takeNewName (d := d) (R := (C1, R.2)) hK (show RI n (C1, R.2) from ⟨hC1, hI.2⟩)) (by omega) rfl rfl rfl rfl rfl rfl rfl (fun r w' hq hl => ?_)
    obtain ⟨rfl, rfl⟩ := hq
    obtain ⟨C2, eC2⟩ : ∃ x, newC K (wkI (plL (R.2.2.2.2.2.1 1) (K.2.2.2.2.2 C1.1) R.2.2.1.1 0)) C1 = x := ⟨_, rfl⟩
    refine J_w (w2 := rdrW K (C2, R.2)) (by subst eC2; rfl) ?_
    have hC2 : C2.1 ≤ n := by rw [← eC2]; exact newC_le hK hC1
    refine J_iast (pc := 46) D2_readMan_46 rfl rfl hlt rfl ?_
    refine J_w (w2 := rdrW K (C2, (R.2.1.1, R.2.1.2), (R.2.2.1.1, R.2.2.1.2.1, R.2.2.1.2.2), (R.2.2.2.1.1, R.2.2.2.1.2), (R.2.2.2.2.1.1, R.2.2.2.2.1.2), (upA R.2.2.2.2.2.1 1 (upd (R.2.2.2.2.2.1 1) R.2.2.1.1 (K.2.2.2.2.2 C1.1))), R.2.2.2.2.2.2)) rfl ?_
    refine J_aload_n (pc := 47) D2_readMan_47 rfl ?_
    refine J_getf (pc := 48) D2_readMan_48 fl2_19 rfl rfl ?_
    refine J_getf (pc := 51) D2_readMan_51 fl2_102 rfl rfl ?_
    refine J_iload_n (pc := 54) D2_readMan_54 rfl ?_
    refine J_aload_n (pc := 55) D2_readMan_55 rfl ?_
    refine J_iconst (pc := 56) (v := (nI 0)) D2_readMan_56 (by decide) ?_
    refine J_bipush (pc := 57) (v := (nI 9)) D2_readMan_57 (by decide) ?_
    refine J_callVT (pc := 59) (ac := [.int _, .int _]) D2_readMan_59 m2_takeNumber_v t623 (c2_takeNumber (d := d) (R := (C2, (R.2.1.1, R.2.1.2), (R.2.2.1.1, R.2.2.1.2.1, R.2.2.1.2.2), (R.2.2.2.1.1, R.2.2.2.1.2), (R.2.2.2.2.1.1, R.2.2.2.2.1.2), (upA R.2.2.2.2.2.1 1 (upd (R.2.2.2.2.2.1 1) R.2.2.1.1 (K.2.2.2.2.2 C1.1))), R.2.2.2.2.2.2)) hK (show RI n (C2, (R.2.1.1, R.2.1.2), (R.2.2.1.1, R.2.2.1.2.1, R.2.2.1.2.2), (R.2.2.2.1.1, R.2.2.2.1.2), (R.2.2.2.2.1.1, R.2.2.2.2.1.2), (upA R.2.2.2.2.2.1 1 (upd (R.2.2.2.2.2.1 1) R.2.2.1.1 (K.2.2.2.2.2 C1.1))), R.2.2.2.2.2.2) from ⟨hC2, hI.2⟩)) (by omega) rfl rfl rfl rfl rfl rfl rfl (fun r w' hq hl => ?_)
    obtain ⟨rfl, rfl⟩ := hq
    obtain ⟨C3, eC3⟩ : ∃ x, numC K (nI 0) (nI 9) C2 = x := ⟨_, rfl⟩
    obtain ⟨v3, ev3⟩ : ∃ x, numV K (nI 0) (nI 9) C2 = x := ⟨_, rfl⟩
    refine J_st [.int v3, .int (nI R.2.2.1.1), .ref 8] (by subst ev3; rfl) ?_
    refine J_w (w2 := rdrW K (C3, (R.2.1.1, R.2.1.2), (R.2.2.1.1, R.2.2.1.2.1, R.2.2.1.2.2), (R.2.2.2.1.1, R.2.2.2.1.2), (R.2.2.2.2.1.1, R.2.2.2.2.1.2), (upA R.2.2.2.2.2.1 1 (upd (R.2.2.2.2.2.1 1) R.2.2.1.1 (K.2.2.2.2.2 C1.1))), R.2.2.2.2.2.2)) (by subst eC3; rfl) ?_
    have hC3 : C3.1 ≤ n := by rw [← eC3]; exact numC_le hK hC2
    refine J_iast (pc := 62) D2_readMan_62 rfl rfl hlt rfl ?_
    refine J_aload_n (pc := 63) D2_readMan_63 rfl ?_
    refine J_getf (pc := 64) D2_readMan_64 fl2_19 rfl rfl ?_
    refine J_dup (pc := 67) D2_readMan_67 rfl ?_
    refine J_getf (pc := 68) D2_readMan_68 fl2_84 rfl rfl ?_
    refine J_iconst (pc := 71) (v := (nI 1)) D2_readMan_71 (by decide) ?_
    refine J_iadd (pc := 72) D2_readMan_72 ?_
    refine J_st [.int (nI (R.2.2.1.1 + 1)), .ref 6] (by rw [← show nI R.2.2.1.1 + nI 1 = nI (R.2.2.1.1 + 1) from nI_1 _]; rfl) ?_
    refine J_putf (pc := 73) D2_readMan_73 fp2_84 rfl Fit.int rfl ?_
    refine J_vret (pc := 76) D2_readMan_76 rfl ?_
    refine ⟨rfl, ?_⟩
    rw [manR, if_pos hlt, eC1, eC2, eC3, ev3]
    try rfl
  · have h10' := Int32.not_lt.mp h10
    have hlt := (nI_leI (by omega) (by have := hI.2.1; omega)).mp h10'
    refine J_aload_n (pc := 13) D2_readMan_13 rfl ?_
    refine J_iconst (pc := 14) (v := (nI 2)) D2_readMan_14 (by decide) ?_
    refine J_callVT (pc := 15) (ac := [.int _]) D2_readMan_15 m2_refuse_v t596 (c2_refuse (d := d + 3) hK hI) (by omega) rfl rfl rfl rfl rfl rfl rfl (fun r w' hq hl => ?_)
    obtain ⟨rfl, rfl⟩ := hq
    refine J_vret (pc := 18) D2_readMan_18 rfl ?_
    refine ⟨rfl, ?_⟩
    rw [manR, if_neg (by omega)]
    try rfl
def botR1 (K : TK) (R : RS) : RS :=
  let C1 := stepC K R.1
  let C2 := newC K (wkI (plL (R.2.2.2.2.2.1 4) (K.2.2.2.2.2 C1.1) R.2.2.1.2.1 0)) C1
  let C3 := perC K (wkI (plL (R.2.2.2.2.2.1 1) (K.2.2.2.2.2 C2.1) R.2.2.1.1 0)) (-1) C2
  let w := perV K (wkI (plL (R.2.2.2.2.2.1 1) (K.2.2.2.2.2 C2.1) R.2.2.1.1 0)) (-1) C2
  let C4 := perC K (wkI (plL (R.2.2.2.2.2.1 1) (K.2.2.2.2.2 C3.1) R.2.2.1.1 0)) w C3
  let x := perV K (wkI (plL (R.2.2.2.2.2.1 1) (K.2.2.2.2.2 C3.1) R.2.2.1.1 0)) w C3
  let C5 := numC K (nI 0) (nI 5) C4
  let v5 := numV K (nI 0) (nI 5) C4
  let C6 := numC K (nI 1) (nI 99) C5
  let v6 := numV K (nI 1) (nI 99) C5
  let C7 := numC K (nI 1) (nI 9) C6
  let v7 := numV K (nI 1) (nI 9) C6
  (C7, (R.2.1.1, R.2.1.2), (R.2.2.1.1, R.2.2.1.2.1 + 1, R.2.2.1.2.2), (R.2.2.2.1.1, R.2.2.2.1.2), (R.2.2.2.2.1.1, R.2.2.2.2.1.2), (upA (upA (upA (upA (upA (upA R.2.2.2.2.2.1 4 (upd (R.2.2.2.2.2.1 4) R.2.2.1.2.1 (K.2.2.2.2.2 C1.1))) 5 (upd (R.2.2.2.2.2.1 5) R.2.2.1.2.1 w)) 6 (upd (R.2.2.2.2.2.1 6) R.2.2.1.2.1 x)) 7 (upd (R.2.2.2.2.2.1 7) R.2.2.1.2.1 v5)) 8 (upd (R.2.2.2.2.2.1 8) R.2.2.1.2.1 v6)) 9 (upd (R.2.2.2.2.2.1 9) R.2.2.1.2.1 v7)), R.2.2.2.2.2.2)
def botR (K : TK) (R : RS) : RS := if R.2.2.1.2.1 < 10 then botR1 K R else (refC K (nI 2) R.1, R.2)
theorem c2_readBottle {d n : Nat} {K : TK} {R : RS} (hK : KI K n) (hI : RI n R) : Tr (d + 4) 0 0 m2_readBottle [.ref 0] (rdrW K R) (rQ K (botR K R)) := by
  refine Tr.intro (by decide) rfl ?_
  refine J_aload_n (pc := 0) D2_readBottle_0 rfl ?_
  refine J_getf (pc := 1) D2_readBottle_1 fl2_19 rfl rfl ?_
  refine J_getf (pc := 4) D2_readBottle_4 fl2_109 rfl rfl ?_
  refine J_istore_n (pc := 7) D2_readBottle_7 rfl ?_
  refine J_iload_n (pc := 8) D2_readBottle_8 rfl ?_
  refine J_bipush (pc := 9) (v := (nI 10)) D2_readBottle_9 (by decide) ?_
  refine J_icmp_lt (pc := 11) (tgt := 20) D2_readBottle_11 (by decide) (fun h11 => ?_) (fun h11 => ?_)
  · have h11' := Int32.not_le.mpr h11
    have hlt := (nI_ltI (by have := hI.2.2.1; omega) (by omega)).mp h11
    refine J_aload_n (pc := 20) D2_readBottle_20 rfl ?_
    refine J_callVT (pc := 21) (ac := []) D2_readBottle_21 m2_step_v t600 (c2_step (d := d + 2) hK hI) (by omega) rfl rfl rfl rfl rfl rfl rfl (fun r w' hq hl => ?_)
    obtain ⟨rfl, rfl⟩ := hq
    obtain ⟨C1, eC1⟩ : ∃ x, stepC K R.1 = x := ⟨_, rfl⟩
    refine J_w (w2 := rdrW K (C1, R.2)) (by subst eC1; rfl) ?_
    have hC1 : C1.1 ≤ n := by rw [← eC1]; exact stepC_le hK hI.1
    refine J_aload_n (pc := 24) D2_readBottle_24 rfl ?_
    refine J_getf (pc := 25) D2_readBottle_25 fl2_19 rfl rfl ?_
    refine J_getf (pc := 28) D2_readBottle_28 fl2_112 rfl rfl ?_
    refine J_iload_n (pc := 31) D2_readBottle_31 rfl ?_
    refine J_aload_n (pc := 32) D2_readBottle_32 rfl ?_
    refine J_aload_n (pc := 33) D2_readBottle_33 rfl ?_
    refine J_getf (pc := 34) D2_readBottle_34 fl2_19 rfl rfl ?_
    refine J_aload_n (pc := 37) D2_readBottle_37 rfl ?_
    refine J_callVTR (pc := 38) (ac := []) (rest := [_, _, _, _]) D2_readBottle_38 m2_value_v t604 (c2_value (d := d + 3) (R := (C1, R.2)) hK (hI.core hC1)) (by omega) rfl rfl rfl rfl (fun _ => rfl) rfl rfl rfl ?_
    refine J_callVR (pc := 41) (ι := [6, 7, 8, 9, 10, 11, 12, 13, 14, 15, 16, 17, 18, 19, 20, 21, 22, 23]) (ac := [.int _]) (rest := [_, _, _]) D2_readBottle_41 m6_bottleNamed_v t634 (c6_bottleNamed (d := d + 2) (T := tvR R) (n := R.2.2.1.2.1) rfl hI.2.2.1) (by omega) rfl rfl ⟨rfl, rfl⟩ rfl rfl (fun _ => rfl) rfl rfl rfl ?_
    refine J_callVT (pc := 44) (ac := [.int _]) D2_readBottle_44 m2_takeNewName_v t615 (c2_takeNewName (d := d) (R := (C1, R.2)) hK (show RI n (C1, R.2) from ⟨hC1, hI.2⟩)) (by omega) rfl rfl rfl rfl rfl rfl rfl (fun r w' hq hl => ?_)
    obtain ⟨rfl, rfl⟩ := hq
    obtain ⟨C2, eC2⟩ : ∃ x, newC K (wkI (plL (R.2.2.2.2.2.1 4) (K.2.2.2.2.2 C1.1) R.2.2.1.2.1 0)) C1 = x := ⟨_, rfl⟩
    refine J_w (w2 := rdrW K (C2, R.2)) (by subst eC2; rfl) ?_
    have hC2 : C2.1 ≤ n := by rw [← eC2]; exact newC_le hK hC1
    refine J_iast (pc := 47) D2_readBottle_47 rfl rfl hlt rfl ?_
    refine J_w (w2 := rdrW K (C2, (R.2.1.1, R.2.1.2), (R.2.2.1.1, R.2.2.1.2.1, R.2.2.1.2.2), (R.2.2.2.1.1, R.2.2.2.1.2), (R.2.2.2.2.1.1, R.2.2.2.2.1.2), (upA R.2.2.2.2.2.1 4 (upd (R.2.2.2.2.2.1 4) R.2.2.1.2.1 (K.2.2.2.2.2 C1.1))), R.2.2.2.2.2.2)) rfl ?_
    refine J_aload_n (pc := 48) D2_readBottle_48 rfl ?_
    refine J_getf (pc := 49) D2_readBottle_49 fl2_19 rfl rfl ?_
    refine J_getf (pc := 52) D2_readBottle_52 fl2_118 rfl rfl ?_
    refine J_iload_n (pc := 55) D2_readBottle_55 rfl ?_
    refine J_aload_n (pc := 56) D2_readBottle_56 rfl ?_
    refine J_iconst (pc := 57) (v := (-1)) D2_readBottle_57 (by decide) ?_
    refine J_callVT (pc := 58) (ac := [.int _]) D2_readBottle_58 m2_takePerson_v t638 (c2_takePerson (d := d) (R := (C2, (R.2.1.1, R.2.1.2), (R.2.2.1.1, R.2.2.1.2.1, R.2.2.1.2.2), (R.2.2.2.1.1, R.2.2.2.1.2), (R.2.2.2.2.1.1, R.2.2.2.2.1.2), (upA R.2.2.2.2.2.1 4 (upd (R.2.2.2.2.2.1 4) R.2.2.1.2.1 (K.2.2.2.2.2 C1.1))), R.2.2.2.2.2.2)) hK (show RI n (C2, (R.2.1.1, R.2.1.2), (R.2.2.1.1, R.2.2.1.2.1, R.2.2.1.2.2), (R.2.2.2.1.1, R.2.2.2.1.2), (R.2.2.2.2.1.1, R.2.2.2.2.1.2), (upA R.2.2.2.2.2.1 4 (upd (R.2.2.2.2.2.1 4) R.2.2.1.2.1 (K.2.2.2.2.2 C1.1))), R.2.2.2.2.2.2) from ⟨hC2, hI.2⟩)) (by omega) rfl rfl rfl rfl rfl rfl rfl (fun r w' hq hl => ?_)
    obtain ⟨rfl, rfl⟩ := hq
    obtain ⟨C3, eC3⟩ : ∃ x, perC K (wkI (plL (R.2.2.2.2.2.1 1) (K.2.2.2.2.2 C2.1) R.2.2.1.1 0)) (-1) C2 = x := ⟨_, rfl⟩
    obtain ⟨w, ew⟩ : ∃ x, perV K (wkI (plL (R.2.2.2.2.2.1 1) (K.2.2.2.2.2 C2.1) R.2.2.1.1 0)) (-1) C2 = x := ⟨_, rfl⟩
    refine J_st [.int w, .int (nI R.2.2.1.2.1), .ref 10] (by subst ew; rfl) ?_
    refine J_w (w2 := rdrW K (C3, (R.2.1.1, R.2.1.2), (R.2.2.1.1, R.2.2.1.2.1, R.2.2.1.2.2), (R.2.2.2.1.1, R.2.2.2.1.2), (R.2.2.2.2.1.1, R.2.2.2.2.1.2), (upA R.2.2.2.2.2.1 4 (upd (R.2.2.2.2.2.1 4) R.2.2.1.2.1 (K.2.2.2.2.2 C1.1))), R.2.2.2.2.2.2)) (by subst eC3; rfl) ?_
    have hC3 : C3.1 ≤ n := by rw [← eC3]; exact perC_le hK hC2
    refine J_iast (pc := 61) D2_readBottle_61 rfl rfl hlt rfl ?_
    refine J_w (w2 := rdrW K (C3, (R.2.1.1, R.2.1.2), (R.2.2.1.1, R.2.2.1.2.1, R.2.2.1.2.2), (R.2.2.2.1.1, R.2.2.2.1.2), (R.2.2.2.2.1.1, R.2.2.2.2.1.2), (upA (upA R.2.2.2.2.2.1 4 (upd (R.2.2.2.2.2.1 4) R.2.2.1.2.1 (K.2.2.2.2.2 C1.1))) 5 (upd (R.2.2.2.2.2.1 5) R.2.2.1.2.1 w)), R.2.2.2.2.2.2)) rfl ?_
    refine J_aload_n (pc := 62) D2_readBottle_62 rfl ?_
    refine J_getf (pc := 63) D2_readBottle_63 fl2_19 rfl rfl ?_
    refine J_getf (pc := 66) D2_readBottle_66 fl2_124 rfl rfl ?_
    refine J_iload_n (pc := 69) D2_readBottle_69 rfl ?_
    refine J_aload_n (pc := 70) D2_readBottle_70 rfl ?_
    refine J_aload_n (pc := 71) D2_readBottle_71 rfl ?_
    refine J_getf (pc := 72) D2_readBottle_72 fl2_19 rfl rfl ?_
    refine J_getf (pc := 75) D2_readBottle_75 fl2_118 rfl rfl ?_
    refine J_iload_n (pc := 78) D2_readBottle_78 rfl ?_
    refine J_iald (pc := 79) D2_readBottle_79 rfl rfl hlt rfl ?_
    refine J_st [.int w, .ref 0, .int (nI R.2.2.1.2.1), .ref 11] (show ([Value.int (upd (R.2.2.2.2.2.1 5) R.2.2.1.2.1 w R.2.2.1.2.1), .ref 0, .int (nI R.2.2.1.2.1), .ref 11] : List Value) = [.int w, .ref 0, .int (nI R.2.2.1.2.1), .ref 11] by rw [pk_us]) ?_
    refine J_callVT (pc := 80) (ac := [.int _]) D2_readBottle_80 m2_takePerson_v t638 (c2_takePerson (d := d) (R := (C3, (R.2.1.1, R.2.1.2), (R.2.2.1.1, R.2.2.1.2.1, R.2.2.1.2.2), (R.2.2.2.1.1, R.2.2.2.1.2), (R.2.2.2.2.1.1, R.2.2.2.2.1.2), (upA (upA R.2.2.2.2.2.1 4 (upd (R.2.2.2.2.2.1 4) R.2.2.1.2.1 (K.2.2.2.2.2 C1.1))) 5 (upd (R.2.2.2.2.2.1 5) R.2.2.1.2.1 w)), R.2.2.2.2.2.2)) hK (show RI n (C3, (R.2.1.1, R.2.1.2), (R.2.2.1.1, R.2.2.1.2.1, R.2.2.1.2.2), (R.2.2.2.1.1, R.2.2.2.1.2), (R.2.2.2.2.1.1, R.2.2.2.2.1.2), (upA (upA R.2.2.2.2.2.1 4 (upd (R.2.2.2.2.2.1 4) R.2.2.1.2.1 (K.2.2.2.2.2 C1.1))) 5 (upd (R.2.2.2.2.2.1 5) R.2.2.1.2.1 w)), R.2.2.2.2.2.2) from ⟨hC3, hI.2⟩)) (by omega) rfl rfl rfl rfl rfl rfl rfl (fun r w' hq hl => ?_)
    obtain ⟨rfl, rfl⟩ := hq
    obtain ⟨C4, eC4⟩ : ∃ x, perC K (wkI (plL (R.2.2.2.2.2.1 1) (K.2.2.2.2.2 C3.1) R.2.2.1.1 0)) w C3 = x := ⟨_, rfl⟩
    obtain ⟨x, ex⟩ : ∃ x, perV K (wkI (plL (R.2.2.2.2.2.1 1) (K.2.2.2.2.2 C3.1) R.2.2.1.1 0)) w C3 = x := ⟨_, rfl⟩
    refine J_st [.int x, .int (nI R.2.2.1.2.1), .ref 11] (by subst ex; rfl) ?_
    refine J_w (w2 := rdrW K (C4, (R.2.1.1, R.2.1.2), (R.2.2.1.1, R.2.2.1.2.1, R.2.2.1.2.2), (R.2.2.2.1.1, R.2.2.2.1.2), (R.2.2.2.2.1.1, R.2.2.2.2.1.2), (upA (upA R.2.2.2.2.2.1 4 (upd (R.2.2.2.2.2.1 4) R.2.2.1.2.1 (K.2.2.2.2.2 C1.1))) 5 (upd (R.2.2.2.2.2.1 5) R.2.2.1.2.1 w)), R.2.2.2.2.2.2)) (by subst eC4; rfl) ?_
    have hC4 : C4.1 ≤ n := by rw [← eC4]; exact perC_le hK hC3
    refine J_iast (pc := 83) D2_readBottle_83 rfl rfl hlt rfl ?_
    refine J_w (w2 := rdrW K (C4, (R.2.1.1, R.2.1.2), (R.2.2.1.1, R.2.2.1.2.1, R.2.2.1.2.2), (R.2.2.2.1.1, R.2.2.2.1.2), (R.2.2.2.2.1.1, R.2.2.2.2.1.2), (upA (upA (upA R.2.2.2.2.2.1 4 (upd (R.2.2.2.2.2.1 4) R.2.2.1.2.1 (K.2.2.2.2.2 C1.1))) 5 (upd (R.2.2.2.2.2.1 5) R.2.2.1.2.1 w)) 6 (upd (R.2.2.2.2.2.1 6) R.2.2.1.2.1 x)), R.2.2.2.2.2.2)) rfl ?_
    refine J_aload_n (pc := 84) D2_readBottle_84 rfl ?_
    refine J_getf (pc := 85) D2_readBottle_85 fl2_19 rfl rfl ?_
    refine J_getf (pc := 88) D2_readBottle_88 fl2_127 rfl rfl ?_
    refine J_iload_n (pc := 91) D2_readBottle_91 rfl ?_
    refine J_aload_n (pc := 92) D2_readBottle_92 rfl ?_
    refine J_iconst (pc := 93) (v := (nI 0)) D2_readBottle_93 (by decide) ?_
    refine J_iconst (pc := 94) (v := (nI 5)) D2_readBottle_94 (by decide) ?_
    refine J_callVT (pc := 95) (ac := [.int _, .int _]) D2_readBottle_95 m2_takeNumber_v t623 (c2_takeNumber (d := d) (R := (C4, (R.2.1.1, R.2.1.2), (R.2.2.1.1, R.2.2.1.2.1, R.2.2.1.2.2), (R.2.2.2.1.1, R.2.2.2.1.2), (R.2.2.2.2.1.1, R.2.2.2.2.1.2), (upA (upA (upA R.2.2.2.2.2.1 4 (upd (R.2.2.2.2.2.1 4) R.2.2.1.2.1 (K.2.2.2.2.2 C1.1))) 5 (upd (R.2.2.2.2.2.1 5) R.2.2.1.2.1 w)) 6 (upd (R.2.2.2.2.2.1 6) R.2.2.1.2.1 x)), R.2.2.2.2.2.2)) hK (show RI n (C4, (R.2.1.1, R.2.1.2), (R.2.2.1.1, R.2.2.1.2.1, R.2.2.1.2.2), (R.2.2.2.1.1, R.2.2.2.1.2), (R.2.2.2.2.1.1, R.2.2.2.2.1.2), (upA (upA (upA R.2.2.2.2.2.1 4 (upd (R.2.2.2.2.2.1 4) R.2.2.1.2.1 (K.2.2.2.2.2 C1.1))) 5 (upd (R.2.2.2.2.2.1 5) R.2.2.1.2.1 w)) 6 (upd (R.2.2.2.2.2.1 6) R.2.2.1.2.1 x)), R.2.2.2.2.2.2) from ⟨hC4, hI.2⟩)) (by omega) rfl rfl rfl rfl rfl rfl rfl (fun r w' hq hl => ?_)
    obtain ⟨rfl, rfl⟩ := hq
    obtain ⟨C5, eC5⟩ : ∃ x, numC K (nI 0) (nI 5) C4 = x := ⟨_, rfl⟩
    obtain ⟨v5, ev5⟩ : ∃ x, numV K (nI 0) (nI 5) C4 = x := ⟨_, rfl⟩
    refine J_st [.int v5, .int (nI R.2.2.1.2.1), .ref 12] (by subst ev5; rfl) ?_
    refine J_w (w2 := rdrW K (C5, (R.2.1.1, R.2.1.2), (R.2.2.1.1, R.2.2.1.2.1, R.2.2.1.2.2), (R.2.2.2.1.1, R.2.2.2.1.2), (R.2.2.2.2.1.1, R.2.2.2.2.1.2), (upA (upA (upA R.2.2.2.2.2.1 4 (upd (R.2.2.2.2.2.1 4) R.2.2.1.2.1 (K.2.2.2.2.2 C1.1))) 5 (upd (R.2.2.2.2.2.1 5) R.2.2.1.2.1 w)) 6 (upd (R.2.2.2.2.2.1 6) R.2.2.1.2.1 x)), R.2.2.2.2.2.2)) (by subst eC5; rfl) ?_
    have hC5 : C5.1 ≤ n := by rw [← eC5]; exact numC_le hK hC4
    refine J_iast (pc := 98) D2_readBottle_98 rfl rfl hlt rfl ?_
    refine J_w (w2 := rdrW K (C5, (R.2.1.1, R.2.1.2), (R.2.2.1.1, R.2.2.1.2.1, R.2.2.1.2.2), (R.2.2.2.1.1, R.2.2.2.1.2), (R.2.2.2.2.1.1, R.2.2.2.2.1.2), (upA (upA (upA (upA R.2.2.2.2.2.1 4 (upd (R.2.2.2.2.2.1 4) R.2.2.1.2.1 (K.2.2.2.2.2 C1.1))) 5 (upd (R.2.2.2.2.2.1 5) R.2.2.1.2.1 w)) 6 (upd (R.2.2.2.2.2.1 6) R.2.2.1.2.1 x)) 7 (upd (R.2.2.2.2.2.1 7) R.2.2.1.2.1 v5)), R.2.2.2.2.2.2)) rfl ?_
    refine J_aload_n (pc := 99) D2_readBottle_99 rfl ?_
    refine J_getf (pc := 100) D2_readBottle_100 fl2_19 rfl rfl ?_
    refine J_getf (pc := 103) D2_readBottle_103 fl2_130 rfl rfl ?_
    refine J_iload_n (pc := 106) D2_readBottle_106 rfl ?_
    refine J_aload_n (pc := 107) D2_readBottle_107 rfl ?_
    refine J_iconst (pc := 108) (v := (nI 1)) D2_readBottle_108 (by decide) ?_
    refine J_bipush (pc := 109) (v := (nI 99)) D2_readBottle_109 (by decide) ?_
    refine J_callVT (pc := 111) (ac := [.int _, .int _]) D2_readBottle_111 m2_takeNumber_v t623 (c2_takeNumber (d := d) (R := (C5, (R.2.1.1, R.2.1.2), (R.2.2.1.1, R.2.2.1.2.1, R.2.2.1.2.2), (R.2.2.2.1.1, R.2.2.2.1.2), (R.2.2.2.2.1.1, R.2.2.2.2.1.2), (upA (upA (upA (upA R.2.2.2.2.2.1 4 (upd (R.2.2.2.2.2.1 4) R.2.2.1.2.1 (K.2.2.2.2.2 C1.1))) 5 (upd (R.2.2.2.2.2.1 5) R.2.2.1.2.1 w)) 6 (upd (R.2.2.2.2.2.1 6) R.2.2.1.2.1 x)) 7 (upd (R.2.2.2.2.2.1 7) R.2.2.1.2.1 v5)), R.2.2.2.2.2.2)) hK (show RI n (C5, (R.2.1.1, R.2.1.2), (R.2.2.1.1, R.2.2.1.2.1, R.2.2.1.2.2), (R.2.2.2.1.1, R.2.2.2.1.2), (R.2.2.2.2.1.1, R.2.2.2.2.1.2), (upA (upA (upA (upA R.2.2.2.2.2.1 4 (upd (R.2.2.2.2.2.1 4) R.2.2.1.2.1 (K.2.2.2.2.2 C1.1))) 5 (upd (R.2.2.2.2.2.1 5) R.2.2.1.2.1 w)) 6 (upd (R.2.2.2.2.2.1 6) R.2.2.1.2.1 x)) 7 (upd (R.2.2.2.2.2.1 7) R.2.2.1.2.1 v5)), R.2.2.2.2.2.2) from ⟨hC5, hI.2⟩)) (by omega) rfl rfl rfl rfl rfl rfl rfl (fun r w' hq hl => ?_)
    obtain ⟨rfl, rfl⟩ := hq
    obtain ⟨C6, eC6⟩ : ∃ x, numC K (nI 1) (nI 99) C5 = x := ⟨_, rfl⟩
    obtain ⟨v6, ev6⟩ : ∃ x, numV K (nI 1) (nI 99) C5 = x := ⟨_, rfl⟩
    refine J_st [.int v6, .int (nI R.2.2.1.2.1), .ref 13] (by subst ev6; rfl) ?_
    refine J_w (w2 := rdrW K (C6, (R.2.1.1, R.2.1.2), (R.2.2.1.1, R.2.2.1.2.1, R.2.2.1.2.2), (R.2.2.2.1.1, R.2.2.2.1.2), (R.2.2.2.2.1.1, R.2.2.2.2.1.2), (upA (upA (upA (upA R.2.2.2.2.2.1 4 (upd (R.2.2.2.2.2.1 4) R.2.2.1.2.1 (K.2.2.2.2.2 C1.1))) 5 (upd (R.2.2.2.2.2.1 5) R.2.2.1.2.1 w)) 6 (upd (R.2.2.2.2.2.1 6) R.2.2.1.2.1 x)) 7 (upd (R.2.2.2.2.2.1 7) R.2.2.1.2.1 v5)), R.2.2.2.2.2.2)) (by subst eC6; rfl) ?_
    have hC6 : C6.1 ≤ n := by rw [← eC6]; exact numC_le hK hC5
    refine J_iast (pc := 114) D2_readBottle_114 rfl rfl hlt rfl ?_
    refine J_w (w2 := rdrW K (C6, (R.2.1.1, R.2.1.2), (R.2.2.1.1, R.2.2.1.2.1, R.2.2.1.2.2), (R.2.2.2.1.1, R.2.2.2.1.2), (R.2.2.2.2.1.1, R.2.2.2.2.1.2), (upA (upA (upA (upA (upA R.2.2.2.2.2.1 4 (upd (R.2.2.2.2.2.1 4) R.2.2.1.2.1 (K.2.2.2.2.2 C1.1))) 5 (upd (R.2.2.2.2.2.1 5) R.2.2.1.2.1 w)) 6 (upd (R.2.2.2.2.2.1 6) R.2.2.1.2.1 x)) 7 (upd (R.2.2.2.2.2.1 7) R.2.2.1.2.1 v5)) 8 (upd (R.2.2.2.2.2.1 8) R.2.2.1.2.1 v6)), R.2.2.2.2.2.2)) rfl ?_
    refine J_aload_n (pc := 115) D2_readBottle_115 rfl ?_
    refine J_getf (pc := 116) D2_readBottle_116 fl2_19 rfl rfl ?_
    refine J_getf (pc := 119) D2_readBottle_119 fl2_133 rfl rfl ?_
    refine J_iload_n (pc := 122) D2_readBottle_122 rfl ?_
    refine J_aload_n (pc := 123) D2_readBottle_123 rfl ?_
    refine J_iconst (pc := 124) (v := (nI 1)) D2_readBottle_124 (by decide) ?_
    refine J_bipush (pc := 125) (v := (nI 9)) D2_readBottle_125 (by decide) ?_
    refine J_callVT (pc := 127) (ac := [.int _, .int _]) D2_readBottle_127 m2_takeNumber_v t623 (c2_takeNumber (d := d) (R := (C6, (R.2.1.1, R.2.1.2), (R.2.2.1.1, R.2.2.1.2.1, R.2.2.1.2.2), (R.2.2.2.1.1, R.2.2.2.1.2), (R.2.2.2.2.1.1, R.2.2.2.2.1.2), (upA (upA (upA (upA (upA R.2.2.2.2.2.1 4 (upd (R.2.2.2.2.2.1 4) R.2.2.1.2.1 (K.2.2.2.2.2 C1.1))) 5 (upd (R.2.2.2.2.2.1 5) R.2.2.1.2.1 w)) 6 (upd (R.2.2.2.2.2.1 6) R.2.2.1.2.1 x)) 7 (upd (R.2.2.2.2.2.1 7) R.2.2.1.2.1 v5)) 8 (upd (R.2.2.2.2.2.1 8) R.2.2.1.2.1 v6)), R.2.2.2.2.2.2)) hK (show RI n (C6, (R.2.1.1, R.2.1.2), (R.2.2.1.1, R.2.2.1.2.1, R.2.2.1.2.2), (R.2.2.2.1.1, R.2.2.2.1.2), (R.2.2.2.2.1.1, R.2.2.2.2.1.2), (upA (upA (upA (upA (upA R.2.2.2.2.2.1 4 (upd (R.2.2.2.2.2.1 4) R.2.2.1.2.1 (K.2.2.2.2.2 C1.1))) 5 (upd (R.2.2.2.2.2.1 5) R.2.2.1.2.1 w)) 6 (upd (R.2.2.2.2.2.1 6) R.2.2.1.2.1 x)) 7 (upd (R.2.2.2.2.2.1 7) R.2.2.1.2.1 v5)) 8 (upd (R.2.2.2.2.2.1 8) R.2.2.1.2.1 v6)), R.2.2.2.2.2.2) from ⟨hC6, hI.2⟩)) (by omega) rfl rfl rfl rfl rfl rfl rfl (fun r w' hq hl => ?_)
    obtain ⟨rfl, rfl⟩ := hq
    obtain ⟨C7, eC7⟩ : ∃ x, numC K (nI 1) (nI 9) C6 = x := ⟨_, rfl⟩
    obtain ⟨v7, ev7⟩ : ∃ x, numV K (nI 1) (nI 9) C6 = x := ⟨_, rfl⟩
    refine J_st [.int v7, .int (nI R.2.2.1.2.1), .ref 14] (by subst ev7; rfl) ?_
    refine J_w (w2 := rdrW K (C7, (R.2.1.1, R.2.1.2), (R.2.2.1.1, R.2.2.1.2.1, R.2.2.1.2.2), (R.2.2.2.1.1, R.2.2.2.1.2), (R.2.2.2.2.1.1, R.2.2.2.2.1.2), (upA (upA (upA (upA (upA R.2.2.2.2.2.1 4 (upd (R.2.2.2.2.2.1 4) R.2.2.1.2.1 (K.2.2.2.2.2 C1.1))) 5 (upd (R.2.2.2.2.2.1 5) R.2.2.1.2.1 w)) 6 (upd (R.2.2.2.2.2.1 6) R.2.2.1.2.1 x)) 7 (upd (R.2.2.2.2.2.1 7) R.2.2.1.2.1 v5)) 8 (upd (R.2.2.2.2.2.1 8) R.2.2.1.2.1 v6)), R.2.2.2.2.2.2)) (by subst eC7; rfl) ?_
    have hC7 : C7.1 ≤ n := by rw [← eC7]; exact numC_le hK hC6
    refine J_iast (pc := 130) D2_readBottle_130 rfl rfl hlt rfl ?_
    refine J_w (w2 := rdrW K (C7, (R.2.1.1, R.2.1.2), (R.2.2.1.1, R.2.2.1.2.1, R.2.2.1.2.2), (R.2.2.2.1.1, R.2.2.2.1.2), (R.2.2.2.2.1.1, R.2.2.2.2.1.2), (upA (upA (upA (upA (upA (upA R.2.2.2.2.2.1 4 (upd (R.2.2.2.2.2.1 4) R.2.2.1.2.1 (K.2.2.2.2.2 C1.1))) 5 (upd (R.2.2.2.2.2.1 5) R.2.2.1.2.1 w)) 6 (upd (R.2.2.2.2.2.1 6) R.2.2.1.2.1 x)) 7 (upd (R.2.2.2.2.2.1 7) R.2.2.1.2.1 v5)) 8 (upd (R.2.2.2.2.2.1 8) R.2.2.1.2.1 v6)) 9 (upd (R.2.2.2.2.2.1 9) R.2.2.1.2.1 v7)), R.2.2.2.2.2.2)) rfl ?_
    refine J_aload_n (pc := 131) D2_readBottle_131 rfl ?_
    refine J_getf (pc := 132) D2_readBottle_132 fl2_19 rfl rfl ?_
    refine J_dup (pc := 135) D2_readBottle_135 rfl ?_
    refine J_getf (pc := 136) D2_readBottle_136 fl2_109 rfl rfl ?_
    refine J_iconst (pc := 139) (v := (nI 1)) D2_readBottle_139 (by decide) ?_
    refine J_iadd (pc := 140) D2_readBottle_140 ?_
    refine J_st [.int (nI (R.2.2.1.2.1 + 1)), .ref 6] (by rw [← show nI R.2.2.1.2.1 + nI 1 = nI (R.2.2.1.2.1 + 1) from nI_1 _]; rfl) ?_
    refine J_putf (pc := 141) D2_readBottle_141 fp2_109 rfl Fit.int rfl ?_
    refine J_vret (pc := 144) D2_readBottle_144 rfl ?_
    refine ⟨rfl, ?_⟩
    refine Eq.trans (b := rdrW K (C7, (R.2.1.1, R.2.1.2), (R.2.2.1.1, R.2.2.1.2.1 + 1, R.2.2.1.2.2), (R.2.2.2.1.1, R.2.2.2.1.2), (R.2.2.2.2.1.1, R.2.2.2.2.1.2), (upA (upA (upA (upA (upA (upA R.2.2.2.2.2.1 4 (upd (R.2.2.2.2.2.1 4) R.2.2.1.2.1 (K.2.2.2.2.2 C1.1))) 5 (upd (R.2.2.2.2.2.1 5) R.2.2.1.2.1 w)) 6 (upd (R.2.2.2.2.2.1 6) R.2.2.1.2.1 x)) 7 (upd (R.2.2.2.2.2.1 7) R.2.2.1.2.1 v5)) 8 (upd (R.2.2.2.2.2.1 8) R.2.2.1.2.1 v6)) 9 (upd (R.2.2.2.2.2.1 9) R.2.2.1.2.1 v7)), R.2.2.2.2.2.2)) rfl ?_
    rw [botR, if_pos hlt]
    subst ev7 eC7 ev6 eC6 ev5 eC5 ex eC4 ew eC3 eC2 eC1
    rfl
  · have h11' := Int32.not_lt.mp h11
    have hlt := (nI_leI (by omega) (by have := hI.2.2.1; omega)).mp h11'
    refine J_aload_n (pc := 14) D2_readBottle_14 rfl ?_
    refine J_iconst (pc := 15) (v := (nI 2)) D2_readBottle_15 (by decide) ?_
    refine J_callVT (pc := 16) (ac := [.int _]) D2_readBottle_16 m2_refuse_v t596 (c2_refuse (d := d + 3) hK hI) (by omega) rfl rfl rfl rfl rfl rfl rfl (fun r w' hq hl => ?_)
    obtain ⟨rfl, rfl⟩ := hq
    refine J_vret (pc := 19) D2_readBottle_19 rfl ?_
    refine ⟨rfl, ?_⟩
    rw [botR, if_neg (by omega)]
    try rfl
def needR1 (K : TK) (R : RS) : RS :=
  let C1 := stepC K R.1
  let C2 := perC K (wkI (plL (R.2.2.2.2.2.1 1) (K.2.2.2.2.2 C1.1) R.2.2.1.1 0)) (-1) C1
  let w := perV K (wkI (plL (R.2.2.2.2.2.1 1) (K.2.2.2.2.2 C1.1) R.2.2.1.1 0)) (-1) C1
  let C3 := numC K (nI 0) (nI 99) C2
  let v3 := numV K (nI 0) (nI 99) C2
  let C4 := numC K (nI 0) (nI 199) C3
  let v4 := numV K (nI 0) (nI 199) C3
  let C5 := numC K v4 (nI 199) C4
  let v5 := numV K v4 (nI 199) C4
  (C5, (R.2.1.1, R.2.1.2), (R.2.2.1.1, R.2.2.1.2.1, R.2.2.1.2.2 + 1), (R.2.2.2.1.1, R.2.2.2.1.2), (R.2.2.2.2.1.1, R.2.2.2.2.1.2), (upA (upA (upA (upA R.2.2.2.2.2.1 11 (upd (R.2.2.2.2.2.1 11) R.2.2.1.2.2 w)) 12 (upd (R.2.2.2.2.2.1 12) R.2.2.1.2.2 v3)) 13 (upd (R.2.2.2.2.2.1 13) R.2.2.1.2.2 v4)) 14 (upd (R.2.2.2.2.2.1 14) R.2.2.1.2.2 v5)), R.2.2.2.2.2.2)
def needR (K : TK) (R : RS) : RS := if R.2.2.1.2.2 < 8 then needR1 K R else (refC K (nI 2) R.1, R.2)
theorem c2_readNeed {d n : Nat} {K : TK} {R : RS} (hK : KI K n) (hI : RI n R) : Tr (d + 4) 0 0 m2_readNeed [.ref 0] (rdrW K R) (rQ K (needR K R)) := by
  refine Tr.intro (by decide) rfl ?_
  refine J_aload_n (pc := 0) D2_readNeed_0 rfl ?_
  refine J_getf (pc := 1) D2_readNeed_1 fl2_19 rfl rfl ?_
  refine J_getf (pc := 4) D2_readNeed_4 fl2_136 rfl rfl ?_
  refine J_istore_n (pc := 7) D2_readNeed_7 rfl ?_
  refine J_iload_n (pc := 8) D2_readNeed_8 rfl ?_
  refine J_bipush (pc := 9) (v := (nI 8)) D2_readNeed_9 (by decide) ?_
  refine J_icmp_lt (pc := 11) (tgt := 20) D2_readNeed_11 (by decide) (fun h11 => ?_) (fun h11 => ?_)
  · have h11' := Int32.not_le.mpr h11
    have hlt := (nI_ltI (by have := hI.2.2.2.1; omega) (by omega)).mp h11
    refine J_aload_n (pc := 20) D2_readNeed_20 rfl ?_
    refine J_callVT (pc := 21) (ac := []) D2_readNeed_21 m2_step_v t600 (c2_step (d := d + 2) hK hI) (by omega) rfl rfl rfl rfl rfl rfl rfl (fun r w' hq hl => ?_)
    obtain ⟨rfl, rfl⟩ := hq
    obtain ⟨C1, eC1⟩ : ∃ x, stepC K R.1 = x := ⟨_, rfl⟩
    refine J_w (w2 := rdrW K (C1, R.2)) (by subst eC1; rfl) ?_
    have hC1 : C1.1 ≤ n := by rw [← eC1]; exact stepC_le hK hI.1
    refine J_aload_n (pc := 24) D2_readNeed_24 rfl ?_
    refine J_getf (pc := 25) D2_readNeed_25 fl2_19 rfl rfl ?_
    refine J_getf (pc := 28) D2_readNeed_28 fl2_139 rfl rfl ?_
    refine J_iload_n (pc := 31) D2_readNeed_31 rfl ?_
    refine J_aload_n (pc := 32) D2_readNeed_32 rfl ?_
    refine J_iconst (pc := 33) (v := (-1)) D2_readNeed_33 (by decide) ?_
    refine J_callVT (pc := 34) (ac := [.int _]) D2_readNeed_34 m2_takePerson_v t638 (c2_takePerson (d := d) (R := (C1, R.2)) hK (show RI n (C1, R.2) from ⟨hC1, hI.2⟩)) (by omega) rfl rfl rfl rfl rfl rfl rfl (fun r w' hq hl => ?_)
    obtain ⟨rfl, rfl⟩ := hq
    obtain ⟨C2, eC2⟩ : ∃ x, perC K (wkI (plL (R.2.2.2.2.2.1 1) (K.2.2.2.2.2 C1.1) R.2.2.1.1 0)) (-1) C1 = x := ⟨_, rfl⟩
    obtain ⟨w, ew⟩ : ∃ x, perV K (wkI (plL (R.2.2.2.2.2.1 1) (K.2.2.2.2.2 C1.1) R.2.2.1.1 0)) (-1) C1 = x := ⟨_, rfl⟩
    refine J_st [.int w, .int (nI R.2.2.1.2.2), .ref 15] (by subst ew; rfl) ?_
    refine J_w (w2 := rdrW K (C2, R.2)) (by subst eC2; rfl) ?_
    have hC2 : C2.1 ≤ n := by rw [← eC2]; exact perC_le hK hC1
    refine J_iast (pc := 37) D2_readNeed_37 rfl rfl hlt rfl ?_
    refine J_w (w2 := rdrW K (C2, (R.2.1.1, R.2.1.2), (R.2.2.1.1, R.2.2.1.2.1, R.2.2.1.2.2), (R.2.2.2.1.1, R.2.2.2.1.2), (R.2.2.2.2.1.1, R.2.2.2.2.1.2), (upA R.2.2.2.2.2.1 11 (upd (R.2.2.2.2.2.1 11) R.2.2.1.2.2 w)), R.2.2.2.2.2.2)) rfl ?_
    refine J_aload_n (pc := 38) D2_readNeed_38 rfl ?_
    refine J_getf (pc := 39) D2_readNeed_39 fl2_19 rfl rfl ?_
    refine J_getf (pc := 42) D2_readNeed_42 fl2_142 rfl rfl ?_
    refine J_iload_n (pc := 45) D2_readNeed_45 rfl ?_
    refine J_aload_n (pc := 46) D2_readNeed_46 rfl ?_
    refine J_iconst (pc := 47) (v := (nI 0)) D2_readNeed_47 (by decide) ?_
    refine J_bipush (pc := 48) (v := (nI 99)) D2_readNeed_48 (by decide) ?_
    refine J_callVT (pc := 50) (ac := [.int _, .int _]) D2_readNeed_50 m2_takeNumber_v t623 (c2_takeNumber (d := d) (R := (C2, (R.2.1.1, R.2.1.2), (R.2.2.1.1, R.2.2.1.2.1, R.2.2.1.2.2), (R.2.2.2.1.1, R.2.2.2.1.2), (R.2.2.2.2.1.1, R.2.2.2.2.1.2), (upA R.2.2.2.2.2.1 11 (upd (R.2.2.2.2.2.1 11) R.2.2.1.2.2 w)), R.2.2.2.2.2.2)) hK (show RI n (C2, (R.2.1.1, R.2.1.2), (R.2.2.1.1, R.2.2.1.2.1, R.2.2.1.2.2), (R.2.2.2.1.1, R.2.2.2.1.2), (R.2.2.2.2.1.1, R.2.2.2.2.1.2), (upA R.2.2.2.2.2.1 11 (upd (R.2.2.2.2.2.1 11) R.2.2.1.2.2 w)), R.2.2.2.2.2.2) from ⟨hC2, hI.2⟩)) (by omega) rfl rfl rfl rfl rfl rfl rfl (fun r w' hq hl => ?_)
    obtain ⟨rfl, rfl⟩ := hq
    obtain ⟨C3, eC3⟩ : ∃ x, numC K (nI 0) (nI 99) C2 = x := ⟨_, rfl⟩
    obtain ⟨v3, ev3⟩ : ∃ x, numV K (nI 0) (nI 99) C2 = x := ⟨_, rfl⟩
    refine J_st [.int v3, .int (nI R.2.2.1.2.2), .ref 16] (by subst ev3; rfl) ?_
    refine J_w (w2 := rdrW K (C3, (R.2.1.1, R.2.1.2), (R.2.2.1.1, R.2.2.1.2.1, R.2.2.1.2.2), (R.2.2.2.1.1, R.2.2.2.1.2), (R.2.2.2.2.1.1, R.2.2.2.2.1.2), (upA R.2.2.2.2.2.1 11 (upd (R.2.2.2.2.2.1 11) R.2.2.1.2.2 w)), R.2.2.2.2.2.2)) (by subst eC3; rfl) ?_
    have hC3 : C3.1 ≤ n := by rw [← eC3]; exact numC_le hK hC2
    refine J_iast (pc := 53) D2_readNeed_53 rfl rfl hlt rfl ?_
    refine J_w (w2 := rdrW K (C3, (R.2.1.1, R.2.1.2), (R.2.2.1.1, R.2.2.1.2.1, R.2.2.1.2.2), (R.2.2.2.1.1, R.2.2.2.1.2), (R.2.2.2.2.1.1, R.2.2.2.2.1.2), (upA (upA R.2.2.2.2.2.1 11 (upd (R.2.2.2.2.2.1 11) R.2.2.1.2.2 w)) 12 (upd (R.2.2.2.2.2.1 12) R.2.2.1.2.2 v3)), R.2.2.2.2.2.2)) rfl ?_
    refine J_aload_n (pc := 54) D2_readNeed_54 rfl ?_
    refine J_getf (pc := 55) D2_readNeed_55 fl2_19 rfl rfl ?_
    refine J_getf (pc := 58) D2_readNeed_58 fl2_145 rfl rfl ?_
    refine J_iload_n (pc := 61) D2_readNeed_61 rfl ?_
    refine J_aload_n (pc := 62) D2_readNeed_62 rfl ?_
    refine J_iconst (pc := 63) (v := (nI 0)) D2_readNeed_63 (by decide) ?_
    refine J_sipush (pc := 64) (v := (nI 199)) D2_readNeed_64 (by decide) ?_
    refine J_callVT (pc := 67) (ac := [.int _, .int _]) D2_readNeed_67 m2_takeNumber_v t623 (c2_takeNumber (d := d) (R := (C3, (R.2.1.1, R.2.1.2), (R.2.2.1.1, R.2.2.1.2.1, R.2.2.1.2.2), (R.2.2.2.1.1, R.2.2.2.1.2), (R.2.2.2.2.1.1, R.2.2.2.2.1.2), (upA (upA R.2.2.2.2.2.1 11 (upd (R.2.2.2.2.2.1 11) R.2.2.1.2.2 w)) 12 (upd (R.2.2.2.2.2.1 12) R.2.2.1.2.2 v3)), R.2.2.2.2.2.2)) hK (show RI n (C3, (R.2.1.1, R.2.1.2), (R.2.2.1.1, R.2.2.1.2.1, R.2.2.1.2.2), (R.2.2.2.1.1, R.2.2.2.1.2), (R.2.2.2.2.1.1, R.2.2.2.2.1.2), (upA (upA R.2.2.2.2.2.1 11 (upd (R.2.2.2.2.2.1 11) R.2.2.1.2.2 w)) 12 (upd (R.2.2.2.2.2.1 12) R.2.2.1.2.2 v3)), R.2.2.2.2.2.2) from ⟨hC3, hI.2⟩)) (by omega) rfl rfl rfl rfl rfl rfl rfl (fun r w' hq hl => ?_)
    obtain ⟨rfl, rfl⟩ := hq
    obtain ⟨C4, eC4⟩ : ∃ x, numC K (nI 0) (nI 199) C3 = x := ⟨_, rfl⟩
    obtain ⟨v4, ev4⟩ : ∃ x, numV K (nI 0) (nI 199) C3 = x := ⟨_, rfl⟩
    refine J_st [.int v4, .int (nI R.2.2.1.2.2), .ref 17] (by subst ev4; rfl) ?_
    refine J_w (w2 := rdrW K (C4, (R.2.1.1, R.2.1.2), (R.2.2.1.1, R.2.2.1.2.1, R.2.2.1.2.2), (R.2.2.2.1.1, R.2.2.2.1.2), (R.2.2.2.2.1.1, R.2.2.2.2.1.2), (upA (upA R.2.2.2.2.2.1 11 (upd (R.2.2.2.2.2.1 11) R.2.2.1.2.2 w)) 12 (upd (R.2.2.2.2.2.1 12) R.2.2.1.2.2 v3)), R.2.2.2.2.2.2)) (by subst eC4; rfl) ?_
    have hC4 : C4.1 ≤ n := by rw [← eC4]; exact numC_le hK hC3
    refine J_iast (pc := 70) D2_readNeed_70 rfl rfl hlt rfl ?_
    refine J_w (w2 := rdrW K (C4, (R.2.1.1, R.2.1.2), (R.2.2.1.1, R.2.2.1.2.1, R.2.2.1.2.2), (R.2.2.2.1.1, R.2.2.2.1.2), (R.2.2.2.2.1.1, R.2.2.2.2.1.2), (upA (upA (upA R.2.2.2.2.2.1 11 (upd (R.2.2.2.2.2.1 11) R.2.2.1.2.2 w)) 12 (upd (R.2.2.2.2.2.1 12) R.2.2.1.2.2 v3)) 13 (upd (R.2.2.2.2.2.1 13) R.2.2.1.2.2 v4)), R.2.2.2.2.2.2)) rfl ?_
    refine J_aload_n (pc := 71) D2_readNeed_71 rfl ?_
    refine J_getf (pc := 72) D2_readNeed_72 fl2_19 rfl rfl ?_
    refine J_getf (pc := 75) D2_readNeed_75 fl2_148 rfl rfl ?_
    refine J_iload_n (pc := 78) D2_readNeed_78 rfl ?_
    refine J_aload_n (pc := 79) D2_readNeed_79 rfl ?_
    refine J_aload_n (pc := 80) D2_readNeed_80 rfl ?_
    refine J_getf (pc := 81) D2_readNeed_81 fl2_19 rfl rfl ?_
    refine J_getf (pc := 84) D2_readNeed_84 fl2_145 rfl rfl ?_
    refine J_iload_n (pc := 87) D2_readNeed_87 rfl ?_
    refine J_iald (pc := 88) D2_readNeed_88 rfl rfl hlt rfl ?_
    refine J_st [.int v4, .ref 0, .int (nI R.2.2.1.2.2), .ref 18] (show ([Value.int (upd (R.2.2.2.2.2.1 13) R.2.2.1.2.2 v4 R.2.2.1.2.2), .ref 0, .int (nI R.2.2.1.2.2), .ref 18] : List Value) = [.int v4, .ref 0, .int (nI R.2.2.1.2.2), .ref 18] by rw [pk_us]) ?_
    refine J_sipush (pc := 89) (v := (nI 199)) D2_readNeed_89 (by decide) ?_
    refine J_callVT (pc := 92) (ac := [.int _, .int _]) D2_readNeed_92 m2_takeNumber_v t623 (c2_takeNumber (d := d) (R := (C4, (R.2.1.1, R.2.1.2), (R.2.2.1.1, R.2.2.1.2.1, R.2.2.1.2.2), (R.2.2.2.1.1, R.2.2.2.1.2), (R.2.2.2.2.1.1, R.2.2.2.2.1.2), (upA (upA (upA R.2.2.2.2.2.1 11 (upd (R.2.2.2.2.2.1 11) R.2.2.1.2.2 w)) 12 (upd (R.2.2.2.2.2.1 12) R.2.2.1.2.2 v3)) 13 (upd (R.2.2.2.2.2.1 13) R.2.2.1.2.2 v4)), R.2.2.2.2.2.2)) hK (show RI n (C4, (R.2.1.1, R.2.1.2), (R.2.2.1.1, R.2.2.1.2.1, R.2.2.1.2.2), (R.2.2.2.1.1, R.2.2.2.1.2), (R.2.2.2.2.1.1, R.2.2.2.2.1.2), (upA (upA (upA R.2.2.2.2.2.1 11 (upd (R.2.2.2.2.2.1 11) R.2.2.1.2.2 w)) 12 (upd (R.2.2.2.2.2.1 12) R.2.2.1.2.2 v3)) 13 (upd (R.2.2.2.2.2.1 13) R.2.2.1.2.2 v4)), R.2.2.2.2.2.2) from ⟨hC4, hI.2⟩)) (by omega) rfl rfl rfl rfl rfl rfl rfl (fun r w' hq hl => ?_)
    obtain ⟨rfl, rfl⟩ := hq
    obtain ⟨C5, eC5⟩ : ∃ x, numC K v4 (nI 199) C4 = x := ⟨_, rfl⟩
    obtain ⟨v5, ev5⟩ : ∃ x, numV K v4 (nI 199) C4 = x := ⟨_, rfl⟩
    refine J_st [.int v5, .int (nI R.2.2.1.2.2), .ref 18] (by subst ev5; rfl) ?_
    refine J_w (w2 := rdrW K (C5, (R.2.1.1, R.2.1.2), (R.2.2.1.1, R.2.2.1.2.1, R.2.2.1.2.2), (R.2.2.2.1.1, R.2.2.2.1.2), (R.2.2.2.2.1.1, R.2.2.2.2.1.2), (upA (upA (upA R.2.2.2.2.2.1 11 (upd (R.2.2.2.2.2.1 11) R.2.2.1.2.2 w)) 12 (upd (R.2.2.2.2.2.1 12) R.2.2.1.2.2 v3)) 13 (upd (R.2.2.2.2.2.1 13) R.2.2.1.2.2 v4)), R.2.2.2.2.2.2)) (by subst eC5; rfl) ?_
    have hC5 : C5.1 ≤ n := by rw [← eC5]; exact numC_le hK hC4
    refine J_iast (pc := 95) D2_readNeed_95 rfl rfl hlt rfl ?_
    refine J_w (w2 := rdrW K (C5, (R.2.1.1, R.2.1.2), (R.2.2.1.1, R.2.2.1.2.1, R.2.2.1.2.2), (R.2.2.2.1.1, R.2.2.2.1.2), (R.2.2.2.2.1.1, R.2.2.2.2.1.2), (upA (upA (upA (upA R.2.2.2.2.2.1 11 (upd (R.2.2.2.2.2.1 11) R.2.2.1.2.2 w)) 12 (upd (R.2.2.2.2.2.1 12) R.2.2.1.2.2 v3)) 13 (upd (R.2.2.2.2.2.1 13) R.2.2.1.2.2 v4)) 14 (upd (R.2.2.2.2.2.1 14) R.2.2.1.2.2 v5)), R.2.2.2.2.2.2)) rfl ?_
    refine J_aload_n (pc := 96) D2_readNeed_96 rfl ?_
    refine J_getf (pc := 97) D2_readNeed_97 fl2_19 rfl rfl ?_
    refine J_dup (pc := 100) D2_readNeed_100 rfl ?_
    refine J_getf (pc := 101) D2_readNeed_101 fl2_136 rfl rfl ?_
    refine J_iconst (pc := 104) (v := (nI 1)) D2_readNeed_104 (by decide) ?_
    refine J_iadd (pc := 105) D2_readNeed_105 ?_
    refine J_st [.int (nI (R.2.2.1.2.2 + 1)), .ref 6] (by rw [← show nI R.2.2.1.2.2 + nI 1 = nI (R.2.2.1.2.2 + 1) from nI_1 _]; rfl) ?_
    refine J_putf (pc := 106) D2_readNeed_106 fp2_136 rfl Fit.int rfl ?_
    refine J_vret (pc := 109) D2_readNeed_109 rfl ?_
    refine ⟨rfl, ?_⟩
    refine Eq.trans (b := rdrW K (C5, (R.2.1.1, R.2.1.2), (R.2.2.1.1, R.2.2.1.2.1, R.2.2.1.2.2 + 1), (R.2.2.2.1.1, R.2.2.2.1.2), (R.2.2.2.2.1.1, R.2.2.2.2.1.2), (upA (upA (upA (upA R.2.2.2.2.2.1 11 (upd (R.2.2.2.2.2.1 11) R.2.2.1.2.2 w)) 12 (upd (R.2.2.2.2.2.1 12) R.2.2.1.2.2 v3)) 13 (upd (R.2.2.2.2.2.1 13) R.2.2.1.2.2 v4)) 14 (upd (R.2.2.2.2.2.1 14) R.2.2.1.2.2 v5)), R.2.2.2.2.2.2)) rfl ?_
    rw [needR, if_pos hlt]
    subst ev5 eC5 ev4 eC4 ev3 eC3 ew eC2 eC1
    rfl
  · have h11' := Int32.not_lt.mp h11
    have hlt := (nI_leI (by omega) (by have := hI.2.2.2.1; omega)).mp h11'
    refine J_aload_n (pc := 14) D2_readNeed_14 rfl ?_
    refine J_iconst (pc := 15) (v := (nI 2)) D2_readNeed_15 (by decide) ?_
    refine J_callVT (pc := 16) (ac := [.int _]) D2_readNeed_16 m2_refuse_v t596 (c2_refuse (d := d + 3) hK hI) (by omega) rfl rfl rfl rfl rfl rfl rfl (fun r w' hq hl => ?_)
    obtain ⟨rfl, rfl⟩ := hq
    refine J_vret (pc := 19) D2_readNeed_19 rfl ?_
    refine ⟨rfl, ?_⟩
    rw [needR, if_neg (by omega)]
    try rfl
def thuR (K : TK) (R : RS) : RS := if R.2.1.1 = 0 then (numC K (nI 0) (nI 100) (stepC K R.1), (1, R.2.1.2), (R.2.2.1.1, R.2.2.1.2.1, R.2.2.1.2.2), (numV K (nI 0) (nI 100) (stepC K R.1), R.2.2.2.1.2), (R.2.2.2.2.1.1, R.2.2.2.2.1.2), R.2.2.2.2.2.1, R.2.2.2.2.2.2) else (refC K (nI 3) R.1, R.2)
theorem c2_readThunder {d n : Nat} {K : TK} {R : RS} (hK : KI K n) (hI : RI n R) : Tr (d + 4) 0 0 m2_readThunder [.ref 0] (rdrW K R) (rQ K (thuR K R)) := by
  refine Tr.intro (by decide) rfl ?_
  refine J_aload_n (pc := 0) D2_readThunder_0 rfl ?_
  refine J_getf (pc := 1) D2_readThunder_1 fl2_28 rfl rfl ?_
  refine J_if_eq (pc := 4) (tgt := 13) D2_readThunder_4 (by decide) (fun h4 => ?_) (fun h4 => ?_)
  · have h4' := eq_true h4
    refine J_aload_n (pc := 13) D2_readThunder_13 rfl ?_
    refine J_iconst (pc := 14) (v := (nI 1)) D2_readThunder_14 (by decide) ?_
    refine J_putf (pc := 15) D2_readThunder_15 fp2_28 rfl (Fit.zb (by first | exact Or.inl rfl | exact Or.inr rfl)) rfl ?_
    refine J_w (w2 := rdrW K (R.1, (1, R.2.1.2), (R.2.2.1.1, R.2.2.1.2.1, R.2.2.1.2.2), (R.2.2.2.1.1, R.2.2.2.1.2), (R.2.2.2.2.1.1, R.2.2.2.2.1.2), R.2.2.2.2.2.1, R.2.2.2.2.2.2)) rfl ?_
    refine J_aload_n (pc := 18) D2_readThunder_18 rfl ?_
    refine J_callVT (pc := 19) (ac := []) D2_readThunder_19 m2_step_v t600 (c2_step (d := d + 2) (R := (R.1, (1, R.2.1.2), (R.2.2.1.1, R.2.2.1.2.1, R.2.2.1.2.2), (R.2.2.2.1.1, R.2.2.2.1.2), (R.2.2.2.2.1.1, R.2.2.2.2.1.2), R.2.2.2.2.2.1, R.2.2.2.2.2.2)) hK hI) (by omega) rfl rfl rfl rfl rfl rfl rfl (fun r w' hq hl => ?_)
    obtain ⟨rfl, rfl⟩ := hq
    obtain ⟨C1, eC1⟩ : ∃ x, stepC K R.1 = x := ⟨_, rfl⟩
    refine J_w (w2 := rdrW K (C1, (1, R.2.1.2), (R.2.2.1.1, R.2.2.1.2.1, R.2.2.1.2.2), (R.2.2.2.1.1, R.2.2.2.1.2), (R.2.2.2.2.1.1, R.2.2.2.2.1.2), R.2.2.2.2.2.1, R.2.2.2.2.2.2)) (by subst eC1; rfl) ?_
    have hC1 : C1.1 ≤ n := by rw [← eC1]; exact stepC_le hK hI.1
    refine J_aload_n (pc := 22) D2_readThunder_22 rfl ?_
    refine J_getf (pc := 23) D2_readThunder_23 fl2_19 rfl rfl ?_
    refine J_aload_n (pc := 26) D2_readThunder_26 rfl ?_
    refine J_iconst (pc := 27) (v := (nI 0)) D2_readThunder_27 (by decide) ?_
    refine J_bipush (pc := 28) (v := (nI 100)) D2_readThunder_28 (by decide) ?_
    refine J_callVT (pc := 30) (ac := [.int _, .int _]) D2_readThunder_30 m2_takeNumber_v t623 (c2_takeNumber (d := d) (R := (C1, (1, R.2.1.2), (R.2.2.1.1, R.2.2.1.2.1, R.2.2.1.2.2), (R.2.2.2.1.1, R.2.2.2.1.2), (R.2.2.2.2.1.1, R.2.2.2.2.1.2), R.2.2.2.2.2.1, R.2.2.2.2.2.2)) hK (show RI n (C1, (1, R.2.1.2), (R.2.2.1.1, R.2.2.1.2.1, R.2.2.1.2.2), (R.2.2.2.1.1, R.2.2.2.1.2), (R.2.2.2.2.1.1, R.2.2.2.2.1.2), R.2.2.2.2.2.1, R.2.2.2.2.2.2) from ⟨hC1, hI.2⟩)) (by omega) rfl rfl rfl rfl rfl rfl rfl (fun r w' hq hl => ?_)
    obtain ⟨rfl, rfl⟩ := hq
    obtain ⟨C2, eC2⟩ : ∃ x, numC K (nI 0) (nI 100) C1 = x := ⟨_, rfl⟩
    obtain ⟨v, ev⟩ : ∃ x, numV K (nI 0) (nI 100) C1 = x := ⟨_, rfl⟩
    refine J_st [.int v, .ref 6] (by subst ev; rfl) ?_
    refine J_w (w2 := rdrW K (C2, (1, R.2.1.2), (R.2.2.1.1, R.2.2.1.2.1, R.2.2.1.2.2), (R.2.2.2.1.1, R.2.2.2.1.2), (R.2.2.2.2.1.1, R.2.2.2.2.1.2), R.2.2.2.2.2.1, R.2.2.2.2.2.2)) (by subst eC2; rfl) ?_
    have hC2 : C2.1 ≤ n := by rw [← eC2]; exact numC_le hK hC1
    refine J_putf (pc := 33) D2_readThunder_33 fp2_151 rfl Fit.int rfl ?_
    refine J_vret (pc := 36) D2_readThunder_36 rfl ?_
    refine ⟨rfl, ?_⟩
    rw [thuR, if_pos h4, eC1, eC2, ev]
    try rfl
  · refine J_aload_n (pc := 7) D2_readThunder_7 rfl ?_
    refine J_iconst (pc := 8) (v := (nI 3)) D2_readThunder_8 (by decide) ?_
    refine J_callVT (pc := 9) (ac := [.int _]) D2_readThunder_9 m2_refuse_v t596 (c2_refuse (d := d + 3) hK hI) (by omega) rfl rfl rfl rfl rfl rfl rfl (fun r w' hq hl => ?_)
    obtain ⟨rfl, rfl⟩ := hq
    refine J_vret (pc := 12) D2_readThunder_12 rfl ?_
    refine ⟨rfl, ?_⟩
    rw [thuR, if_neg h4]
    try rfl
def seeR (K : TK) (R : RS) : RS := if R.2.1.2 = 0 then (numC K (nI 0) 99999 (stepC K R.1), (R.2.1.1, 1), (R.2.2.1.1, R.2.2.1.2.1, R.2.2.1.2.2), (R.2.2.2.1.1, numV K (nI 0) 99999 (stepC K R.1)), (R.2.2.2.2.1.1, R.2.2.2.2.1.2), R.2.2.2.2.2.1, R.2.2.2.2.2.2) else (refC K (nI 3) R.1, R.2)
theorem c2_readSeed {d n : Nat} {K : TK} {R : RS} (hK : KI K n) (hI : RI n R) : Tr (d + 4) 0 0 m2_readSeed [.ref 0] (rdrW K R) (rQ K (seeR K R)) := by
  refine Tr.intro (by decide) rfl ?_
  refine J_aload_n (pc := 0) D2_readSeed_0 rfl ?_
  refine J_getf (pc := 1) D2_readSeed_1 fl2_32 rfl rfl ?_
  refine J_if_eq (pc := 4) (tgt := 13) D2_readSeed_4 (by decide) (fun h4 => ?_) (fun h4 => ?_)
  · have h4' := eq_true h4
    refine J_aload_n (pc := 13) D2_readSeed_13 rfl ?_
    refine J_iconst (pc := 14) (v := (nI 1)) D2_readSeed_14 (by decide) ?_
    refine J_putf (pc := 15) D2_readSeed_15 fp2_32 rfl (Fit.zb (by first | exact Or.inl rfl | exact Or.inr rfl)) rfl ?_
    refine J_w (w2 := rdrW K (R.1, (R.2.1.1, 1), (R.2.2.1.1, R.2.2.1.2.1, R.2.2.1.2.2), (R.2.2.2.1.1, R.2.2.2.1.2), (R.2.2.2.2.1.1, R.2.2.2.2.1.2), R.2.2.2.2.2.1, R.2.2.2.2.2.2)) rfl ?_
    refine J_aload_n (pc := 18) D2_readSeed_18 rfl ?_
    refine J_callVT (pc := 19) (ac := []) D2_readSeed_19 m2_step_v t600 (c2_step (d := d + 2) (R := (R.1, (R.2.1.1, 1), (R.2.2.1.1, R.2.2.1.2.1, R.2.2.1.2.2), (R.2.2.2.1.1, R.2.2.2.1.2), (R.2.2.2.2.1.1, R.2.2.2.2.1.2), R.2.2.2.2.2.1, R.2.2.2.2.2.2)) hK hI) (by omega) rfl rfl rfl rfl rfl rfl rfl (fun r w' hq hl => ?_)
    obtain ⟨rfl, rfl⟩ := hq
    obtain ⟨C1, eC1⟩ : ∃ x, stepC K R.1 = x := ⟨_, rfl⟩
    refine J_w (w2 := rdrW K (C1, (R.2.1.1, 1), (R.2.2.1.1, R.2.2.1.2.1, R.2.2.1.2.2), (R.2.2.2.1.1, R.2.2.2.1.2), (R.2.2.2.2.1.1, R.2.2.2.2.1.2), R.2.2.2.2.2.1, R.2.2.2.2.2.2)) (by subst eC1; rfl) ?_
    have hC1 : C1.1 ≤ n := by rw [← eC1]; exact stepC_le hK hI.1
    refine J_aload_n (pc := 22) D2_readSeed_22 rfl ?_
    refine J_getf (pc := 23) D2_readSeed_23 fl2_19 rfl rfl ?_
    refine J_aload_n (pc := 26) D2_readSeed_26 rfl ?_
    refine J_iconst (pc := 27) (v := (nI 0)) D2_readSeed_27 (by decide) ?_
    refine J_ldc (pc := 28) D2_readSeed_28 t654 ?_
    refine J_callVT (pc := 30) (ac := [.int _, .int _]) D2_readSeed_30 m2_takeNumber_v t623 (c2_takeNumber (d := d) (R := (C1, (R.2.1.1, 1), (R.2.2.1.1, R.2.2.1.2.1, R.2.2.1.2.2), (R.2.2.2.1.1, R.2.2.2.1.2), (R.2.2.2.2.1.1, R.2.2.2.2.1.2), R.2.2.2.2.2.1, R.2.2.2.2.2.2)) hK (show RI n (C1, (R.2.1.1, 1), (R.2.2.1.1, R.2.2.1.2.1, R.2.2.1.2.2), (R.2.2.2.1.1, R.2.2.2.1.2), (R.2.2.2.2.1.1, R.2.2.2.2.1.2), R.2.2.2.2.2.1, R.2.2.2.2.2.2) from ⟨hC1, hI.2⟩)) (by omega) rfl rfl rfl rfl rfl rfl rfl (fun r w' hq hl => ?_)
    obtain ⟨rfl, rfl⟩ := hq
    obtain ⟨C2, eC2⟩ : ∃ x, numC K (nI 0) 99999 C1 = x := ⟨_, rfl⟩
    obtain ⟨v, ev⟩ : ∃ x, numV K (nI 0) 99999 C1 = x := ⟨_, rfl⟩
    refine J_st [.int v, .ref 6] (by subst ev; rfl) ?_
    refine J_w (w2 := rdrW K (C2, (R.2.1.1, 1), (R.2.2.1.1, R.2.2.1.2.1, R.2.2.1.2.2), (R.2.2.2.1.1, R.2.2.2.1.2), (R.2.2.2.2.1.1, R.2.2.2.2.1.2), R.2.2.2.2.2.1, R.2.2.2.2.2.2)) (by subst eC2; rfl) ?_
    have hC2 : C2.1 ≤ n := by rw [← eC2]; exact numC_le hK hC1
    refine J_putf (pc := 33) D2_readSeed_33 fp2_155 rfl Fit.int rfl ?_
    refine J_vret (pc := 36) D2_readSeed_36 rfl ?_
    refine ⟨rfl, ?_⟩
    rw [seeR, if_pos h4, eC1, eC2, ev]
    try rfl
  · refine J_aload_n (pc := 7) D2_readSeed_7 rfl ?_
    refine J_iconst (pc := 8) (v := (nI 3)) D2_readSeed_8 (by decide) ?_
    refine J_callVT (pc := 9) (ac := [.int _]) D2_readSeed_9 m2_refuse_v t596 (c2_refuse (d := d + 3) hK hI) (by omega) rfl rfl rfl rfl rfl rfl rfl (fun r w' hq hl => ?_)
    obtain ⟨rfl, rfl⟩ := hq
    refine J_vret (pc := 12) D2_readSeed_12 rfl ?_
    refine ⟨rfl, ?_⟩
    rw [seeR, if_neg h4]
    try rfl
