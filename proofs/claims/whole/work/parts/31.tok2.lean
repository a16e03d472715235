/-! TOKENS: reading (own; walks by program wk.py) -/
def nuL (tp : Nat → Int32) : Nat → Nat → Int32 → Nat × Int32
  | 0, p, v => (p, v)
  | g + 1, p, v => if nI 48 ≤ tp p ∧ tp p ≤ nI 57 then nuL tp g (p + 1) (imin (v * nI 10 + (tp p - nI 48)) 1000000) else (p, v)
theorem L5_num {d L c : Nat} {tp kd pl vl : Nat → Int32} (hL : L ≤ 700) (hc : c ≤ 700) : ∀ (g p : Nat) (v : Int32), p + g = L → J m5_readNumber (d + 1) 0 0 5 2 [(0, .ref 0), (1, .int (nI c)), (2, .int v)] [] (tokW L p tp kd pl vl) 0 0 (fun r w' => r = none ∧ w' = tokW L (nuL tp g p v).1 tp (upd kd c (nI 29)) pl (upd vl c (nuL tp g p v).2)) := by
  intro g
  induction g with
  | zero =>
    intro p v hp
    refine J_aload_n (pc := 2) D5_readNumber_2 rfl ?_
    refine J_getf (pc := 3) D5_readNumber_3 fl5_35 rfl rfl ?_
    refine J_aload_n (pc := 6) D5_readNumber_6 rfl ?_
    refine J_getf (pc := 7) D5_readNumber_7 fl5_31 rfl rfl ?_
    refine J_icmp_ge (pc := 10) (tgt := 64) D5_readNumber_10 (by decide) (fun h10 => ?_) (fun h10 => absurd (nI_le (by omega) (by omega)) h10)
    refine J_aload_n (pc := 64) D5_readNumber_64 rfl ?_
    refine J_getf (pc := 65) D5_readNumber_65 fl5_9 rfl rfl ?_
    refine J_iload_n (pc := 68) D5_readNumber_68 rfl ?_
    refine J_bipush (pc := 69) (v := (nI 29)) D5_readNumber_69 (by decide) ?_
    refine J_iast (pc := 71) D5_readNumber_71 rfl rfl (by omega) rfl ?_
    refine J_aload_n (pc := 72) D5_readNumber_72 rfl ?_
    refine J_getf (pc := 73) D5_readNumber_73 fl5_18 rfl rfl ?_
    refine J_iload_n (pc := 76) D5_readNumber_76 rfl ?_
    refine J_iload_n (pc := 77) D5_readNumber_77 rfl ?_
    refine J_iast (pc := 78) D5_readNumber_78 rfl rfl (by omega) rfl ?_
    refine J_vret (pc := 79) D5_readNumber_79 rfl ?_
    exact ⟨rfl, rfl⟩
  | succ g ih =>
    intro p v hp
    refine J_aload_n (pc := 2) D5_readNumber_2 rfl ?_
    refine J_getf (pc := 3) D5_readNumber_3 fl5_35 rfl rfl ?_
    refine J_aload_n (pc := 6) D5_readNumber_6 rfl ?_
    refine J_getf (pc := 7) D5_readNumber_7 fl5_31 rfl rfl ?_
    refine J_icmp_ge (pc := 10) (tgt := 64) D5_readNumber_10 (by decide) (fun h10 => absurd h10 (nI_ge (by omega) (by omega))) (fun h10 => ?_)
    refine J_aload_n (pc := 13) D5_readNumber_13 rfl ?_
    refine J_getf (pc := 14) D5_readNumber_14 fl5_21 rfl rfl ?_
    refine J_aload_n (pc := 17) D5_readNumber_17 rfl ?_
    refine J_getf (pc := 18) D5_readNumber_18 fl5_35 rfl rfl ?_
    refine J_bald (pc := 21) D5_readNumber_21 rfl rfl (by omega) rfl ?_
    refine J_callSR (pc := 22) (ι := []) (ac := [.int _]) D5_readNumber_22 m5_isDigit_s t497 (c5_isDigit (d := d)) (by omega) ⟨rfl, rfl⟩ rfl rfl (fun _ => rfl) rfl rfl rfl ?_
    refine J_if_eq (pc := 25) (tgt := 64) D5_readNumber_25 (by decide) (fun h25 => ?_) (fun h25 => ?_)
    · have h25' := eq_true h25
      replace h25 := i01_z h25
      refine J_aload_n (pc := 64) D5_readNumber_64 rfl ?_
      refine J_getf (pc := 65) D5_readNumber_65 fl5_9 rfl rfl ?_
      refine J_iload_n (pc := 68) D5_readNumber_68 rfl ?_
      refine J_bipush (pc := 69) (v := (nI 29)) D5_readNumber_69 (by decide) ?_
      refine J_iast (pc := 71) D5_readNumber_71 rfl rfl (by omega) rfl ?_
      refine J_aload_n (pc := 72) D5_readNumber_72 rfl ?_
      refine J_getf (pc := 73) D5_readNumber_73 fl5_18 rfl rfl ?_
      refine J_iload_n (pc := 76) D5_readNumber_76 rfl ?_
      refine J_iload_n (pc := 77) D5_readNumber_77 rfl ?_
      refine J_iast (pc := 78) D5_readNumber_78 rfl rfl (by omega) rfl ?_
      refine J_vret (pc := 79) D5_readNumber_79 rfl ?_
      rw [nuL, if_neg h25]
      exact ⟨rfl, rfl⟩
    · replace h25 := i01_nz h25
      refine J_iload_n (pc := 28) D5_readNumber_28 rfl ?_
      refine J_bipush (pc := 29) (v := (nI 10)) D5_readNumber_29 (by decide) ?_
      refine J_imul (pc := 31) D5_readNumber_31 ?_
      refine J_aload_n (pc := 32) D5_readNumber_32 rfl ?_
      refine J_getf (pc := 33) D5_readNumber_33 fl5_21 rfl rfl ?_
      refine J_aload_n (pc := 36) D5_readNumber_36 rfl ?_
      refine J_getf (pc := 37) D5_readNumber_37 fl5_35 rfl rfl ?_
      refine J_bald (pc := 40) D5_readNumber_40 rfl rfl (by omega) rfl ?_
      refine J_bipush (pc := 41) (v := (nI 48)) D5_readNumber_41 (by decide) ?_
      refine J_isub (pc := 43) D5_readNumber_43 ?_
      refine J_iadd (pc := 44) D5_readNumber_44 ?_
      refine J_ldc (pc := 45) D5_readNumber_45 t504 ?_
      refine J_min (pc := 47) D5_readNumber_47 t490 (by omega) rfl rfl rfl ?_
      refine J_istore_n (pc := 50) D5_readNumber_50 rfl ?_
      refine J_aload_n (pc := 51) D5_readNumber_51 rfl ?_
      refine J_dup (pc := 52) D5_readNumber_52 rfl ?_
      refine J_getf (pc := 53) D5_readNumber_53 fl5_35 rfl rfl ?_
      refine J_iconst (pc := 56) (v := (nI 1)) D5_readNumber_56 (by decide) ?_
      refine J_iadd (pc := 57) D5_readNumber_57 ?_
      refine J_st [.int (nI (p + 1)), .ref 0] (by rw [show nI p + nI 1 = nI (p + 1) from nI_1 p]) ?_
      refine J_putf (pc := 58) D5_readNumber_58 fp5_35 rfl Fit.int rfl ?_
      refine J_goto (pc := 61) (tgt := 2) D5_readNumber_61 (by decide) ?_
      rw [nuL, if_pos h25]
      refine J_w (w2 := tokW L (p + 1) tp kd pl vl) rfl ?_
      exact ih (p + 1) _ (by omega)
theorem c5_readNumber {d L p c : Nat} {tp kd pl vl : Nat → Int32} (hL : L ≤ 700) (hc : c ≤ 700) (hp : p ≤ L) : Tr (d + 1) 0 0 m5_readNumber [.ref 0, .int (nI c)] (tokW L p tp kd pl vl) (fun r w' => r = none ∧ w' = tokW L (nuL tp (L - p) p (nI 0)).1 tp (upd kd c (nI 29)) pl (upd vl c (nuL tp (L - p) p (nI 0)).2)) := by
  refine Tr.intro (by decide) rfl ?_
  refine J_iconst (pc := 0) (v := (nI 0)) D5_readNumber_0 (by decide) ?_
  refine J_istore_n (pc := 1) D5_readNumber_1 rfl ?_
  exact L5_num hL hc (L - p) p _ (by omega)
def woS (tp : Nat → Int32) (f p : Nat) (v : Int32) : Int32 := if nI 5 * (nI 5 - (nI p - nI f)) < 0 then v else v ||| ((tp p - nI 97 + nI 1) <<< ((nI 5 * (nI 5 - (nI p - nI f))) &&& 31))
def woL (tp : Nat → Int32) (f : Nat) : Nat → Nat → Int32 → Nat × Int32
  | 0, p, v => (p, v)
  | g + 1, p, v => if nI 97 ≤ tp p ∧ tp p ≤ nI 122 then woL tp f g (p + 1) (woS tp f p v) else (p, v)
theorem woL_le {tp : Nat → Int32} {f : Nat} : ∀ (g p : Nat) (v : Int32), p ≤ (woL tp f g p v).1 ∧ (woL tp f g p v).1 ≤ p + g
  | 0, p, v => ⟨Nat.le_refl _, Nat.le_refl _⟩
  | g + 1, p, v => by
    unfold woL
    split
    · have := woL_le g (p + 1) (woS tp f p v) (tp := tp) (f := f)
      omega
    · exact ⟨Nat.le_refl _, by omega⟩
theorem nuL_le {tp : Nat → Int32} : ∀ (g p : Nat) (v : Int32), p ≤ (nuL tp g p v).1 ∧ (nuL tp g p v).1 ≤ p + g
  | 0, p, v => ⟨Nat.le_refl _, Nat.le_refl _⟩
  | g + 1, p, v => by
    unfold nuL
    split
    · have := nuL_le g (p + 1) (imin (v * nI 10 + (tp p - nI 48)) 1000000) (tp := tp)
      omega
    · exact ⟨Nat.le_refl _, by omega⟩
def wdK (tp : Nat → Int32) (f e : Nat) : Int32 := match wrF tp f (e - f) with
  | some w => nI w
  | none => if e - f ≤ 6 then nI 30 else nI 35
theorem wrL_lt {tp : Nat → Int32} {f n : Nat} : ∀ (g i w st : Nat), ∀ x, wrL tp f n g i w st = some x → x < w + g
  | 0, _, _, _, x, h => by cases h
  | g + 1, i, w, st, x, h => by
    unfold wrL at h
    split at h
    · cases hb : wrB tp f n i st with
      | true => rw [hb] at h; cases h; omega
      | false => rw [hb] at h; have := wrL_lt g _ _ _ x h; omega
    · have := wrL_lt g _ _ _ x h; omega
theorem L5_word83 {d L p c f : Nat} {tp kd pl vl : Nat → Int32} {v : Int32} {ls : List (Nat × Value)} (hL : L ≤ 700) (hc : c ≤ 700) (hp : p ≤ L) (hf : f ≤ p) : J m5_readWord (d + 6) 0 0 5 83 [(0, .ref 0), (1, .int (nI c)), (2, .int (nI f)), (3, .int v)] [] (tokW L p tp kd pl vl) 0 0 (fun r w' => r = none ∧ w' = tokW L p tp (upd kd c (wdK tp f p)) pl (upd vl c v)) := by
  refine J_aload_n (pc := 83) D5_readWord_83 rfl ?_
  refine J_iload_n (pc := 84) D5_readWord_84 rfl ?_
  refine J_aload_n (pc := 85) D5_readWord_85 rfl ?_
  refine J_getf (pc := 86) D5_readWord_86 fl5_35 rfl rfl ?_
  refine J_iload_n (pc := 89) D5_readWord_89 rfl ?_
  refine J_isub (pc := 90) D5_readWord_90 ?_
  refine J_st [.int (nI (p - f)), .int (nI f), .ref 0] (by rw [pk_sub hf]) ?_
  refine J_callVTR (pc := 91) (ac := [.int _, .int _]) D5_readWord_91 m5_wordFrom_v t512 (c5_wordFrom (d := d) (f := f) (n := p - f) (by omega)) (by omega) rfl rfl rfl rfl (fun _ => rfl) rfl rfl rfl ?_
  refine J_istore (pc := 94) D5_readWord_94 rfl ?_
  refine J_iload (pc := 96) D5_readWord_96 rfl ?_
  refine J_iconst (pc := 98) (v := (-1)) D5_readWord_98 (by decide) ?_
  refine J_icmp_ne (pc := 99) (tgt := 122) D5_readWord_99 (by decide) (fun h99 => ?_) (fun h99 => ?_)
  · obtain ⟨w, ew⟩ := wkI_s h99
    refine J_aload_n (pc := 122) D5_readWord_122 rfl ?_
    refine J_getf (pc := 123) D5_readWord_123 fl5_9 rfl rfl ?_
    refine J_iload_n (pc := 126) D5_readWord_126 rfl ?_
    refine J_iload (pc := 127) D5_readWord_127 rfl ?_
    refine J_iast (pc := 129) D5_readWord_129 rfl rfl (by omega) rfl ?_
    refine J_aload_n (pc := 130) D5_readWord_130 rfl ?_
    refine J_getf (pc := 131) D5_readWord_131 fl5_18 rfl rfl ?_
    refine J_iload_n (pc := 134) D5_readWord_134 rfl ?_
    refine J_iload_n (pc := 135) D5_readWord_135 rfl ?_
    refine J_iast (pc := 136) D5_readWord_136 rfl rfl (by omega) rfl ?_
    refine J_vret (pc := 137) D5_readWord_137 rfl ?_
    refine ⟨rfl, ?_⟩
    rw [wdK, ew]
    rfl
  · have h99' := eq_true h99
    have ew : wrF tp f (p - f) = none := by
      cases hw : wrF tp f (p - f) with
      | none => rfl
      | some w =>
        have hlt := wrL_lt _ _ _ _ w hw
        rw [hw] at h99
        exact absurd (show nI w < 0 by rw [show nI w = -1 from h99]; decide) (nI_pos (by omega))
    refine J_aload_n (pc := 102) D5_readWord_102 rfl ?_
    refine J_getf (pc := 103) D5_readWord_103 fl5_35 rfl rfl ?_
    refine J_iload_n (pc := 106) D5_readWord_106 rfl ?_
    refine J_isub (pc := 107) D5_readWord_107 ?_
    refine J_st [.int (nI (p - f))] (by rw [pk_sub hf]) ?_
    refine J_bipush (pc := 108) (v := (nI 6)) D5_readWord_108 (by decide) ?_
    refine J_icmp_gt (pc := 110) (tgt := 118) D5_readWord_110 (by decide) (fun h110 => ?_) (fun h110 => ?_)
    · have h110' := Int32.not_le.mpr h110
      have hg := (nI_ltI (by omega) (by omega)).mp h110
      refine J_bipush (pc := 118) (v := (nI 35)) D5_readWord_118 (by decide) ?_
      refine J_istore (pc := 120) D5_readWord_120 rfl ?_
      refine J_aload_n (pc := 122) D5_readWord_122 rfl ?_
      refine J_getf (pc := 123) D5_readWord_123 fl5_9 rfl rfl ?_
      refine J_iload_n (pc := 126) D5_readWord_126 rfl ?_
      refine J_iload (pc := 127) D5_readWord_127 rfl ?_
      refine J_iast (pc := 129) D5_readWord_129 rfl rfl (by omega) rfl ?_
      refine J_aload_n (pc := 130) D5_readWord_130 rfl ?_
      refine J_getf (pc := 131) D5_readWord_131 fl5_18 rfl rfl ?_
      refine J_iload_n (pc := 134) D5_readWord_134 rfl ?_
      refine J_iload_n (pc := 135) D5_readWord_135 rfl ?_
      refine J_iast (pc := 136) D5_readWord_136 rfl rfl (by omega) rfl ?_
      refine J_vret (pc := 137) D5_readWord_137 rfl ?_
      refine ⟨rfl, ?_⟩
      rw [wdK, ew]
      simp only []
      rw [if_neg (by omega)]
      rfl
    · have h110' := Int32.not_lt.mp h110
      have hg := (nI_leI (by omega) (by omega)).mp h110'
      refine J_bipush (pc := 113) (v := (nI 30)) D5_readWord_113 (by decide) ?_
      refine J_goto (pc := 115) (tgt := 120) D5_readWord_115 (by decide) ?_
      refine J_istore (pc := 120) D5_readWord_120 rfl ?_
      refine J_aload_n (pc := 122) D5_readWord_122 rfl ?_
      refine J_getf (pc := 123) D5_readWord_123 fl5_9 rfl rfl ?_
      refine J_iload_n (pc := 126) D5_readWord_126 rfl ?_
      refine J_iload (pc := 127) D5_readWord_127 rfl ?_
      refine J_iast (pc := 129) D5_readWord_129 rfl rfl (by omega) rfl ?_
      refine J_aload_n (pc := 130) D5_readWord_130 rfl ?_
      refine J_getf (pc := 131) D5_readWord_131 fl5_18 rfl rfl ?_
      refine J_iload_n (pc := 134) D5_readWord_134 rfl ?_
      refine J_iload_n (pc := 135) D5_readWord_135 rfl ?_
      refine J_iast (pc := 136) D5_readWord_136 rfl rfl (by omega) rfl ?_
      refine J_vret (pc := 137) D5_readWord_137 rfl ?_
      refine ⟨rfl, ?_⟩
      rw [wdK, ew]
      simp only []
      rw [if_pos hg]
      rfl
theorem L5_word {d L c f : Nat} {tp kd pl vl : Nat → Int32} (hL : L ≤ 700) (hc : c ≤ 700) : ∀ (g p : Nat) (v : Int32), p + g = L → f ≤ p → J m5_readWord (d + 6) 0 0 5 7 [(0, .ref 0), (1, .int (nI c)), (2, .int (nI f)), (3, .int v)] [] (tokW L p tp kd pl vl) 0 0 (fun r w' => r = none ∧ w' = tokW L (woL tp f g p v).1 tp (upd kd c (wdK tp f (woL tp f g p v).1)) pl (upd vl c (woL tp f g p v).2)) := by
  intro g
  induction g with
  | zero =>
    intro p v hp hf
    refine J_aload_n (pc := 7) D5_readWord_7 rfl ?_
    refine J_getf (pc := 8) D5_readWord_8 fl5_35 rfl rfl ?_
    refine J_aload_n (pc := 11) D5_readWord_11 rfl ?_
    refine J_getf (pc := 12) D5_readWord_12 fl5_31 rfl rfl ?_
    refine J_icmp_ge (pc := 15) (tgt := 83) D5_readWord_15 (by decide) (fun h15 => ?_) (fun h15 => absurd (nI_le (by omega) (by omega)) h15)
    exact L5_word83 (ls := []) hL hc (by omega) hf
  | succ g ih =>
    intro p v hp hf
    refine J_aload_n (pc := 7) D5_readWord_7 rfl ?_
    refine J_getf (pc := 8) D5_readWord_8 fl5_35 rfl rfl ?_
    refine J_aload_n (pc := 11) D5_readWord_11 rfl ?_
    refine J_getf (pc := 12) D5_readWord_12 fl5_31 rfl rfl ?_
    refine J_icmp_ge (pc := 15) (tgt := 83) D5_readWord_15 (by decide) (fun h15 => absurd h15 (nI_ge (by omega) (by omega))) (fun h15 => ?_)
    refine J_aload_n (pc := 18) D5_readWord_18 rfl ?_
    refine J_getf (pc := 19) D5_readWord_19 fl5_21 rfl rfl ?_
    refine J_aload_n (pc := 22) D5_readWord_22 rfl ?_
    refine J_getf (pc := 23) D5_readWord_23 fl5_35 rfl rfl ?_
    refine J_bald (pc := 26) D5_readWord_26 rfl rfl (by omega) rfl ?_
    refine J_callSR (pc := 27) (ι := []) (ac := [.int _]) D5_readWord_27 m5_isLetter_s t505 (c5_isLetter (d := d + 5)) (by omega) ⟨rfl, rfl⟩ rfl rfl (fun _ => rfl) rfl rfl rfl ?_
    refine J_if_eq (pc := 30) (tgt := 83) D5_readWord_30 (by decide) (fun h30 => ?_) (fun h30 => ?_)
    · have h30' := eq_true h30
      replace h30 := i01_z h30
      rw [woL, if_neg h30]
      exact L5_word83 (ls := []) hL hc (by omega) hf
    · replace h30 := i01_nz h30
      refine J_iconst (pc := 33) (v := (nI 5)) D5_readWord_33 (by decide) ?_
      refine J_iconst (pc := 34) (v := (nI 5)) D5_readWord_34 (by decide) ?_
      refine J_aload_n (pc := 35) D5_readWord_35 rfl ?_
      refine J_getf (pc := 36) D5_readWord_36 fl5_35 rfl rfl ?_
      refine J_iload_n (pc := 39) D5_readWord_39 rfl ?_
      refine J_isub (pc := 40) D5_readWord_40 ?_
      refine J_isub (pc := 41) D5_readWord_41 ?_
      refine J_imul (pc := 42) D5_readWord_42 ?_
      refine J_istore (pc := 43) D5_readWord_43 rfl ?_
      refine J_iload (pc := 45) D5_readWord_45 rfl ?_
      refine J_if_lt (pc := 47) (tgt := 70) D5_readWord_47 (by decide) (fun h47 => ?_) (fun h47 => ?_)
      · have h47' := Int32.not_le.mpr h47
        refine J_aload_n (pc := 70) D5_readWord_70 rfl ?_
        refine J_dup (pc := 71) D5_readWord_71 rfl ?_
        refine J_getf (pc := 72) D5_readWord_72 fl5_35 rfl rfl ?_
        refine J_iconst (pc := 75) (v := (nI 1)) D5_readWord_75 (by decide) ?_
        refine J_iadd (pc := 76) D5_readWord_76 ?_
        refine J_st [.int (nI (p + 1)), .ref 0] (by rw [show nI p + nI 1 = nI (p + 1) from nI_1 p]) ?_
        refine J_putf (pc := 77) D5_readWord_77 fp5_35 rfl Fit.int rfl ?_
        refine J_goto (pc := 80) (tgt := 7) D5_readWord_80 (by decide) ?_
        rw [woL, if_pos h30]
        refine J_w (w2 := tokW L (p + 1) tp kd pl vl) rfl ?_
        refine J_lk [(0, .ref 0), (1, .int (nI c)), (2, .int (nI f)), (3, .int (woS tp f p v))] (by rw [woS, if_pos h47]; rfl) ?_
        exact ih (p + 1) _ (by omega) (by omega)
      · have h47' := Int32.not_lt.mp h47
        refine J_iload_n (pc := 50) D5_readWord_50 rfl ?_
        refine J_aload_n (pc := 51) D5_readWord_51 rfl ?_
        refine J_getf (pc := 52) D5_readWord_52 fl5_21 rfl rfl ?_
        refine J_aload_n (pc := 55) D5_readWord_55 rfl ?_
        refine J_getf (pc := 56) D5_readWord_56 fl5_35 rfl rfl ?_
        refine J_bald (pc := 59) D5_readWord_59 rfl rfl (by omega) rfl ?_
        refine J_bipush (pc := 60) (v := (nI 97)) D5_readWord_60 (by decide) ?_
        refine J_isub (pc := 62) D5_readWord_62 ?_
        refine J_iconst (pc := 63) (v := (nI 1)) D5_readWord_63 (by decide) ?_
        refine J_iadd (pc := 64) D5_readWord_64 ?_
        refine J_iload (pc := 65) D5_readWord_65 rfl ?_
        refine J_ishl (pc := 67) D5_readWord_67 ?_
        refine J_ior (pc := 68) D5_readWord_68 ?_
        refine J_istore_n (pc := 69) D5_readWord_69 rfl ?_
        refine J_aload_n (pc := 70) D5_readWord_70 rfl ?_
        refine J_dup (pc := 71) D5_readWord_71 rfl ?_
        refine J_getf (pc := 72) D5_readWord_72 fl5_35 rfl rfl ?_
        refine J_iconst (pc := 75) (v := (nI 1)) D5_readWord_75 (by decide) ?_
        refine J_iadd (pc := 76) D5_readWord_76 ?_
        refine J_st [.int (nI (p + 1)), .ref 0] (by rw [show nI p + nI 1 = nI (p + 1) from nI_1 p]) ?_
        refine J_putf (pc := 77) D5_readWord_77 fp5_35 rfl Fit.int rfl ?_
        refine J_goto (pc := 80) (tgt := 7) D5_readWord_80 (by decide) ?_
        rw [woL, if_pos h30]
        refine J_w (w2 := tokW L (p + 1) tp kd pl vl) rfl ?_
        refine J_lk [(0, .ref 0), (1, .int (nI c)), (2, .int (nI f)), (3, .int (woS tp f p v))] (by rw [woS, if_neg h47]; rfl) ?_
        exact ih (p + 1) _ (by omega) (by omega)
theorem c5_readWord {d L p c : Nat} {tp kd pl vl : Nat → Int32} (hL : L ≤ 700) (hc : c ≤ 700) (hp : p ≤ L) : Tr (d + 6) 0 0 m5_readWord [.ref 0, .int (nI c)] (tokW L p tp kd pl vl) (fun r w' => r = none ∧ w' = tokW L (woL tp p (L - p) p (nI 0)).1 tp (upd kd c (wdK tp p (woL tp p (L - p) p (nI 0)).1)) pl (upd vl c (woL tp p (L - p) p (nI 0)).2)) := by
  refine Tr.intro (by decide) rfl ?_
  refine J_aload_n (pc := 0) D5_readWord_0 rfl ?_
  refine J_getf (pc := 1) D5_readWord_1 fl5_35 rfl rfl ?_
  refine J_istore_n (pc := 4) D5_readWord_4 rfl ?_
  refine J_iconst (pc := 5) (v := (nI 0)) D5_readWord_5 (by decide) ?_
  refine J_istore_n (pc := 6) D5_readWord_6 rfl ?_
  exact L5_word hL hc (L - p) p _ (by omega) (by omega)
/-- one token at p: its kind, its value if it has one, where it ends -/
def tk1 (tp : Nat → Int32) (L p : Nat) : Int32 × Option Int32 × Nat :=
  if nI 48 ≤ tp p ∧ tp p ≤ nI 57 then (nI 29, some (nuL tp (L - p) p (nI 0)).2, (nuL tp (L - p) p (nI 0)).1)
  else if nI 97 ≤ tp p ∧ tp p ≤ nI 122 then (wdK tp p (woL tp p (L - p) p (nI 0)).1, some (woL tp p (L - p) p (nI 0)).2, (woL tp p (L - p) p (nI 0)).1)
  else (sgO (tp p) (if p + 1 < L then tp (p + 1) else nI 0), none, if two (sgO (tp p) (if p + 1 < L then tp (p + 1) else nI 0)) = 0 then p + 1 else p + 2)
def vlU (vl : Nat → Int32) (c : Nat) : Option Int32 → Nat → Int32
  | some v => upd vl c v
  | none => vl
theorem L5_one78 {d L p c : Nat} {tp kd pl vl : Nat → Int32} {k x : Int32} (hc : c ≤ 700) (ek : kd c = k) : J m5_readOne (d + 7) 0 0 5 78 [(0, .ref 0), (1, .int (nI c)), (2, .int x)] [] (tokW L p tp kd pl vl) 0 0 (fun r w' => r = none ∧ w' = tokW L (if two k = 0 then p + 1 else p + 2) tp kd pl vl) := by
  refine J_aload_n (pc := 78) D5_readOne_78 rfl ?_
  refine J_dup (pc := 79) D5_readOne_79 rfl ?_
  refine J_getf (pc := 80) D5_readOne_80 fl5_35 rfl rfl ?_
  refine J_aload_n (pc := 83) D5_readOne_83 rfl ?_
  refine J_getf (pc := 84) D5_readOne_84 fl5_9 rfl rfl ?_
  refine J_iload_n (pc := 87) D5_readOne_87 rfl ?_
  refine J_iald (pc := 88) D5_readOne_88 rfl rfl (by omega) rfl ?_
  refine J_callSR (pc := 89) (ι := []) (ac := [.int _]) (rest := [_, _]) D5_readOne_89 m5_isOfTwo_s t572 (c5_isOfTwo (d := d + 6)) (by omega) ⟨rfl, rfl⟩ rfl rfl (fun _ => rfl) rfl rfl rfl ?_
  refine J_if_eq (pc := 92) (tgt := 99) D5_readOne_92 (by decide) (fun h92 => ?_) (fun h92 => ?_)
  · have h92' := eq_true h92
    refine J_iconst (pc := 99) (v := (nI 1)) D5_readOne_99 (by decide) ?_
    refine J_iadd (pc := 100) D5_readOne_100 ?_
    refine J_st [.int (nI (p + 1)), .ref 0] (by rw [nI_add]) ?_
    refine J_putf (pc := 101) D5_readOne_101 fp5_35 rfl Fit.int rfl ?_
    refine J_vret (pc := 104) D5_readOne_104 rfl ?_
    refine ⟨rfl, ?_⟩
    rw [ek] at h92
    rw [if_pos h92]
    rfl
  · refine J_iconst (pc := 95) (v := (nI 2)) D5_readOne_95 (by decide) ?_
    refine J_goto (pc := 96) (tgt := 100) D5_readOne_96 (by decide) ?_
    refine J_iadd (pc := 100) D5_readOne_100 ?_
    refine J_st [.int (nI (p + 2)), .ref 0] (by rw [nI_add]) ?_
    refine J_putf (pc := 101) D5_readOne_101 fp5_35 rfl Fit.int rfl ?_
    refine J_vret (pc := 104) D5_readOne_104 rfl ?_
    refine ⟨rfl, ?_⟩
    rw [ek] at h92
    rw [if_neg h92]
    rfl
theorem c5_readOne {d L p c : Nat} {tp kd pl vl : Nat → Int32} (hL : L ≤ 700) (hc : c ≤ 700) (hp : p < L) : Tr (d + 7) 0 0 m5_readOne [.ref 0, .int (nI c)] (tokW L p tp kd pl vl) (fun r w' => r = none ∧ w' = tokW L (tk1 tp L p).2.2 tp (upd kd c (tk1 tp L p).1) pl (vlU vl c (tk1 tp L p).2.1)) := by
  refine Tr.intro (by decide) rfl ?_
  refine J_aload_n (pc := 0) D5_readOne_0 rfl ?_
  refine J_getf (pc := 1) D5_readOne_1 fl5_21 rfl rfl ?_
  refine J_aload_n (pc := 4) D5_readOne_4 rfl ?_
  refine J_getf (pc := 5) D5_readOne_5 fl5_35 rfl rfl ?_
  refine J_bald (pc := 8) D5_readOne_8 rfl rfl (by omega) rfl ?_
  refine J_istore_n (pc := 9) D5_readOne_9 rfl ?_
  refine J_iload_n (pc := 10) D5_readOne_10 rfl ?_
  refine J_callSR (pc := 11) (ι := []) (ac := [.int _]) D5_readOne_11 m5_isDigit_s t497 (c5_isDigit (d := d + 6)) (by omega) ⟨rfl, rfl⟩ rfl rfl (fun _ => rfl) rfl rfl rfl ?_
  refine J_if_eq (pc := 14) (tgt := 25) D5_readOne_14 (by decide) (fun h14 => ?_) (fun h14 => ?_)
  · have h14' := eq_true h14
    replace h14 := i01_z h14
    refine J_iload_n (pc := 25) D5_readOne_25 rfl ?_
    refine J_callSR (pc := 26) (ι := []) (ac := [.int _]) D5_readOne_26 m5_isLetter_s t505 (c5_isLetter (d := d + 6)) (by omega) ⟨rfl, rfl⟩ rfl rfl (fun _ => rfl) rfl rfl rfl ?_
    refine J_if_eq (pc := 29) (tgt := 40) D5_readOne_29 (by decide) (fun h29 => ?_) (fun h29 => ?_)
    · have h29' := eq_true h29
      replace h29 := i01_z h29
      refine J_aload_n (pc := 40) D5_readOne_40 rfl ?_
      refine J_getf (pc := 41) D5_readOne_41 fl5_9 rfl rfl ?_
      refine J_iload_n (pc := 44) D5_readOne_44 rfl ?_
      refine J_iload_n (pc := 45) D5_readOne_45 rfl ?_
      refine J_aload_n (pc := 46) D5_readOne_46 rfl ?_
      refine J_getf (pc := 47) D5_readOne_47 fl5_35 rfl rfl ?_
      refine J_iconst (pc := 50) (v := (nI 1)) D5_readOne_50 (by decide) ?_
      refine J_iadd (pc := 51) D5_readOne_51 ?_
      refine J_st [.int (nI (p + 1)), .int (tp p), .int (nI c), .ref 2] (by rw [show nI p + nI 1 = nI (p + 1) from nI_1 p]) ?_
      refine J_aload_n (pc := 52) D5_readOne_52 rfl ?_
      refine J_getf (pc := 53) D5_readOne_53 fl5_31 rfl rfl ?_
      refine J_icmp_ge (pc := 56) (tgt := 73) D5_readOne_56 (by decide) (fun h56 => ?_) (fun h56 => ?_)
      · have h56' := Int32.not_lt.mpr h56
        have hq9 := (nI_leI (by omega) (by omega)).mp h56
        refine J_iconst (pc := 73) (v := (nI 0)) D5_readOne_73 (by decide) ?_
        refine J_callSR (pc := 74) (ι := []) (ac := [.int _, .int _]) (rest := [_, _]) D5_readOne_74 m5_signOf_s t569 (c5_signOf (d := d + 6)) (by omega) ⟨rfl, rfl⟩ rfl rfl (fun _ => rfl) rfl rfl rfl ?_
        refine J_iast (pc := 77) D5_readOne_77 rfl rfl (by omega) rfl ?_
        refine J_w (w2 := tokW L p tp (upd kd c (sgO (tp p) (nI 0))) pl vl) rfl ?_
        rw [tk1, if_neg h14, if_neg h29, if_neg (show ¬ p + 1 < L by omega)]
        exact L5_one78 hc pk_us
      · have h56' := Int32.not_le.mp h56
        have hq9 := (nI_ltI (by omega) (by omega)).mp h56'
        refine J_aload_n (pc := 59) D5_readOne_59 rfl ?_
        refine J_getf (pc := 60) D5_readOne_60 fl5_21 rfl rfl ?_
        refine J_aload_n (pc := 63) D5_readOne_63 rfl ?_
        refine J_getf (pc := 64) D5_readOne_64 fl5_35 rfl rfl ?_
        refine J_iconst (pc := 67) (v := (nI 1)) D5_readOne_67 (by decide) ?_
        refine J_iadd (pc := 68) D5_readOne_68 ?_
        refine J_st [.int (nI (p + 1)), .ref 1, .int (tp p), .int (nI c), .ref 2] (by rw [show nI p + nI 1 = nI (p + 1) from nI_1 p]) ?_
        refine J_bald (pc := 69) D5_readOne_69 rfl rfl (by omega) rfl ?_
        refine J_goto (pc := 70) (tgt := 74) D5_readOne_70 (by decide) ?_
        refine J_callSR (pc := 74) (ι := []) (ac := [.int _, .int _]) (rest := [_, _]) D5_readOne_74 m5_signOf_s t569 (c5_signOf (d := d + 6)) (by omega) ⟨rfl, rfl⟩ rfl rfl (fun _ => rfl) rfl rfl rfl ?_
        refine J_iast (pc := 77) D5_readOne_77 rfl rfl (by omega) rfl ?_
        refine J_w (w2 := tokW L p tp (upd kd c (sgO (tp p) (tp (p + 1)))) pl vl) rfl ?_
        rw [tk1, if_neg h14, if_neg h29, if_pos hq9]
        exact L5_one78 hc pk_us
    · replace h29 := i01_nz h29
      refine J_aload_n (pc := 32) D5_readOne_32 rfl ?_
      refine J_iload_n (pc := 33) D5_readOne_33 rfl ?_
      refine J_callVT (pc := 34) (ac := [.int _]) D5_readOne_34 m5_readWord_v t508 (c5_readWord (d := d) hL hc (by omega)) (by omega) rfl rfl rfl rfl rfl rfl rfl (fun r w' hq hl => ?_)
      obtain ⟨rfl, rfl⟩ := hq
      refine J_goto (pc := 37) (tgt := 104) D5_readOne_37 (by decide) ?_
      refine J_vret (pc := 104) D5_readOne_104 rfl ?_
      refine ⟨rfl, ?_⟩
      rw [tk1, if_neg h14, if_pos h29]
      rfl
  · replace h14 := i01_nz h14
    refine J_aload_n (pc := 17) D5_readOne_17 rfl ?_
    refine J_iload_n (pc := 18) D5_readOne_18 rfl ?_
    refine J_callVT (pc := 19) (ac := [.int _]) D5_readOne_19 m5_readNumber_v t500 (c5_readNumber (d := d + 5) hL hc (by omega)) (by omega) rfl rfl rfl rfl rfl rfl rfl (fun r w' hq hl => ?_)
    obtain ⟨rfl, rfl⟩ := hq
    refine J_goto (pc := 22) (tgt := 104) D5_readOne_22 (by decide) ?_
    refine J_vret (pc := 104) D5_readOne_104 rfl ?_
    refine ⟨rfl, ?_⟩
    rw [tk1, if_pos h14]
    rfl
