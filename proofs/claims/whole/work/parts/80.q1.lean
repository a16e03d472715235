/-! THE MODEL: tokens (own program mod_q1.py) -/
theorem c10_isSmall {d : Nat} {x : Int32} : TR d m10_isSmall [.int x] [] (.int (i01 (nI 97 ≤ x ∧ x ≤ nI 122))) := by
  refine Tr.intro (by decide) rfl ?_
  refine J_iload_n (pc := 0) D10_isSmall_0 rfl ?_
  refine J_bipush (pc := 1) (v := (nI 97)) D10_isSmall_1 (by decide) ?_
  refine J_icmp_lt (pc := 3) (tgt := 16) D10_isSmall_3 (by decide) (fun h3 => ?_) (fun h3 => ?_)
  · have h3' := Int32.not_le.mpr h3
    refine J_iconst (pc := 16) (v := (nI 0)) D10_isSmall_16 (by decide) ?_
    refine J_zret (pc := 17) D10_isSmall_17 rfl (by decide) ?_
    exact ⟨rfl, congrArg (fun q => some (Value.int q)) (i01_f (fun q => absurd q.1 (Int32.not_le.mpr h3))).symm⟩
  · have h3' := Int32.not_lt.mp h3
    refine J_iload_n (pc := 6) D10_isSmall_6 rfl ?_
    refine J_bipush (pc := 7) (v := (nI 122)) D10_isSmall_7 (by decide) ?_
    refine J_icmp_gt (pc := 9) (tgt := 16) D10_isSmall_9 (by decide) (fun h9 => ?_) (fun h9 => ?_)
    · have h9' := Int32.not_le.mpr h9
      refine J_iconst (pc := 16) (v := (nI 0)) D10_isSmall_16 (by decide) ?_
      refine J_zret (pc := 17) D10_isSmall_17 rfl (by decide) ?_
      exact ⟨rfl, congrArg (fun q => some (Value.int q)) (i01_f (fun q => absurd q.2 (Int32.not_le.mpr h9))).symm⟩
    · have h9' := Int32.not_lt.mp h9
      refine J_iconst (pc := 12) (v := (nI 1)) D10_isSmall_12 (by decide) ?_
      refine J_goto (pc := 13) (tgt := 17) D10_isSmall_13 (by decide) ?_
      refine J_zret (pc := 17) D10_isSmall_17 rfl (by decide) ?_
      exact ⟨rfl, congrArg (fun q => some (Value.int q)) (i01_t ⟨Int32.not_lt.mp h3, Int32.not_lt.mp h9⟩).symm⟩
theorem c10_isDigit {d : Nat} {x : Int32} : TR d m10_isDigit [.int x] [] (.int (i01 (nI 48 ≤ x ∧ x ≤ nI 57))) := by
  refine Tr.intro (by decide) rfl ?_
  refine J_iload_n (pc := 0) D10_isDigit_0 rfl ?_
  refine J_bipush (pc := 1) (v := (nI 48)) D10_isDigit_1 (by decide) ?_
  refine J_icmp_lt (pc := 3) (tgt := 16) D10_isDigit_3 (by decide) (fun h3 => ?_) (fun h3 => ?_)
  · have h3' := Int32.not_le.mpr h3
    refine J_iconst (pc := 16) (v := (nI 0)) D10_isDigit_16 (by decide) ?_
    refine J_zret (pc := 17) D10_isDigit_17 rfl (by decide) ?_
    exact ⟨rfl, congrArg (fun q => some (Value.int q)) (i01_f (fun q => absurd q.1 (Int32.not_le.mpr h3))).symm⟩
  · have h3' := Int32.not_lt.mp h3
    refine J_iload_n (pc := 6) D10_isDigit_6 rfl ?_
    refine J_bipush (pc := 7) (v := (nI 57)) D10_isDigit_7 (by decide) ?_
    refine J_icmp_gt (pc := 9) (tgt := 16) D10_isDigit_9 (by decide) (fun h9 => ?_) (fun h9 => ?_)
    · have h9' := Int32.not_le.mpr h9
      refine J_iconst (pc := 16) (v := (nI 0)) D10_isDigit_16 (by decide) ?_
      refine J_zret (pc := 17) D10_isDigit_17 rfl (by decide) ?_
      exact ⟨rfl, congrArg (fun q => some (Value.int q)) (i01_f (fun q => absurd q.2 (Int32.not_le.mpr h9))).symm⟩
    · have h9' := Int32.not_lt.mp h9
      refine J_iconst (pc := 12) (v := (nI 1)) D10_isDigit_12 (by decide) ?_
      refine J_goto (pc := 13) (tgt := 17) D10_isDigit_13 (by decide) ?_
      refine J_zret (pc := 17) D10_isDigit_17 rfl (by decide) ?_
      exact ⟨rfl, congrArg (fun q => some (Value.int q)) (i01_t ⟨Int32.not_lt.mp h3, Int32.not_lt.mp h9⟩).symm⟩
def hrE (m : Nat → Int32) (z q : Nat) : Int32 := if q < z then m q else -1
theorem c10_here {d : Nat} {s : Nat → Int32} {A : Nat → Nat → Int32} {L : LL} {M : Nat → MR} {q z : Nat} (e23 : s 23 = nI q) (e22 : s 22 = nI z) (hz : z ≤ 700) (hq : q ≤ z) : TR d m10_here [.ref 0] (modW s A L M) (.int (hrE (A 1) z q)) := by
  refine Tr.intro (by decide) rfl ?_
  refine J_aload_n (pc := 0) D10_here_0 rfl ?_
  refine J_getf (pc := 1) D10_here_1 fl10_145 rfl rfl ?_
  refine J_aload_n (pc := 4) D10_here_4 rfl ?_
  refine J_getf (pc := 5) D10_here_5 fl10_148 rfl rfl ?_
  rw [e23, e22]
  refine J_icmp_ge (pc := 8) (tgt := 23) D10_here_8 (by decide) (fun h8 => ?_) (fun h8 => ?_)
  · have h8' := Int32.not_lt.mpr h8
    have hn : ¬ q < z := fun y => absurd h8 (nI_ge y (by omega))
    refine J_iconst (pc := 23) (v := (-1)) D10_here_23 (by decide) ?_
    refine J_iret (pc := 24) D10_here_24 rfl ?_
    exact ⟨rfl, congrArg (fun q => some (Value.int q)) (if_neg hn).symm⟩
  · have h8' := Int32.not_le.mp h8
    have hn : q < z := Nat.not_le.mp (fun y => h8 (nI_le y (by omega)))
    refine J_aload_n (pc := 11) D10_here_11 rfl ?_
    refine J_getf (pc := 12) D10_here_12 fl10_7 rfl rfl ?_
    refine J_aload_n (pc := 15) D10_here_15 rfl ?_
    refine J_getf (pc := 16) D10_here_16 fl10_145 rfl rfl ?_
    refine J_mald (pc := 19) D10_here_19 ma_1 e23 (by omega) rfl ?_
    refine J_goto (pc := 20) (tgt := 24) D10_here_20 (by decide) ?_
    refine J_iret (pc := 24) D10_here_24 rfl ?_
    exact ⟨rfl, congrArg (fun q => some (Value.int q)) (if_pos hn).symm⟩
theorem L10_w15 {d : Nat} {s : Nat → Int32} {A : Nat → Nat → Int32} {L : LL} {M : Nat → MR} {f n j : Nat} (e24 : s 24 = nI f) (e23 : s 23 = nI (f + n)) (hf : f + n ≤ 700) (hj : j < 19) {Q : Option Value → List EC → Prop} (K1 : P3 (A 1) f n j → Q (some (.int (nI j))) (modW s A L M)) (K2 : ¬ P3 (A 1) f n j → J m10_word (d + 4) 0 0 40 97 [(0, .ref 0), (1, .int (nI j)), (2, .int (nI (stM j)))] [] (modW s A L M) 0 0 Q) : ∀ (g i : Nat), i + g = stM (j + 1) - stM j - 1 → i ≤ n → (∀ k, k < i → chS 3 (stM j + k) = A 1 (f + k)) → J m10_word (d + 4) 0 0 40 15 [(0, .ref 0), (1, .int (nI j)), (2, .int (nI (stM j))), (3, .int (nI i))] [] (modW s A L M) 0 0 Q := by
  obtain ⟨d1, d2, d3, d4⟩ := stM_d j hj
  intro g
  induction g with
  | zero =>
    intro i hi hn hm
    have e32 : chS 3 (stM j + i) = nI 32 := by rw [show stM j + i = stM (j + 1) - 1 by omega]; exact d3
    by_cases hx : i = n
    · refine J_ldcS (pc := 15) (i := 3) D10_word_15 rfl ?_
      refine J_iload_n (pc := 17) D10_word_17 rfl ?_
      refine J_iload_n (pc := 18) D10_word_18 rfl ?_
      refine J_iadd (pc := 19) D10_word_19 ?_
      refine J_st [.int (nI (stM j + i)), .retAddr 3] (by rw [nI_add]) ?_
      refine J_callVS (pc := 20) (ac := [.int _]) D10_word_20 mJ_charAt_v rfl t1452 (cJ_charAt (d := d) (k := 3) (b := stM j + i) (by decide) (by show stM j + i < 96; omega)) (by omega) (by decide) rfl rfl (fun _ => rfl) rfl rfl rfl ?_
      refine J_bipush (pc := 23) (v := (nI 32)) D10_word_23 (by decide) ?_
      refine J_icmp_eq (pc := 25) (tgt := 69) D10_word_25 (by decide) (fun h25 => ?_) (fun h25 => absurd e32 h25)
      refine J_ldcS (pc := 69) (i := 3) D10_word_69 rfl ?_
      refine J_iload_n (pc := 71) D10_word_71 rfl ?_
      refine J_iload_n (pc := 72) D10_word_72 rfl ?_
      refine J_iadd (pc := 73) D10_word_73 ?_
      refine J_st [.int (nI (stM j + i)), .retAddr 3] (by rw [nI_add]) ?_
      refine J_callVS (pc := 74) (ac := [.int _]) D10_word_74 mJ_charAt_v rfl t1452 (cJ_charAt (d := d) (k := 3) (b := stM j + i) (by decide) (by show stM j + i < 96; omega)) (by omega) (by decide) rfl rfl (fun _ => rfl) rfl rfl rfl ?_
      refine J_bipush (pc := 77) (v := (nI 32)) D10_word_77 (by decide) ?_
      refine J_icmp_ne (pc := 79) (tgt := 97) D10_word_79 (by decide) (fun h79 => absurd e32 h79) (fun h79 => ?_)
      refine J_aload_n (pc := 82) D10_word_82 rfl ?_
      refine J_getf (pc := 83) D10_word_83 fl10_155 rfl rfl ?_
      refine J_iload_n (pc := 86) D10_word_86 rfl ?_
      refine J_iadd (pc := 87) D10_word_87 ?_
      refine J_aload_n (pc := 88) D10_word_88 rfl ?_
      refine J_getf (pc := 89) D10_word_89 fl10_145 rfl rfl ?_
      refine J_st [.int (nI (f + n)), .int (nI (f + i))] (by rw [e23, e24, nI_add]) ?_
      refine J_icmp_ne (pc := 92) (tgt := 97) D10_word_92 (by decide) (fun h92 => absurd (by rw [hx]) h92) (fun h92 => ?_)
      refine J_iload_n (pc := 95) D10_word_95 rfl ?_
      refine J_iret (pc := 96) D10_word_96 rfl ?_
      exact K1 ⟨by omega, fun k hk => hm k (by omega)⟩
    · refine J_ldcS (pc := 15) (i := 3) D10_word_15 rfl ?_
      refine J_iload_n (pc := 17) D10_word_17 rfl ?_
      refine J_iload_n (pc := 18) D10_word_18 rfl ?_
      refine J_iadd (pc := 19) D10_word_19 ?_
      refine J_st [.int (nI (stM j + i)), .retAddr 3] (by rw [nI_add]) ?_
      refine J_callVS (pc := 20) (ac := [.int _]) D10_word_20 mJ_charAt_v rfl t1452 (cJ_charAt (d := d) (k := 3) (b := stM j + i) (by decide) (by show stM j + i < 96; omega)) (by omega) (by decide) rfl rfl (fun _ => rfl) rfl rfl rfl ?_
      refine J_bipush (pc := 23) (v := (nI 32)) D10_word_23 (by decide) ?_
      refine J_icmp_eq (pc := 25) (tgt := 69) D10_word_25 (by decide) (fun h25 => ?_) (fun h25 => absurd e32 h25)
      refine J_ldcS (pc := 69) (i := 3) D10_word_69 rfl ?_
      refine J_iload_n (pc := 71) D10_word_71 rfl ?_
      refine J_iload_n (pc := 72) D10_word_72 rfl ?_
      refine J_iadd (pc := 73) D10_word_73 ?_
      refine J_st [.int (nI (stM j + i)), .retAddr 3] (by rw [nI_add]) ?_
      refine J_callVS (pc := 74) (ac := [.int _]) D10_word_74 mJ_charAt_v rfl t1452 (cJ_charAt (d := d) (k := 3) (b := stM j + i) (by decide) (by show stM j + i < 96; omega)) (by omega) (by decide) rfl rfl (fun _ => rfl) rfl rfl rfl ?_
      refine J_bipush (pc := 77) (v := (nI 32)) D10_word_77 (by decide) ?_
      refine J_icmp_ne (pc := 79) (tgt := 97) D10_word_79 (by decide) (fun h79 => absurd e32 h79) (fun h79 => ?_)
      refine J_aload_n (pc := 82) D10_word_82 rfl ?_
      refine J_getf (pc := 83) D10_word_83 fl10_155 rfl rfl ?_
      refine J_iload_n (pc := 86) D10_word_86 rfl ?_
      refine J_iadd (pc := 87) D10_word_87 ?_
      refine J_aload_n (pc := 88) D10_word_88 rfl ?_
      refine J_getf (pc := 89) D10_word_89 fl10_145 rfl rfl ?_
      refine J_st [.int (nI (f + n)), .int (nI (f + i))] (by rw [e23, e24, nI_add]) ?_
      refine J_icmp_ne (pc := 92) (tgt := 97) D10_word_92 (by decide) (fun h92 => ?_) (fun h92 => absurd h92 (fun q => absurd (nI_eqI (by omega) (by omega) q) (by omega)))
      refine J_lk [(0, .ref 0), (1, .int (nI j)), (2, .int (nI (stM j)))] rfl ?_
      exact K2 (fun q => hx (by have := q.1; omega))
  | succ g ih =>
    intro i hi hn hm
    have e32 : ¬ chS 3 (stM j + i) = nI 32 := d4 i (by omega)
    by_cases hx : i = n
    · refine J_ldcS (pc := 15) (i := 3) D10_word_15 rfl ?_
      refine J_iload_n (pc := 17) D10_word_17 rfl ?_
      refine J_iload_n (pc := 18) D10_word_18 rfl ?_
      refine J_iadd (pc := 19) D10_word_19 ?_
      refine J_st [.int (nI (stM j + i)), .retAddr 3] (by rw [nI_add]) ?_
      refine J_callVS (pc := 20) (ac := [.int _]) D10_word_20 mJ_charAt_v rfl t1452 (cJ_charAt (d := d) (k := 3) (b := stM j + i) (by decide) (by show stM j + i < 96; omega)) (by omega) (by decide) rfl rfl (fun _ => rfl) rfl rfl rfl ?_
      refine J_bipush (pc := 23) (v := (nI 32)) D10_word_23 (by decide) ?_
      refine J_icmp_eq (pc := 25) (tgt := 69) D10_word_25 (by decide) (fun h25 => absurd h25 e32) (fun h25 => ?_)
      refine J_aload_n (pc := 28) D10_word_28 rfl ?_
      refine J_getf (pc := 29) D10_word_29 fl10_155 rfl rfl ?_
      refine J_iload_n (pc := 32) D10_word_32 rfl ?_
      refine J_iadd (pc := 33) D10_word_33 ?_
      refine J_aload_n (pc := 34) D10_word_34 rfl ?_
      refine J_getf (pc := 35) D10_word_35 fl10_145 rfl rfl ?_
      refine J_st [.int (nI (f + n)), .int (nI (f + i))] (by rw [e23, e24, nI_add]) ?_
      refine J_icmp_ge (pc := 38) (tgt := 69) D10_word_38 (by decide) (fun h38 => ?_) (fun h38 => absurd (by rw [hx]; exact Int32.le_refl _) h38)
      refine J_ldcS (pc := 69) (i := 3) D10_word_69 rfl ?_
      refine J_iload_n (pc := 71) D10_word_71 rfl ?_
      refine J_iload_n (pc := 72) D10_word_72 rfl ?_
      refine J_iadd (pc := 73) D10_word_73 ?_
      refine J_st [.int (nI (stM j + i)), .retAddr 3] (by rw [nI_add]) ?_
      refine J_callVS (pc := 74) (ac := [.int _]) D10_word_74 mJ_charAt_v rfl t1452 (cJ_charAt (d := d) (k := 3) (b := stM j + i) (by decide) (by show stM j + i < 96; omega)) (by omega) (by decide) rfl rfl (fun _ => rfl) rfl rfl rfl ?_
      refine J_bipush (pc := 77) (v := (nI 32)) D10_word_77 (by decide) ?_
      refine J_icmp_ne (pc := 79) (tgt := 97) D10_word_79 (by decide) (fun h79 => ?_) (fun h79 => absurd h79 e32)
      refine J_lk [(0, .ref 0), (1, .int (nI j)), (2, .int (nI (stM j)))] rfl ?_
      exact K2 (fun q => by have := q.1; omega)
    · refine J_ldcS (pc := 15) (i := 3) D10_word_15 rfl ?_
      refine J_iload_n (pc := 17) D10_word_17 rfl ?_
      refine J_iload_n (pc := 18) D10_word_18 rfl ?_
      refine J_iadd (pc := 19) D10_word_19 ?_
      refine J_st [.int (nI (stM j + i)), .retAddr 3] (by rw [nI_add]) ?_
      refine J_callVS (pc := 20) (ac := [.int _]) D10_word_20 mJ_charAt_v rfl t1452 (cJ_charAt (d := d) (k := 3) (b := stM j + i) (by decide) (by show stM j + i < 96; omega)) (by omega) (by decide) rfl rfl (fun _ => rfl) rfl rfl rfl ?_
      refine J_bipush (pc := 23) (v := (nI 32)) D10_word_23 (by decide) ?_
      refine J_icmp_eq (pc := 25) (tgt := 69) D10_word_25 (by decide) (fun h25 => absurd h25 e32) (fun h25 => ?_)
      refine J_aload_n (pc := 28) D10_word_28 rfl ?_
      refine J_getf (pc := 29) D10_word_29 fl10_155 rfl rfl ?_
      refine J_iload_n (pc := 32) D10_word_32 rfl ?_
      refine J_iadd (pc := 33) D10_word_33 ?_
      refine J_aload_n (pc := 34) D10_word_34 rfl ?_
      refine J_getf (pc := 35) D10_word_35 fl10_145 rfl rfl ?_
      refine J_st [.int (nI (f + n)), .int (nI (f + i))] (by rw [e23, e24, nI_add]) ?_
      refine J_icmp_ge (pc := 38) (tgt := 69) D10_word_38 (by decide) (fun h38 => absurd h38 (nI_ge (by omega) (by omega))) (fun h38 => ?_)
      refine J_aload_n (pc := 41) D10_word_41 rfl ?_
      refine J_getf (pc := 42) D10_word_42 fl10_7 rfl rfl ?_
      refine J_aload_n (pc := 45) D10_word_45 rfl ?_
      refine J_getf (pc := 46) D10_word_46 fl10_155 rfl rfl ?_
      refine J_iload_n (pc := 49) D10_word_49 rfl ?_
      refine J_iadd (pc := 50) D10_word_50 ?_
      refine J_st [.int (nI (f + i)), .ref 1] (by rw [e24, nI_add]) ?_
      refine J_mald (pc := 51) D10_word_51 ma_1 rfl (by omega) rfl ?_
      refine J_ldcS (pc := 52) (i := 3) D10_word_52 rfl ?_
      refine J_iload_n (pc := 54) D10_word_54 rfl ?_
      refine J_iload_n (pc := 55) D10_word_55 rfl ?_
      refine J_iadd (pc := 56) D10_word_56 ?_
      refine J_st [.int (nI (stM j + i)), .retAddr 3, .int (A 1 (f + i))] (by rw [nI_add]) ?_
      refine J_callVS (pc := 57) (ac := [.int _]) D10_word_57 mJ_charAt_v rfl t1452 (cJ_charAt (d := d) (k := 3) (b := stM j + i) (by decide) (by show stM j + i < 96; omega)) (by omega) (by decide) rfl rfl (fun _ => rfl) rfl rfl rfl ?_
      refine J_icmp_ne (pc := 60) (tgt := 69) D10_word_60 (by decide) (fun h60 => ?_) (fun h60 => ?_)
      · refine J_ldcS (pc := 69) (i := 3) D10_word_69 rfl ?_
        refine J_iload_n (pc := 71) D10_word_71 rfl ?_
        refine J_iload_n (pc := 72) D10_word_72 rfl ?_
        refine J_iadd (pc := 73) D10_word_73 ?_
        refine J_st [.int (nI (stM j + i)), .retAddr 3] (by rw [nI_add]) ?_
        refine J_callVS (pc := 74) (ac := [.int _]) D10_word_74 mJ_charAt_v rfl t1452 (cJ_charAt (d := d) (k := 3) (b := stM j + i) (by decide) (by show stM j + i < 96; omega)) (by omega) (by decide) rfl rfl (fun _ => rfl) rfl rfl rfl ?_
        refine J_bipush (pc := 77) (v := (nI 32)) D10_word_77 (by decide) ?_
        refine J_icmp_ne (pc := 79) (tgt := 97) D10_word_79 (by decide) (fun h79 => ?_) (fun h79 => absurd h79 e32)
        refine J_lk [(0, .ref 0), (1, .int (nI j)), (2, .int (nI (stM j)))] rfl ?_
        exact K2 (fun q => h60 (q.2 i (by omega)).symm)
      · have h60' := eq_true h60
        refine J_iinc (pc := 63) D10_word_63 rfl (nI_inc _) rfl ?_
        refine J_goto (pc := 66) (tgt := 15) D10_word_66 (by decide) ?_
        refine ih (i + 1) (by omega) (by omega) (fun k hk => ?_)
        by_cases e : k = i
        · rw [e]; exact h60.symm
        · exact hm k (by omega)
theorem L10_w97 {d : Nat} {s : Nat → Int32} {A : Nat → Nat → Int32} {L : LL} {M : Nat → MR} {j : Nat} (hj : j < 19) {Q : Option Value → List EC → Prop} (K : J m10_word (d + 4) 0 0 40 4 [(0, .ref 0), (1, .int (nI (j + 1))), (2, .int (nI (stM (j + 1))))] [] (modW s A L M) 0 0 Q) : ∀ (g k : Nat), stM j + k + g = stM (j + 1) - 1 → J m10_word (d + 4) 0 0 40 97 [(0, .ref 0), (1, .int (nI j)), (2, .int (nI (stM j + k)))] [] (modW s A L M) 0 0 Q := by
  obtain ⟨d1, d2, d3, d4⟩ := stM_d j hj
  intro g
  induction g with
  | zero =>
    intro k hk
    have e32 : chS 3 (stM j + k) = nI 32 := by rw [show stM j + k = stM (j + 1) - 1 by omega]; exact d3
    refine J_ldcS (pc := 97) (i := 3) D10_word_97 rfl ?_
    refine J_iload_n (pc := 99) D10_word_99 rfl ?_
    refine J_callVS (pc := 100) (ac := [.int _]) D10_word_100 mJ_charAt_v rfl t1452 (cJ_charAt (d := d) (k := 3) (b := stM j + k) (by decide) (by show stM j + k < 96; omega)) (by omega) (by decide) rfl rfl (fun _ => rfl) rfl rfl rfl ?_
    refine J_bipush (pc := 103) (v := (nI 32)) D10_word_103 (by decide) ?_
    refine J_icmp_eq (pc := 105) (tgt := 114) D10_word_105 (by decide) (fun h105 => ?_) (fun h105 => absurd e32 h105)
    refine J_iinc (pc := 114) D10_word_114 rfl (nI_inc _) rfl ?_
    refine J_iinc (pc := 117) D10_word_117 rfl (nI_inc _) rfl ?_
    refine J_goto (pc := 120) (tgt := 4) D10_word_120 (by decide) ?_
    refine J_lk [(0, .ref 0), (1, .int (nI (j + 1))), (2, .int (nI (stM (j + 1))))] (by rw [show stM j + k + 1 = stM (j + 1) by omega]; rfl) ?_
    exact K
  | succ g ih =>
    intro k hk
    have e32 : ¬ chS 3 (stM j + k) = nI 32 := d4 k (by omega)
    refine J_ldcS (pc := 97) (i := 3) D10_word_97 rfl ?_
    refine J_iload_n (pc := 99) D10_word_99 rfl ?_
    refine J_callVS (pc := 100) (ac := [.int _]) D10_word_100 mJ_charAt_v rfl t1452 (cJ_charAt (d := d) (k := 3) (b := stM j + k) (by decide) (by show stM j + k < 96; omega)) (by omega) (by decide) rfl rfl (fun _ => rfl) rfl rfl rfl ?_
    refine J_bipush (pc := 103) (v := (nI 32)) D10_word_103 (by decide) ?_
    refine J_icmp_eq (pc := 105) (tgt := 114) D10_word_105 (by decide) (fun h105 => absurd h105 e32) (fun h105 => ?_)
    refine J_iinc (pc := 108) D10_word_108 rfl (nI_inc _) rfl ?_
    refine J_goto (pc := 111) (tgt := 97) D10_word_111 (by decide) ?_
    rw [show stM j + k + 1 = stM j + (k + 1) by omega]
    exact ih (k + 1) (by omega)
theorem L10_w4 {d : Nat} {s : Nat → Int32} {A : Nat → Nat → Int32} {L : LL} {M : Nat → MR} {f n : Nat} (e24 : s 24 = nI f) (e23 : s 23 = nI (f + n)) (hf : f + n ≤ 700) : ∀ (g j : Nat), j + g = 19 → (∀ v, v < j → ¬ P3 (A 1) f n v) → J m10_word (d + 4) 0 0 40 4 [(0, .ref 0), (1, .int (nI j)), (2, .int (nI (stM j)))] [] (modW s A L M) 0 0 (fun r w' => w' = modW s A L M ∧ ∃ x, r = some (.int x) ∧ ((∃ v, v < 19 ∧ P3 (A 1) f n v ∧ x = nI v) ∨ (x = -1 ∧ ∀ v, v < 19 → ¬ P3 (A 1) f n v))) := by
  intro g
  induction g with
  | zero =>
    intro j hj hv
    have e19 : j = 19 := by omega
    subst e19
    refine J_iload_n (pc := 4) D10_word_4 rfl ?_
    refine J_ldcS (pc := 5) (i := 3) D10_word_5 rfl ?_
    refine J_callVS (pc := 7) (ac := []) D10_word_7 mJ_length_v rfl t1451 (cJ_length (d := d + 2) (k := 3) (by decide)) (by omega) (by decide) rfl rfl (fun _ => rfl) rfl rfl rfl ?_
    refine J_icmp_ge (pc := 10) (tgt := 123) D10_word_10 (by decide) (fun h10 => ?_) (fun h10 => absurd (by decide) h10)
    refine J_iconst (pc := 123) (v := (-1)) D10_word_123 (by decide) ?_
    refine J_iret (pc := 124) D10_word_124 rfl ?_
    exact ⟨rfl, -1, rfl, Or.inr ⟨rfl, hv⟩⟩
  | succ g ih =>
    intro j hj hv
    obtain ⟨d1, d2, -, -⟩ := stM_d j (by omega)
    refine J_iload_n (pc := 4) D10_word_4 rfl ?_
    refine J_ldcS (pc := 5) (i := 3) D10_word_5 rfl ?_
    refine J_callVS (pc := 7) (ac := []) D10_word_7 mJ_length_v rfl t1451 (cJ_length (d := d + 2) (k := 3) (by decide)) (by omega) (by decide) rfl rfl (fun _ => rfl) rfl rfl rfl ?_
    refine J_icmp_ge (pc := 10) (tgt := 123) D10_word_10 (by decide) (fun h10 => absurd h10 (nI_ge (by show stM j < 96; omega) (by decide))) (fun h10 => ?_)
    refine J_iconst (pc := 13) (v := (nI 0)) D10_word_13 (by decide) ?_
    refine J_istore_n (pc := 14) D10_word_14 rfl ?_
    refine L10_w15 e24 e23 hf (by omega) (fun q => ⟨rfl, nI j, rfl, Or.inl ⟨j, by omega, q, rfl⟩⟩) (fun q => ?_) (stM (j + 1) - stM j - 1) 0 (by omega) (by omega) (fun k hk => absurd hk (by omega))
    refine L10_w97 (by omega) ?_ (stM (j + 1) - 1 - stM j) 0 (by omega)
    refine ih (j + 1) (by omega) (fun v hv9 => ?_)
    by_cases e : v = j
    · rw [e]; exact q
    · exact hv v (by omega)
theorem c10_word {d : Nat} {s : Nat → Int32} {A : Nat → Nat → Int32} {L : LL} {M : Nat → MR} {f n : Nat} (e24 : s 24 = nI f) (e23 : s 23 = nI (f + n)) (hf : f + n ≤ 700) : Tr (d + 4) 0 0 m10_word [.ref 0] (modW s A L M) (fun r w' => w' = modW s A L M ∧ ∃ x, r = some (.int x) ∧ ((∃ v, v < 19 ∧ P3 (A 1) f n v ∧ x = nI v) ∨ (x = -1 ∧ ∀ v, v < 19 → ¬ P3 (A 1) f n v))) := by
  refine Tr.intro (by decide) rfl ?_
  refine J_iconst (pc := 0) (v := (nI 0)) D10_word_0 (by decide) ?_
  refine J_istore_n (pc := 1) D10_word_1 rfl ?_
  refine J_iconst (pc := 2) (v := (nI 0)) D10_word_2 (by decide) ?_
  refine J_istore_n (pc := 3) D10_word_3 rfl ?_
  exact L10_w4 e24 e23 hf 19 0 (by omega) (fun v hv => absurd hv (by omega))
theorem L10_name {d : Nat} {A : Nat → Nat → Int32} {L : LL} {M : Nat → MR} {f n : Nat} {tp : Nat → Int32} (hf : f + n ≤ 700) (hx : ∀ k, k < n → ∃ x, 97 ≤ x ∧ x ≤ 122 ∧ tp (f + k) = nI x ∧ A 1 (f + k) = nI x) : ∀ (g k : Nat) (s : Nat → Int32), k + g = 6 → s 24 = nI f → s 23 = nI (f + n) → s 26 = nI (hor (lx tp f n) k) → J m10_name d 0 0 40 7 [(0, .ref 0), (1, .int (nI k))] [] (modW s A L M) 0 0 (fun r w' => r = none ∧ ∃ s', w' = modW s' A L M ∧ (∀ i, i ≠ 26 → s' i = s i) ∧ s' 26 = nI (hor (lx tp f n) 6)) := by
  have h32 : ∀ k, lx tp f n k < 32 := fun k => by
    unfold lx
    split
    · next q =>
      obtain ⟨x, a, b, e, -⟩ := hx k q
      rw [e, nI_clamp (by omega)]; omega
    · omega
  intro g
  induction g with
  | zero =>
    intro k s hk e24 e23 e26
    refine J_iload_n (pc := 7) D10_name_7 rfl ?_
    refine J_bipush (pc := 8) (v := (nI 6)) D10_name_8 (by decide) ?_
    refine J_icmp_ge (pc := 10) (tgt := 63) D10_name_10 (by decide) (fun h10 => ?_) (fun h10 => absurd (nI_le (by omega) (by omega)) h10)
    refine J_vret (pc := 63) D10_name_63 rfl ?_
    exact ⟨rfl, s, rfl, fun _ _ => rfl, by rw [e26, show k = 6 by omega]⟩
  | succ g ih =>
    intro k s hk e24 e23 e26
    have hh := hor_lt h32 k
    have hnx : ∀ y, lx tp f n k = y → (nI (hor (lx tp f n) k) <<< (nI 5 &&& 31)) ||| nI y = nI (hor (lx tp f n) (k + 1)) := fun y ey => by
      rw [nI_shl (by decide), nI_or, show hor (lx tp f n) k * 2 ^ 5 ||| y = hor (lx tp f n) k * 2 ^ 5 + y from hor_or (by have := h32 k; omega), hor, ey]
    by_cases hkn : k < n
    · obtain ⟨x, x1, x2, x3, x4⟩ := hx k hkn
      have ex : A 1 (f + k) - nI 97 + nI 1 = nI (x - 96) := by
        rw [x4, nI_subN x1, nI_add]; congr 1; omega
      have el : lx tp f n k = x - 96 := by unfold lx; rw [if_pos hkn, x3, nI_clamp (by omega)]
      refine J_iload_n (pc := 7) D10_name_7 rfl ?_
      refine J_bipush (pc := 8) (v := (nI 6)) D10_name_8 (by decide) ?_
      refine J_icmp_ge (pc := 10) (tgt := 63) D10_name_10 (by decide) (fun h10 => absurd h10 (nI_ge (by omega) (by omega))) (fun h10 => ?_)
      refine J_aload_n (pc := 13) D10_name_13 rfl ?_
      refine J_aload_n (pc := 14) D10_name_14 rfl ?_
      refine J_getf (pc := 15) D10_name_15 fl10_168 rfl rfl ?_
      refine J_iconst (pc := 18) (v := (nI 5)) D10_name_18 (by decide) ?_
      refine J_ishl (pc := 19) D10_name_19 ?_
      refine J_aload_n (pc := 20) D10_name_20 rfl ?_
      refine J_getf (pc := 21) D10_name_21 fl10_155 rfl rfl ?_
      refine J_iload_n (pc := 24) D10_name_24 rfl ?_
      refine J_iadd (pc := 25) D10_name_25 ?_
      refine J_aload_n (pc := 26) D10_name_26 rfl ?_
      refine J_getf (pc := 27) D10_name_27 fl10_145 rfl rfl ?_
      refine J_st (.int (nI (f + n)) :: .int (nI (f + k)) :: .int (nI (hor (lx tp f n) k) <<< (nI 5 &&& 31)) :: .ref 0 :: []) (by rw [e23, e24, e26, nI_add]) ?_
      refine J_icmp_ge (pc := 30) (tgt := 52) D10_name_30 (by decide) (fun h30 => absurd h30 (nI_ge (by omega) (by omega))) (fun h30 => ?_)
      refine J_aload_n (pc := 33) D10_name_33 rfl ?_
      refine J_getf (pc := 34) D10_name_34 fl10_7 rfl rfl ?_
      refine J_aload_n (pc := 37) D10_name_37 rfl ?_
      refine J_getf (pc := 38) D10_name_38 fl10_155 rfl rfl ?_
      refine J_iload_n (pc := 41) D10_name_41 rfl ?_
      refine J_iadd (pc := 42) D10_name_42 ?_
      refine J_st (.int (nI (f + k)) :: .ref 1 :: .int (nI (hor (lx tp f n) k) <<< (nI 5 &&& 31)) :: .ref 0 :: []) (by rw [e24, nI_add]) ?_
      refine J_mald (pc := 43) D10_name_43 ma_1 rfl (by omega) rfl ?_
      refine J_bipush (pc := 44) (v := (nI 97)) D10_name_44 (by decide) ?_
      refine J_isub (pc := 46) D10_name_46 ?_
      refine J_iconst (pc := 47) (v := (nI 1)) D10_name_47 (by decide) ?_
      refine J_iadd (pc := 48) D10_name_48 ?_
      refine J_goto (pc := 49) (tgt := 53) D10_name_49 (by decide) ?_
      rw [ex]
      refine J_ior (pc := 53) D10_name_53 ?_
      rw [hnx _ el]
      refine J_mput (pc := 54) D10_name_54 fp10_168 ms_26 ?_
      refine J_iinc (pc := 57) D10_name_57 rfl (nI_inc _) rfl ?_
      refine J_goto (pc := 60) (tgt := 7) D10_name_60 (by decide) ?_
      refine J_mono (ih (k + 1) _ (by omega) ((updI_n (by decide)).trans e24) ((updI_n (by decide)).trans e23) updI_s) ?_
      rintro r w' ⟨rfl, s2, rfl, h1, h2⟩
      exact ⟨rfl, s2, rfl, fun i hi => (h1 i hi).trans (updI_n hi), h2⟩
    · have el : lx tp f n k = 0 := if_neg hkn
      refine J_iload_n (pc := 7) D10_name_7 rfl ?_
      refine J_bipush (pc := 8) (v := (nI 6)) D10_name_8 (by decide) ?_
      refine J_icmp_ge (pc := 10) (tgt := 63) D10_name_10 (by decide) (fun h10 => absurd h10 (nI_ge (by omega) (by omega))) (fun h10 => ?_)
      refine J_aload_n (pc := 13) D10_name_13 rfl ?_
      refine J_aload_n (pc := 14) D10_name_14 rfl ?_
      refine J_getf (pc := 15) D10_name_15 fl10_168 rfl rfl ?_
      refine J_iconst (pc := 18) (v := (nI 5)) D10_name_18 (by decide) ?_
      refine J_ishl (pc := 19) D10_name_19 ?_
      refine J_aload_n (pc := 20) D10_name_20 rfl ?_
      refine J_getf (pc := 21) D10_name_21 fl10_155 rfl rfl ?_
      refine J_iload_n (pc := 24) D10_name_24 rfl ?_
      refine J_iadd (pc := 25) D10_name_25 ?_
      refine J_aload_n (pc := 26) D10_name_26 rfl ?_
      refine J_getf (pc := 27) D10_name_27 fl10_145 rfl rfl ?_
      refine J_st (.int (nI (f + n)) :: .int (nI (f + k)) :: .int (nI (hor (lx tp f n) k) <<< (nI 5 &&& 31)) :: .ref 0 :: []) (by rw [e23, e24, e26, nI_add]) ?_
      refine J_icmp_ge (pc := 30) (tgt := 52) D10_name_30 (by decide) (fun h30 => ?_) (fun h30 => absurd (nI_le (by omega) (by omega)) h30)
      refine J_iconst (pc := 52) (v := (nI 0)) D10_name_52 (by decide) ?_
      refine J_ior (pc := 53) D10_name_53 ?_
      rw [hnx _ el]
      refine J_mput (pc := 54) D10_name_54 fp10_168 ms_26 ?_
      refine J_iinc (pc := 57) D10_name_57 rfl (nI_inc _) rfl ?_
      refine J_goto (pc := 60) (tgt := 7) D10_name_60 (by decide) ?_
      refine J_mono (ih (k + 1) _ (by omega) ((updI_n (by decide)).trans e24) ((updI_n (by decide)).trans e23) updI_s) ?_
      rintro r w' ⟨rfl, s2, rfl, h1, h2⟩
      exact ⟨rfl, s2, rfl, fun i hi => (h1 i hi).trans (updI_n hi), h2⟩
theorem c10_name {d : Nat} {s : Nat → Int32} {A : Nat → Nat → Int32} {L : LL} {M : Nat → MR} {f n : Nat} {tp : Nat → Int32} (hf : f + n ≤ 700) (hx : ∀ k, k < n → ∃ x, 97 ≤ x ∧ x ≤ 122 ∧ tp (f + k) = nI x ∧ A 1 (f + k) = nI x) (e24 : s 24 = nI f) (e23 : s 23 = nI (f + n)) : Tr d 0 0 m10_name [.ref 0] (modW s A L M) (fun r w' => r = none ∧ ∃ s', w' = modW s' A L M ∧ (∀ i, i ≠ 26 → s' i = s i) ∧ s' 26 = nI (hor (lx tp f n) 6)) := by
  refine Tr.intro (by decide) rfl ?_
  refine J_aload_n (pc := 0) D10_name_0 rfl ?_
  refine J_iconst (pc := 1) (v := (nI 0)) D10_name_1 (by decide) ?_
  refine J_mput (pc := 2) D10_name_2 fp10_168 ms_26 ?_
  refine J_iconst (pc := 5) (v := (nI 0)) D10_name_5 (by decide) ?_
  refine J_istore_n (pc := 6) D10_name_6 rfl ?_
  refine J_mono (L10_name (tp := tp) hf hx 6 0 _ (by omega) ((updI_n (by decide)).trans e24) ((updI_n (by decide)).trans e23) updI_s) ?_
  rintro r w' ⟨rfl, s2, rfl, h1, h2⟩
  exact ⟨rfl, s2, rfl, fun i hi => (h1 i hi).trans (updI_n hi), h2⟩
