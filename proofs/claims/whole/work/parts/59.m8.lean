/-! THE MODEL: copies, starts (own program mod_m8.py) -/
def CI (t a : Nat) (M M' : Nat → MR) (p b n : Nat) : Prop := (∀ i, i ≠ t → M' i = M i) ∧ (M' t).1 = (M a).1 ∧ (M' t).2.1 = (M a).2.1 ∧ (M' t).2.2.1 = (M a).2.2.1 ∧ (∀ i, i < p → (M' t).2.2.2 6 i = (M a).2.2.2 6 i) ∧ (∀ k i, k < 5 → i < b → (M' t).2.2.2 k i = (M a).2.2.2 k i) ∧ ∀ i, i < n → (M' t).2.2.2 5 i = (M a).2.2.2 5 i
def cpQ (t a : Nat) (s : Nat → Int32) (A : Nat → Nat → Int32) (L : LL) (M : Nat → MR) : Option Value → List EC → Prop := fun r w' => r = none ∧ ∃ M', w' = modW s A L M' ∧ (∀ i, i ≠ t → M' i = M i) ∧ EqR (M' t) (M a)
theorem upd_l {f : Nat → Int32} {b : Nat} {x : Int32} {g : Nat → Int32} (h : ∀ i, i < b → f i = g i) (hx : x = g b) : ∀ i, i < b + 1 → upd f b x i = g i := by
  intro i hi
  by_cases e : i = b
  · rw [e, pk_us, hx]
  · rw [pk_un e]; exact h i (by omega)
section CPY
variable {d t a : Nat} {s : Nat → Int32} {A : Nat → Nat → Int32} {L : LL} {M : Nat → MR}
theorem L10_cp171 (ht : t < 23) (ha : a < 23) (hta : a ≠ t) : ∀ (g b : Nat) (M' : Nat → MR), b + g = 8 → CI t a M M' 5 10 b → J m10_copies d 0 0 40 171 [(0, .ref 0), (1, .int (nI t)), (2, .int (nI a)), (3, .int (nI b))] [] (modW s A L M') 0 0 (cpQ t a s A L M) := by
  intro g
  induction g with
  | zero =>
    intro b M' hb hI
    refine J_iload_n (pc := 171) D10_copies_171 rfl ?_
    refine J_bipush (pc := 172) (v := (nI 8)) D10_copies_172 (by decide) ?_
    refine J_icmp_ge (pc := 174) (tgt := 205) D10_copies_174 (by decide) (fun h174 => ?_) (fun h174 => absurd (nI_le (by omega) (by omega)) h174)
    refine J_vret (pc := 205) D10_copies_205 rfl ?_
    exact ⟨rfl, M', rfl, hI.1, hI.2.1, hI.2.2.1, hI.2.2.2.1, hI.2.2.2.2.2.1, fun n hn => hI.2.2.2.2.2.2 n (by omega), hI.2.2.2.2.1⟩
  | succ g ih =>
    intro b M' hb hI
    have eM := hI.1 a hta
    refine J_iload_n (pc := 171) D10_copies_171 rfl ?_
    refine J_bipush (pc := 172) (v := (nI 8)) D10_copies_172 (by decide) ?_
    refine J_icmp_ge (pc := 174) (tgt := 205) D10_copies_174 (by decide) (fun h174 => absurd h174 (nI_ge (by omega) (by omega))) (fun h174 => ?_)
    refine J_aload_n (pc := 177) D10_copies_177 rfl ?_
    refine J_getf (pc := 178) D10_copies_178 fl10_102 rfl rfl ?_
    refine J_bipush (pc := 181) (v := (nI 8)) D10_copies_181 (by decide) ?_
    refine J_iload_n (pc := 183) D10_copies_183 rfl ?_
    refine J_imul (pc := 184) D10_copies_184 ?_
    refine J_iload_n (pc := 185) D10_copies_185 rfl ?_
    refine J_iadd (pc := 186) D10_copies_186 ?_
    refine J_aload_n (pc := 187) D10_copies_187 rfl ?_
    refine J_getf (pc := 188) D10_copies_188 fl10_102 rfl rfl ?_
    refine J_bipush (pc := 191) (v := (nI 8)) D10_copies_191 (by decide) ?_
    refine J_iload_n (pc := 193) D10_copies_193 rfl ?_
    refine J_imul (pc := 194) D10_copies_194 ?_
    refine J_iload_n (pc := 195) D10_copies_195 rfl ?_
    refine J_iadd (pc := 196) D10_copies_196 ?_
    refine J_mcld (pc := 197) (stp := 8) D10_copies_197 mc_5 (ixm _ _ _) (by omega) (by omega) rfl ?_
    refine J_mcst (pc := 198) (stp := 8) D10_copies_198 mc_5 (ixm _ _ _) (by omega) (by omega) rfl ?_
    refine J_iinc (pc := 199) D10_copies_199 rfl (nI_inc _) rfl ?_
    refine J_goto (pc := 202) (tgt := 171) D10_copies_202 (by decide) ?_
    refine ih (b + 1) _ (by omega) ?_
    obtain ⟨i1, i2, i3, i4, i5, i6, i7⟩ := hI
    refine ⟨fun i hi => (upM_n hi).trans (i1 i hi), ?_⟩
    rw [upM_s]
    exact ⟨i2, i3, i4, i5, fun k i hk hi => by rw [sm_n (by omega)]; exact i6 k i hk hi, upd_l i7 (by rw [eM])⟩
theorem L10_cp71 (ht : t < 23) (ha : a < 23) (hta : a ≠ t) : ∀ (g b : Nat) (M' : Nat → MR), b + g = 10 → CI t a M M' 5 b 0 → J m10_copies d 0 0 40 71 [(0, .ref 0), (1, .int (nI t)), (2, .int (nI a)), (3, .int (nI b))] [] (modW s A L M') 0 0 (cpQ t a s A L M) := by
  intro g
  induction g with
  | zero =>
    intro b M' hb hI
    refine J_iload_n (pc := 71) D10_copies_71 rfl ?_
    refine J_bipush (pc := 72) (v := (nI 10)) D10_copies_72 (by decide) ?_
    refine J_icmp_ge (pc := 74) (tgt := 169) D10_copies_74 (by decide) (fun h74 => ?_) (fun h74 => absurd (nI_le (by omega) (by omega)) h74)
    refine J_iconst (pc := 169) (v := (nI 0)) D10_copies_169 (by decide) ?_
    refine J_istore_n (pc := 170) D10_copies_170 rfl ?_
    exact L10_cp171 ht ha hta 8 0 M' (by omega) (by rw [show b = 10 by omega] at hI; exact hI)
  | succ g ih =>
    intro b M' hb hI
    have eM := hI.1 a hta
    refine J_iload_n (pc := 71) D10_copies_71 rfl ?_
    refine J_bipush (pc := 72) (v := (nI 10)) D10_copies_72 (by decide) ?_
    refine J_icmp_ge (pc := 74) (tgt := 169) D10_copies_74 (by decide) (fun h74 => absurd h74 (nI_ge (by omega) (by omega))) (fun h74 => ?_)
    refine J_bipush (pc := 77) (v := (nI 10)) D10_copies_77 (by decide) ?_
    refine J_iload_n (pc := 79) D10_copies_79 rfl ?_
    refine J_imul (pc := 80) D10_copies_80 ?_
    refine J_iload_n (pc := 81) D10_copies_81 rfl ?_
    refine J_iadd (pc := 82) D10_copies_82 ?_
    refine J_istore (pc := 83) D10_copies_83 rfl ?_
    refine J_bipush (pc := 85) (v := (nI 10)) D10_copies_85 (by decide) ?_
    refine J_iload_n (pc := 87) D10_copies_87 rfl ?_
    refine J_imul (pc := 88) D10_copies_88 ?_
    refine J_iload_n (pc := 89) D10_copies_89 rfl ?_
    refine J_iadd (pc := 90) D10_copies_90 ?_
    refine J_istore (pc := 91) D10_copies_91 rfl ?_
    refine J_lk [(0, .ref 0), (1, .int (nI t)), (2, .int (nI a)), (3, .int (nI b)), (4, .int (nI (10 * t + b))), (5, .int (nI (10 * a + b)))] (by rw [← ixm, ← ixm]; rfl) ?_
    refine J_aload_n (pc := 93) D10_copies_93 rfl ?_
    refine J_getf (pc := 94) D10_copies_94 fl10_87 rfl rfl ?_
    refine J_iload (pc := 97) D10_copies_97 rfl ?_
    refine J_aload_n (pc := 99) D10_copies_99 rfl ?_
    refine J_getf (pc := 100) D10_copies_100 fl10_87 rfl rfl ?_
    refine J_iload (pc := 103) D10_copies_103 rfl ?_
    refine J_mcld (pc := 105) (stp := 10) D10_copies_105 mc_1 rfl (by omega) (by omega) rfl ?_
    refine J_mcst (pc := 106) (stp := 10) D10_copies_106 mc_1 rfl (by omega) (by omega) rfl ?_
    refine J_aload_n (pc := 107) D10_copies_107 rfl ?_
    refine J_getf (pc := 108) D10_copies_108 fl10_90 rfl rfl ?_
    refine J_iload (pc := 111) D10_copies_111 rfl ?_
    refine J_aload_n (pc := 113) D10_copies_113 rfl ?_
    refine J_getf (pc := 114) D10_copies_114 fl10_90 rfl rfl ?_
    refine J_iload (pc := 117) D10_copies_117 rfl ?_
    refine J_mcld (pc := 119) (stp := 10) D10_copies_119 mc_2 rfl (by omega) (by omega) rfl ?_
    refine J_mcst (pc := 120) (stp := 10) D10_copies_120 mc_2 rfl (by omega) (by omega) rfl ?_
    refine J_aload_n (pc := 121) D10_copies_121 rfl ?_
    refine J_getf (pc := 122) D10_copies_122 fl10_93 rfl rfl ?_
    refine J_iload (pc := 125) D10_copies_125 rfl ?_
    refine J_aload_n (pc := 127) D10_copies_127 rfl ?_
    refine J_getf (pc := 128) D10_copies_128 fl10_93 rfl rfl ?_
    refine J_iload (pc := 131) D10_copies_131 rfl ?_
    refine J_mcld (pc := 133) (stp := 10) D10_copies_133 mc_0 rfl (by omega) (by omega) rfl ?_
    refine J_mcst (pc := 134) (stp := 10) D10_copies_134 mc_0 rfl (by omega) (by omega) rfl ?_
    refine J_aload_n (pc := 135) D10_copies_135 rfl ?_
    refine J_getf (pc := 136) D10_copies_136 fl10_96 rfl rfl ?_
    refine J_iload (pc := 139) D10_copies_139 rfl ?_
    refine J_aload_n (pc := 141) D10_copies_141 rfl ?_
    refine J_getf (pc := 142) D10_copies_142 fl10_96 rfl rfl ?_
    refine J_iload (pc := 145) D10_copies_145 rfl ?_
    refine J_mcld (pc := 147) (stp := 10) D10_copies_147 mc_3 rfl (by omega) (by omega) rfl ?_
    refine J_mcst (pc := 148) (stp := 10) D10_copies_148 mc_3 rfl (by omega) (by omega) rfl ?_
    refine J_aload_n (pc := 149) D10_copies_149 rfl ?_
    refine J_getf (pc := 150) D10_copies_150 fl10_99 rfl rfl ?_
    refine J_iload (pc := 153) D10_copies_153 rfl ?_
    refine J_aload_n (pc := 155) D10_copies_155 rfl ?_
    refine J_getf (pc := 156) D10_copies_156 fl10_99 rfl rfl ?_
    refine J_iload (pc := 159) D10_copies_159 rfl ?_
    refine J_mcld (pc := 161) (stp := 10) D10_copies_161 mc_4 rfl (by omega) (by omega) rfl ?_
    refine J_mcst (pc := 162) (stp := 10) D10_copies_162 mc_4 rfl (by omega) (by omega) rfl ?_
    refine J_iinc (pc := 163) D10_copies_163 rfl (nI_inc _) rfl ?_
    refine J_goto (pc := 166) (tgt := 71) D10_copies_166 (by decide) ?_
    refine J_lk [(0, .ref 0), (1, .int (nI t)), (2, .int (nI a)), (3, .int (nI (b + 1)))] rfl ?_
    refine ih (b + 1) _ (by omega) ?_
    obtain ⟨i1, i2, i3, i4, i5, i6, i7⟩ := hI
    refine ⟨fun i hi => by rw [upM_n hi, upM_n hi, upM_n hi, upM_n hi, upM_n hi]; exact i1 i hi, ?_⟩
    simp only [upM_s, upM_n hta]
    refine ⟨i2, i3, i4, i5, fun k i hk hi => ?_, i7⟩
    have hk9 : k = 0 ∨ k = 1 ∨ k = 2 ∨ k = 3 ∨ k = 4 := by omega
    rcases hk9 with rfl | rfl | rfl | rfl | rfl
    · exact upd_l (fun i hi => i6 0 i hk hi) (by rw [← eM]) i hi
    · exact upd_l (fun i hi => i6 1 i hk hi) (by rw [eM]) i hi
    · exact upd_l (fun i hi => i6 2 i hk hi) (by rw [← eM]) i hi
    · exact upd_l (fun i hi => i6 3 i hk hi) (by rw [← eM]) i hi
    · exact upd_l (fun i hi => i6 4 i hk hi) (by rw [← eM]) i hi
theorem L10_cp38 (ht : t < 23) (ha : a < 23) (hta : a ≠ t) : ∀ (g b : Nat) (M' : Nat → MR), b + g = 5 → CI t a M M' b 0 0 → J m10_copies d 0 0 40 38 [(0, .ref 0), (1, .int (nI t)), (2, .int (nI a)), (3, .int (nI b))] [] (modW s A L M') 0 0 (cpQ t a s A L M) := by
  intro g
  induction g with
  | zero =>
    intro b M' hb hI
    refine J_iload_n (pc := 38) D10_copies_38 rfl ?_
    refine J_iconst (pc := 39) (v := (nI 5)) D10_copies_39 (by decide) ?_
    refine J_icmp_ge (pc := 40) (tgt := 69) D10_copies_40 (by decide) (fun h40 => ?_) (fun h40 => absurd (nI_le (by omega) (by omega)) h40)
    refine J_iconst (pc := 69) (v := (nI 0)) D10_copies_69 (by decide) ?_
    refine J_istore_n (pc := 70) D10_copies_70 rfl ?_
    exact L10_cp71 ht ha hta 10 0 M' (by omega) (by rw [show b = 5 by omega] at hI; exact hI)
  | succ g ih =>
    intro b M' hb hI
    have eM := hI.1 a hta
    refine J_iload_n (pc := 38) D10_copies_38 rfl ?_
    refine J_iconst (pc := 39) (v := (nI 5)) D10_copies_39 (by decide) ?_
    refine J_icmp_ge (pc := 40) (tgt := 69) D10_copies_40 (by decide) (fun h40 => absurd h40 (nI_ge (by omega) (by omega))) (fun h40 => ?_)
    refine J_aload_n (pc := 43) D10_copies_43 rfl ?_
    refine J_getf (pc := 44) D10_copies_44 fl10_84 rfl rfl ?_
    refine J_iconst (pc := 47) (v := (nI 5)) D10_copies_47 (by decide) ?_
    refine J_iload_n (pc := 48) D10_copies_48 rfl ?_
    refine J_imul (pc := 49) D10_copies_49 ?_
    refine J_iload_n (pc := 50) D10_copies_50 rfl ?_
    refine J_iadd (pc := 51) D10_copies_51 ?_
    refine J_aload_n (pc := 52) D10_copies_52 rfl ?_
    refine J_getf (pc := 53) D10_copies_53 fl10_84 rfl rfl ?_
    refine J_iconst (pc := 56) (v := (nI 5)) D10_copies_56 (by decide) ?_
    refine J_iload_n (pc := 57) D10_copies_57 rfl ?_
    refine J_imul (pc := 58) D10_copies_58 ?_
    refine J_iload_n (pc := 59) D10_copies_59 rfl ?_
    refine J_iadd (pc := 60) D10_copies_60 ?_
    refine J_mcld (pc := 61) (stp := 5) D10_copies_61 mc_6 (ixm _ _ _) (by omega) (by omega) rfl ?_
    refine J_mcst (pc := 62) (stp := 5) D10_copies_62 mc_6 (ixm _ _ _) (by omega) (by omega) rfl ?_
    refine J_iinc (pc := 63) D10_copies_63 rfl (nI_inc _) rfl ?_
    refine J_goto (pc := 66) (tgt := 38) D10_copies_66 (by decide) ?_
    refine ih (b + 1) _ (by omega) ?_
    obtain ⟨i1, i2, i3, i4, i5, i6, i7⟩ := hI
    refine ⟨fun i hi => (upM_n hi).trans (i1 i hi), ?_⟩
    rw [upM_s]
    exact ⟨i2, i3, i4, upd_l i5 (by rw [eM]), fun k i hk hi => by rw [sm_n (by omega)]; exact i6 k i hk hi, i7⟩
theorem c10_copies (ht : t < 23) (ha : a < 23) (hta : a ≠ t) : Tr d 0 0 m10_copies [.ref 0, .int (nI t), .int (nI a)] (modW s A L M) (cpQ t a s A L M) := by
  refine Tr.intro (by decide) rfl ?_
  refine J_aload_n (pc := 0) D10_copies_0 rfl ?_
  refine J_getf (pc := 1) D10_copies_1 fl10_75 rfl rfl ?_
  refine J_iload_n (pc := 4) D10_copies_4 rfl ?_
  refine J_aload_n (pc := 5) D10_copies_5 rfl ?_
  refine J_getf (pc := 6) D10_copies_6 fl10_75 rfl rfl ?_
  refine J_iload_n (pc := 9) D10_copies_9 rfl ?_
  refine J_msld (pc := 10) D10_copies_10 mq_year rfl (by omega) ?_
  refine J_msst (pc := 11) D10_copies_11 mq_year rfl (by omega) ?_
  refine J_aload_n (pc := 12) D10_copies_12 rfl ?_
  refine J_getf (pc := 13) D10_copies_13 fl10_78 rfl rfl ?_
  refine J_iload_n (pc := 16) D10_copies_16 rfl ?_
  refine J_aload_n (pc := 17) D10_copies_17 rfl ?_
  refine J_getf (pc := 18) D10_copies_18 fl10_78 rfl rfl ?_
  refine J_iload_n (pc := 21) D10_copies_21 rfl ?_
  refine J_msld (pc := 22) D10_copies_22 mq_drawn rfl (by omega) ?_
  refine J_msst (pc := 23) D10_copies_23 mq_drawn rfl (by omega) ?_
  refine J_aload_n (pc := 24) D10_copies_24 rfl ?_
  refine J_getf (pc := 25) D10_copies_25 fl10_81 rfl rfl ?_
  refine J_iload_n (pc := 28) D10_copies_28 rfl ?_
  refine J_aload_n (pc := 29) D10_copies_29 rfl ?_
  refine J_getf (pc := 30) D10_copies_30 fl10_81 rfl rfl ?_
  refine J_iload_n (pc := 33) D10_copies_33 rfl ?_
  refine J_msld (pc := 34) D10_copies_34 mq_thunders rfl (by omega) ?_
  refine J_msst (pc := 35) D10_copies_35 mq_thunders rfl (by omega) ?_
  refine J_iconst (pc := 36) (v := (nI 0)) D10_copies_36 (by decide) ?_
  refine J_istore_n (pc := 37) D10_copies_37 rfl ?_
  refine L10_cp38 ht ha hta 5 0 _ (by omega) ?_
  refine ⟨fun i hi => by rw [upM_n hi, upM_n hi, upM_n hi], ?_⟩
  simp only [upM_s, upM_n hta]
  exact ⟨rfl, rfl, rfl, fun i hi => absurd hi (by omega), fun k i _ hi => absurd hi (by omega), fun i hi => absurd hi (by omega)⟩
end CPY
def SI (c : Nat) (A : Nat → Nat → Int32) (nb : Nat) (M M' : Nat → MR) (p b n : Nat) : Prop := (∀ i, i ≠ c → M' i = M i) ∧ (M' c).1 = nI 0 ∧ (M' c).2.1 = A 3 4 ∧ (M' c).2.2.1 = nI 0 ∧ (∀ i, i < p → (M' c).2.2.2 6 i = nI 0) ∧ (∀ i, i < b → (i < nb → (M' c).2.2.2 0 i = A 9 i ∧ (M' c).2.2.2 1 i = A 10 i ∧ (M' c).2.2.2 2 i = A 11 i ∧ (M' c).2.2.2 3 i = nI 0) ∧ (M' c).2.2.2 4 i = -1) ∧ ∀ i, i < n → (M' c).2.2.2 5 i = -1
def stQ (c : Nat) (nb : Nat) (s : Nat → Int32) (A : Nat → Nat → Int32) (L : LL) (M : Nat → MR) : Option Value → List EC → Prop := fun r w' => r = none ∧ ∃ M', w' = modW s A L M' ∧ SI c A nb M M' 5 10 8
section STS
variable {d c : Nat} {s : Nat → Int32} {A : Nat → Nat → Int32} {L : LL} {M : Nat → MR} {nb : Nat}
theorem L10_st176 (hc : c < 23) (hnb : nb ≤ 10) (en : A 3 1 = nI nb) : ∀ (g b : Nat) (M' : Nat → MR), b + g = 8 → SI c A nb M M' 5 10 b → J m10_starts d 0 0 40 176 [(0, .ref 0), (1, .int (nI c)), (2, .int (nI b))] [] (modW s A L M') 0 0 (stQ c nb s A L M) := by
  intro g
  induction g with
  | zero =>
    intro b M' hb hI
    refine J_iload_n (pc := 176) D10_starts_176 rfl ?_
    refine J_bipush (pc := 177) (v := (nI 8)) D10_starts_177 (by decide) ?_
    refine J_icmp_ge (pc := 179) (tgt := 200) D10_starts_179 (by decide) (fun h179 => ?_) (fun h179 => absurd (nI_le (by omega) (by omega)) h179)
    refine J_vret (pc := 200) D10_starts_200 rfl ?_
    exact ⟨rfl, M', rfl, by rw [show b = 8 by omega] at hI; exact hI⟩
  | succ g ih =>
    intro b M' hb hI
    refine J_iload_n (pc := 176) D10_starts_176 rfl ?_
    refine J_bipush (pc := 177) (v := (nI 8)) D10_starts_177 (by decide) ?_
    refine J_icmp_ge (pc := 179) (tgt := 200) D10_starts_179 (by decide) (fun h179 => absurd h179 (nI_ge (by omega) (by omega))) (fun h179 => ?_)
    refine J_aload_n (pc := 182) D10_starts_182 rfl ?_
    refine J_getf (pc := 183) D10_starts_183 fl10_102 rfl rfl ?_
    refine J_bipush (pc := 186) (v := (nI 8)) D10_starts_186 (by decide) ?_
    refine J_iload_n (pc := 188) D10_starts_188 rfl ?_
    refine J_imul (pc := 189) D10_starts_189 ?_
    refine J_iload_n (pc := 190) D10_starts_190 rfl ?_
    refine J_iadd (pc := 191) D10_starts_191 ?_
    refine J_iconst (pc := 192) (v := (-1)) D10_starts_192 (by decide) ?_
    refine J_mcst (pc := 193) (stp := 8) D10_starts_193 mc_5 (ixm _ _ _) (by omega) (by omega) rfl ?_
    refine J_iinc (pc := 194) D10_starts_194 rfl (nI_inc _) rfl ?_
    refine J_goto (pc := 197) (tgt := 176) D10_starts_197 (by decide) ?_
    refine ih (b + 1) _ (by omega) ?_
    obtain ⟨i1, i2, i3, i4, i5, i6, i7⟩ := hI
    refine ⟨fun i hi => (upM_n hi).trans (i1 i hi), ?_⟩
    rw [upM_s]
    exact ⟨i2, i3, i4, i5, i6, upd_l i7 rfl⟩
theorem L10_st52 (hc : c < 23) (hnb : nb ≤ 10) (en : A 3 1 = nI nb) : ∀ (g b : Nat) (M' : Nat → MR), b + g = 10 → SI c A nb M M' 5 b 0 → J m10_starts d 0 0 40 52 [(0, .ref 0), (1, .int (nI c)), (2, .int (nI b))] [] (modW s A L M') 0 0 (stQ c nb s A L M) := by
  intro g
  induction g with
  | zero =>
    intro b M' hb hI
    refine J_iload_n (pc := 52) D10_starts_52 rfl ?_
    refine J_bipush (pc := 53) (v := (nI 10)) D10_starts_53 (by decide) ?_
    refine J_icmp_ge (pc := 55) (tgt := 174) D10_starts_55 (by decide) (fun h55 => ?_) (fun h55 => absurd (nI_le (by omega) (by omega)) h55)
    refine J_iconst (pc := 174) (v := (nI 0)) D10_starts_174 (by decide) ?_
    refine J_istore_n (pc := 175) D10_starts_175 rfl ?_
    exact L10_st176 hc hnb en 8 0 M' (by omega) (by rw [show b = 10 by omega] at hI; exact hI)
  | succ g ih =>
    intro b M' hb hI
    refine J_iload_n (pc := 52) D10_starts_52 rfl ?_
    refine J_bipush (pc := 53) (v := (nI 10)) D10_starts_53 (by decide) ?_
    refine J_icmp_ge (pc := 55) (tgt := 174) D10_starts_55 (by decide) (fun h55 => absurd h55 (nI_ge (by omega) (by omega))) (fun h55 => ?_)
    refine J_bipush (pc := 58) (v := (nI 10)) D10_starts_58 (by decide) ?_
    refine J_iload_n (pc := 60) D10_starts_60 rfl ?_
    refine J_imul (pc := 61) D10_starts_61 ?_
    refine J_iload_n (pc := 62) D10_starts_62 rfl ?_
    refine J_iadd (pc := 63) D10_starts_63 ?_
    refine J_istore_n (pc := 64) D10_starts_64 rfl ?_
    refine J_lk [(0, .ref 0), (1, .int (nI c)), (2, .int (nI b)), (3, .int (nI (10 * c + b)))] (by rw [← ixm]; rfl) ?_
    refine J_iload_n (pc := 65) D10_starts_65 rfl ?_
    refine J_aload_n (pc := 66) D10_starts_66 rfl ?_
    refine J_getf (pc := 67) D10_starts_67 fl10_13 rfl rfl ?_
    refine J_iconst (pc := 70) (v := (nI 1)) D10_starts_70 (by decide) ?_
    refine J_mald (pc := 71) D10_starts_71 ma_3 rfl (by omega) rfl ?_
    rw [en]
    refine J_icmp_ge (pc := 72) (tgt := 79) D10_starts_72 (by decide) (fun h72 => ?_) (fun h72 => ?_)
    · have h72' := Int32.not_lt.mpr h72
      refine J_iconst (pc := 79) (v := (nI 0)) D10_starts_79 (by decide) ?_
      refine J_istore (pc := 80) D10_starts_80 rfl ?_
      refine J_aload_n (pc := 82) D10_starts_82 rfl ?_
      refine J_getf (pc := 83) D10_starts_83 fl10_87 rfl rfl ?_
      refine J_iload_n (pc := 86) D10_starts_86 rfl ?_
      refine J_iload (pc := 87) D10_starts_87 rfl ?_
      refine J_if_eq (pc := 89) (tgt := 101) D10_starts_89 (by decide) (fun h89 => ?_) (fun h89 => absurd rfl h89)
      refine J_iconst (pc := 101) (v := (nI 0)) D10_starts_101 (by decide) ?_
      refine J_mcst (pc := 102) (stp := 10) D10_starts_102 mc_1 rfl (by omega) (by omega) rfl ?_
      refine J_aload_n (pc := 103) D10_starts_103 rfl ?_
      refine J_getf (pc := 104) D10_starts_104 fl10_90 rfl rfl ?_
      refine J_iload_n (pc := 107) D10_starts_107 rfl ?_
      refine J_iload (pc := 108) D10_starts_108 rfl ?_
      refine J_if_eq (pc := 110) (tgt := 122) D10_starts_110 (by decide) (fun h110 => ?_) (fun h110 => absurd rfl h110)
      refine J_iconst (pc := 122) (v := (nI 0)) D10_starts_122 (by decide) ?_
      refine J_mcst (pc := 123) (stp := 10) D10_starts_123 mc_2 rfl (by omega) (by omega) rfl ?_
      refine J_aload_n (pc := 124) D10_starts_124 rfl ?_
      refine J_getf (pc := 125) D10_starts_125 fl10_93 rfl rfl ?_
      refine J_iload_n (pc := 128) D10_starts_128 rfl ?_
      refine J_iload (pc := 129) D10_starts_129 rfl ?_
      refine J_if_eq (pc := 131) (tgt := 143) D10_starts_131 (by decide) (fun h131 => ?_) (fun h131 => absurd rfl h131)
      refine J_iconst (pc := 143) (v := (nI 0)) D10_starts_143 (by decide) ?_
      refine J_mcst (pc := 144) (stp := 10) D10_starts_144 mc_0 rfl (by omega) (by omega) rfl ?_
      refine J_aload_n (pc := 145) D10_starts_145 rfl ?_
      refine J_getf (pc := 146) D10_starts_146 fl10_96 rfl rfl ?_
      refine J_iload_n (pc := 149) D10_starts_149 rfl ?_
      refine J_iload (pc := 150) D10_starts_150 rfl ?_
      refine J_if_eq (pc := 152) (tgt := 159) D10_starts_152 (by decide) (fun h152 => ?_) (fun h152 => absurd rfl h152)
      refine J_iconst (pc := 159) (v := (-1)) D10_starts_159 (by decide) ?_
      refine J_mcst (pc := 160) (stp := 10) D10_starts_160 mc_3 rfl (by omega) (by omega) rfl ?_
      refine J_aload_n (pc := 161) D10_starts_161 rfl ?_
      refine J_getf (pc := 162) D10_starts_162 fl10_99 rfl rfl ?_
      refine J_iload_n (pc := 165) D10_starts_165 rfl ?_
      refine J_iconst (pc := 166) (v := (-1)) D10_starts_166 (by decide) ?_
      refine J_mcst (pc := 167) (stp := 10) D10_starts_167 mc_4 rfl (by omega) (by omega) rfl ?_
      refine J_iinc (pc := 168) D10_starts_168 rfl (nI_inc _) rfl ?_
      refine J_goto (pc := 171) (tgt := 52) D10_starts_171 (by decide) ?_
      refine J_lk [(0, .ref 0), (1, .int (nI c)), (2, .int (nI (b + 1)))] rfl ?_
      refine ih (b + 1) _ (by omega) ?_
      obtain ⟨i1, i2, i3, i4, i5, i6, i7⟩ := hI
      refine ⟨fun i hi => by rw [upM_n hi, upM_n hi, upM_n hi, upM_n hi, upM_n hi]; exact i1 i hi, ?_⟩
      simp only [upM_s]
      refine ⟨i2, i3, i4, i5, fun i hi => ?_, i7⟩
      by_cases e : i = b
      · subst e
        exact ⟨fun hn => absurd hn (Nat.not_lt.mpr ((nI_leI (by omega) (by omega)).mp h72)), pk_us⟩
      · have h9 := i6 i (by omega)
        exact ⟨fun hn => ⟨(pk_un e).trans (h9.1 hn).1, (pk_un e).trans (h9.1 hn).2.1, (pk_un e).trans (h9.1 hn).2.2.1, (pk_un e).trans (h9.1 hn).2.2.2⟩, (pk_un e).trans h9.2⟩
    · have h72' := Int32.not_le.mp h72
      refine J_iconst (pc := 75) (v := (nI 1)) D10_starts_75 (by decide) ?_
      refine J_goto (pc := 76) (tgt := 80) D10_starts_76 (by decide) ?_
      refine J_istore (pc := 80) D10_starts_80 rfl ?_
      refine J_aload_n (pc := 82) D10_starts_82 rfl ?_
      refine J_getf (pc := 83) D10_starts_83 fl10_87 rfl rfl ?_
      refine J_iload_n (pc := 86) D10_starts_86 rfl ?_
      refine J_iload (pc := 87) D10_starts_87 rfl ?_
      refine J_if_eq (pc := 89) (tgt := 101) D10_starts_89 (by decide) (fun h89 => absurd h89 (by decide)) (fun h89 => ?_)
      refine J_aload_n (pc := 92) D10_starts_92 rfl ?_
      refine J_getf (pc := 93) D10_starts_93 fl10_34 rfl rfl ?_
      refine J_iload_n (pc := 96) D10_starts_96 rfl ?_
      refine J_mald (pc := 97) D10_starts_97 ma_10 rfl (by omega) rfl ?_
      refine J_goto (pc := 98) (tgt := 102) D10_starts_98 (by decide) ?_
      refine J_mcst (pc := 102) (stp := 10) D10_starts_102 mc_1 rfl (by omega) (by omega) rfl ?_
      refine J_aload_n (pc := 103) D10_starts_103 rfl ?_
      refine J_getf (pc := 104) D10_starts_104 fl10_90 rfl rfl ?_
      refine J_iload_n (pc := 107) D10_starts_107 rfl ?_
      refine J_iload (pc := 108) D10_starts_108 rfl ?_
      refine J_if_eq (pc := 110) (tgt := 122) D10_starts_110 (by decide) (fun h110 => absurd h110 (by decide)) (fun h110 => ?_)
      refine J_aload_n (pc := 113) D10_starts_113 rfl ?_
      refine J_getf (pc := 114) D10_starts_114 fl10_37 rfl rfl ?_
      refine J_iload_n (pc := 117) D10_starts_117 rfl ?_
      refine J_mald (pc := 118) D10_starts_118 ma_11 rfl (by omega) rfl ?_
      refine J_goto (pc := 119) (tgt := 123) D10_starts_119 (by decide) ?_
      refine J_mcst (pc := 123) (stp := 10) D10_starts_123 mc_2 rfl (by omega) (by omega) rfl ?_
      refine J_aload_n (pc := 124) D10_starts_124 rfl ?_
      refine J_getf (pc := 125) D10_starts_125 fl10_93 rfl rfl ?_
      refine J_iload_n (pc := 128) D10_starts_128 rfl ?_
      refine J_iload (pc := 129) D10_starts_129 rfl ?_
      refine J_if_eq (pc := 131) (tgt := 143) D10_starts_131 (by decide) (fun h131 => absurd h131 (by decide)) (fun h131 => ?_)
      refine J_aload_n (pc := 134) D10_starts_134 rfl ?_
      refine J_getf (pc := 135) D10_starts_135 fl10_31 rfl rfl ?_
      refine J_iload_n (pc := 138) D10_starts_138 rfl ?_
      refine J_mald (pc := 139) D10_starts_139 ma_9 rfl (by omega) rfl ?_
      refine J_goto (pc := 140) (tgt := 144) D10_starts_140 (by decide) ?_
      refine J_mcst (pc := 144) (stp := 10) D10_starts_144 mc_0 rfl (by omega) (by omega) rfl ?_
      refine J_aload_n (pc := 145) D10_starts_145 rfl ?_
      refine J_getf (pc := 146) D10_starts_146 fl10_96 rfl rfl ?_
      refine J_iload_n (pc := 149) D10_starts_149 rfl ?_
      refine J_iload (pc := 150) D10_starts_150 rfl ?_
      refine J_if_eq (pc := 152) (tgt := 159) D10_starts_152 (by decide) (fun h152 => absurd h152 (by decide)) (fun h152 => ?_)
      refine J_iconst (pc := 155) (v := (nI 0)) D10_starts_155 (by decide) ?_
      refine J_goto (pc := 156) (tgt := 160) D10_starts_156 (by decide) ?_
      refine J_mcst (pc := 160) (stp := 10) D10_starts_160 mc_3 rfl (by omega) (by omega) rfl ?_
      refine J_aload_n (pc := 161) D10_starts_161 rfl ?_
      refine J_getf (pc := 162) D10_starts_162 fl10_99 rfl rfl ?_
      refine J_iload_n (pc := 165) D10_starts_165 rfl ?_
      refine J_iconst (pc := 166) (v := (-1)) D10_starts_166 (by decide) ?_
      refine J_mcst (pc := 167) (stp := 10) D10_starts_167 mc_4 rfl (by omega) (by omega) rfl ?_
      refine J_iinc (pc := 168) D10_starts_168 rfl (nI_inc _) rfl ?_
      refine J_goto (pc := 171) (tgt := 52) D10_starts_171 (by decide) ?_
      refine J_lk [(0, .ref 0), (1, .int (nI c)), (2, .int (nI (b + 1)))] rfl ?_
      refine ih (b + 1) _ (by omega) ?_
      obtain ⟨i1, i2, i3, i4, i5, i6, i7⟩ := hI
      refine ⟨fun i hi => by rw [upM_n hi, upM_n hi, upM_n hi, upM_n hi, upM_n hi]; exact i1 i hi, ?_⟩
      simp only [upM_s]
      refine ⟨i2, i3, i4, i5, fun i hi => ?_, i7⟩
      by_cases e : i = b
      · subst e
        exact ⟨fun hn => ⟨pk_us, pk_us, pk_us, pk_us⟩, pk_us⟩
      · have h9 := i6 i (by omega)
        exact ⟨fun hn => ⟨(pk_un e).trans (h9.1 hn).1, (pk_un e).trans (h9.1 hn).2.1, (pk_un e).trans (h9.1 hn).2.2.1, (pk_un e).trans (h9.1 hn).2.2.2⟩, (pk_un e).trans h9.2⟩
theorem L10_st28 (hc : c < 23) (hnb : nb ≤ 10) (en : A 3 1 = nI nb) : ∀ (g b : Nat) (M' : Nat → MR), b + g = 5 → SI c A nb M M' b 0 0 → J m10_starts d 0 0 40 28 [(0, .ref 0), (1, .int (nI c)), (2, .int (nI b))] [] (modW s A L M') 0 0 (stQ c nb s A L M) := by
  intro g
  induction g with
  | zero =>
    intro b M' hb hI
    refine J_iload_n (pc := 28) D10_starts_28 rfl ?_
    refine J_iconst (pc := 29) (v := (nI 5)) D10_starts_29 (by decide) ?_
    refine J_icmp_ge (pc := 30) (tgt := 50) D10_starts_30 (by decide) (fun h30 => ?_) (fun h30 => absurd (nI_le (by omega) (by omega)) h30)
    refine J_iconst (pc := 50) (v := (nI 0)) D10_starts_50 (by decide) ?_
    refine J_istore_n (pc := 51) D10_starts_51 rfl ?_
    exact L10_st52 hc hnb en 10 0 M' (by omega) (by rw [show b = 5 by omega] at hI; exact hI)
  | succ g ih =>
    intro b M' hb hI
    refine J_iload_n (pc := 28) D10_starts_28 rfl ?_
    refine J_iconst (pc := 29) (v := (nI 5)) D10_starts_29 (by decide) ?_
    refine J_icmp_ge (pc := 30) (tgt := 50) D10_starts_30 (by decide) (fun h30 => absurd h30 (nI_ge (by omega) (by omega))) (fun h30 => ?_)
    refine J_aload_n (pc := 33) D10_starts_33 rfl ?_
    refine J_getf (pc := 34) D10_starts_34 fl10_84 rfl rfl ?_
    refine J_iconst (pc := 37) (v := (nI 5)) D10_starts_37 (by decide) ?_
    refine J_iload_n (pc := 38) D10_starts_38 rfl ?_
    refine J_imul (pc := 39) D10_starts_39 ?_
    refine J_iload_n (pc := 40) D10_starts_40 rfl ?_
    refine J_iadd (pc := 41) D10_starts_41 ?_
    refine J_iconst (pc := 42) (v := (nI 0)) D10_starts_42 (by decide) ?_
    refine J_mcst (pc := 43) (stp := 5) D10_starts_43 mc_6 (ixm _ _ _) (by omega) (by omega) rfl ?_
    refine J_iinc (pc := 44) D10_starts_44 rfl (nI_inc _) rfl ?_
    refine J_goto (pc := 47) (tgt := 28) D10_starts_47 (by decide) ?_
    refine ih (b + 1) _ (by omega) ?_
    obtain ⟨i1, i2, i3, i4, i5, i6, i7⟩ := hI
    refine ⟨fun i hi => (upM_n hi).trans (i1 i hi), ?_⟩
    rw [upM_s]
    exact ⟨i2, i3, i4, upd_l i5 rfl, i6, i7⟩
theorem c10_starts (hc : c < 23) (hnb : nb ≤ 10) (en : A 3 1 = nI nb) : Tr d 0 0 m10_starts [.ref 0, .int (nI c)] (modW s A L M) (stQ c nb s A L M) := by
  refine Tr.intro (by decide) rfl ?_
  refine J_aload_n (pc := 0) D10_starts_0 rfl ?_
  refine J_getf (pc := 1) D10_starts_1 fl10_75 rfl rfl ?_
  refine J_iload_n (pc := 4) D10_starts_4 rfl ?_
  refine J_iconst (pc := 5) (v := (nI 0)) D10_starts_5 (by decide) ?_
  refine J_msst (pc := 6) D10_starts_6 mq_year rfl (by omega) ?_
  refine J_aload_n (pc := 7) D10_starts_7 rfl ?_
  refine J_getf (pc := 8) D10_starts_8 fl10_78 rfl rfl ?_
  refine J_iload_n (pc := 11) D10_starts_11 rfl ?_
  refine J_aload_n (pc := 12) D10_starts_12 rfl ?_
  refine J_getf (pc := 13) D10_starts_13 fl10_13 rfl rfl ?_
  refine J_iconst (pc := 16) (v := (nI 4)) D10_starts_16 (by decide) ?_
  refine J_mald (pc := 17) D10_starts_17 ma_3 rfl (by omega) rfl ?_
  refine J_msst (pc := 18) D10_starts_18 mq_drawn rfl (by omega) ?_
  refine J_aload_n (pc := 19) D10_starts_19 rfl ?_
  refine J_getf (pc := 20) D10_starts_20 fl10_81 rfl rfl ?_
  refine J_iload_n (pc := 23) D10_starts_23 rfl ?_
  refine J_iconst (pc := 24) (v := (nI 0)) D10_starts_24 (by decide) ?_
  refine J_msst (pc := 25) D10_starts_25 mq_thunders rfl (by omega) ?_
  refine J_iconst (pc := 26) (v := (nI 0)) D10_starts_26 (by decide) ?_
  refine J_istore_n (pc := 27) D10_starts_27 rfl ?_
  refine L10_st28 hc hnb en 5 0 _ (by omega) ?_
  refine ⟨fun i hi => by rw [upM_n hi, upM_n hi, upM_n hi], ?_⟩
  simp only [upM_s]
  exact ⟨rfl, rfl, rfl, fun i hi => absurd hi (by omega), fun i hi => absurd hi (by omega), fun i hi => absurd hi (by omega)⟩
end STS
theorem laL_k {T : TV} {k : Nat} (hk : k = 4 ∨ k = 5 ∨ k = 6 ∨ k = 7) : ∀ (g b : Nat) (V : CV), (laL T g b V).2.2.2 k = V.2.2.2 k
  | 0, _, _ => rfl
  | g + 1, b, V => by
    refine (laL_k hk g (b + 1) (laS T V b)).trans ?_
    rcases hk with rfl | rfl | rfl | rfl <;> rfl
theorem laL_1 {T : TV} : ∀ (g b : Nat) (V : CV) (j : Nat), ((j < b ∧ V.2.2.2 1 j = T.2.1 8 j ∧ V.2.2.2 2 j = T.2.1 9 j ∧ V.2.2.2 3 j = nI 0) ∨ (b ≤ j ∧ j < b + g)) → (laL T g b V).2.2.2 1 j = T.2.1 8 j ∧ (laL T g b V).2.2.2 2 j = T.2.1 9 j ∧ (laL T g b V).2.2.2 3 j = nI 0
  | 0, b, V, j, h => by
    rcases h with h | h
    · exact h.2
    · omega
  | g + 1, b, V, j, h => by
    refine laL_1 g (b + 1) (laS T V b) j ?_
    by_cases e : j = b
    · exact Or.inl ⟨by omega, by rw [e]; exact pk_us, by rw [e]; exact pk_us, by rw [e]; exact pk_us⟩
    · rcases h with h | h
      · exact Or.inl ⟨by omega, (pk_un e).trans h.2.1, (pk_un e).trans h.2.2.1, (pk_un e).trans h.2.2.2⟩
      · exact Or.inr ⟨by omega, by omega⟩
theorem laL_3 {T : TV} : ∀ (g b : Nat) (V : CV) (j : Nat), b + g ≤ j → (laL T g b V).2.2.2 3 j = V.2.2.2 3 j
  | 0, _, _, _, _ => rfl
  | g + 1, b, V, j, h => by
    refine (laL_3 g (b + 1) (laS T V b) j (by omega)).trans ?_
    exact pk_un (by omega)
theorem laL_8 {T : TV} {m : MR} {nb : Nat} (h3 : ∀ i, i < nb → m.2.2.2 3 i = 0) (h0 : ∀ i, i < nb → m.2.2.2 0 i = T.2.1 7 i) (hb : ∀ i, i < nb → ∃ β, β < 6 ∧ T.2.1 7 i = nI β) : ∀ (g b : Nat) (V : CV), b + g ≤ nb → (∀ β, β < 6 → V.2.2.2 8 β = nI (ldN m (nI β) b)) → ∀ β, β < 6 → (laL T g b V).2.2.2 8 β = nI (ldN m (nI β) (b + g))
  | 0, _, _, _, h => h
  | g + 1, b, V, hg, h => fun β hβ => by
    rw [show b + (g + 1) = b + 1 + g by omega]
    refine laL_8 h3 h0 hb g (b + 1) (laS T V b) (by omega) (fun β2 hβ2 => ?_) β hβ
    obtain ⟨β0, hβ0, e0⟩ := hb b (by omega)
    show upd (V.2.2.2 8) (upd (V.2.2.2 0) b (T.2.1 7 b) b).toNatClampNeg (V.2.2.2 8 (upd (V.2.2.2 0) b (T.2.1 7 b) b).toNatClampNeg + nI 1) β2 = _
    rw [pk_us, e0, nI_clamp (by omega), ldN]
    by_cases e : β2 = β0
    · rw [e, pk_us, h β0 hβ0, if_pos ⟨h3 b (by omega), by rw [h0 b (by omega), e0]⟩, nI_add]
    · rw [pk_un e, h β2 hβ2, if_neg (fun q => e (nI_eqI (by omega) (by omega) (q.2.symm.trans ((h0 b (by omega)).trans e0))))]
      rfl
theorem hdS_0 {m : MR} {q : Int32} (hq : (nI 0 >>> (q &&& 31)) &&& nI 1 = 0) : ∀ n, (∀ i, i < n → m.2.2.2 6 i = nI 0) → hdS m q n = nI 0
  | 0, _ => rfl
  | n + 1, h => by
    rw [hdS, hdS_0 hq n (fun i hi => h i (by omega)), h n (by omega), hq]
    rfl
theorem q0_bit : ∀ q, q < 5 → (nI 0 >>> (nI q &&& 31)) &&& nI 1 = 0 := by decide
theorem SI.cr {c : Nat} {A : Nat → Nat → Int32} {T : TV} {np nb nn : Nat} {M M' : Nat → MR} {V : CV} (h : SI c A nb M M' 5 10 8) (hR : RT A T np nb nn) (hT : WT T np nb nn) : CR False np nb nn (M' c) (layF T nb V) := by
  obtain ⟨-, h1, h2, h3, h6, h4, h5⟩ := h
  have hnp := hT.2.2.2.1
  have hnb := hT.2.2.2.2.1
  obtain ⟨sd, hsd, esd⟩ := hR.2.2.2.2.2.2.2.2.2.2.2.1
  have kk : ∀ k, k = 4 ∨ k = 5 ∨ k = 6 ∨ k = 7 → (layF T nb V).2.2.2 k = (la0 T V).2.2.2 k := fun k hk => laL_k hk nb 0 (la0 T V)
  have l1 : ∀ b, b < nb → _ := fun b hb => laL_1 (T := T) nb 0 (la0 T V) b (Or.inr ⟨by omega, by omega⟩)
  have l0 : ∀ b, b < nb → (layF T nb V).2.2.2 0 b = T.2.1 7 b := fun b hb => laL_0 (T := T) nb 0 (la0 T V) b (Or.inr ⟨by omega, by omega⟩)
  have e12 : ∀ (g b : Nat) (V : CV), (laL T g b V).1 = V.1 ∧ (laL T g b V).2.1 = V.2.1 ∧ (laL T g b V).2.2.1 = V.2.2.1 := fun g => by
    induction g with
    | zero => intro b V; exact ⟨rfl, rfl, rfl⟩
    | succ g ih => intro b V; exact ih (b + 1) (laS T V b)
  have f := e12 nb 0 (la0 T V)
  refine ⟨h1.trans f.1.symm, ⟨?_, ?_⟩, h3.trans f.2.2.symm, fun b hb => ?_, fun n hn => ?_, fun p hp => ?_, fun q hq => ?_, fun β hβ => ?_, fun b hb hb2 => ?_, fun n hn hn2 => ?_, layF_V hT, fun p hp => ?_, fun n hn => ?_, fun b hb => ?_⟩
  · rw [h2, hR.2.2.2.2.1]; exact f.2.1.symm
  · rw [h2, hR.2.2.2.2.1, esd]; exact nI_pos' (by omega)
  · have h9 := h4 b (by omega)
    have r9 := hR.2.2.2.2.2.2.2.1 b hb
    refine ⟨(h9.1 hb).1.trans (r9.2.2.2.1.trans (l0 b hb).symm), (h9.1 hb).2.1.trans (r9.2.2.2.2.1.trans (l1 b hb).1.symm), (h9.1 hb).2.2.1.trans (r9.2.2.2.2.2.trans (l1 b hb).2.1.symm), ?_, Or.inl ((h9.1 hb).2.2.2.trans (l1 b hb).2.2.symm)⟩
    rw [h9.2, kk 4 (Or.inl rfl)]; rfl
  · rw [h5 n hn, kk 5 (by omega)]; rfl
  · rw [h6 p hp, kk 6 (by omega)]; rfl
  · rw [kk 7 (by omega), hdS_0 (q0_bit q hq) np (fun i hi => h6 i (by omega))]; rfl
  · have := laL_8 (T := T) (m := M' c) (nb := nb) (fun i hi => ((h4 i (by omega)).1 hi).2.2.2) (fun i hi => ((h4 i (by omega)).1 hi).1.trans (hR.2.2.2.2.2.2.2.1 i hi).2.2.2.1) hT.2.2.2.2.2.2.2.2.2.2 nb 0 (la0 T V) (by omega) (fun β hβ => rfl) β hβ
    rw [Nat.zero_add] at this
    exact this
  · exact (laL_3 nb 0 (la0 T V) b (by omega)).trans rfl
  · rw [kk 5 (by omega)]; rfl
  · exact ⟨0, by omega, by rw [kk 6 (by omega)]; rfl⟩
  · rw [kk 5 (by omega)]; exact Or.inl rfl
  · obtain ⟨f, hf, ef⟩ := hR.2.2.2.2.2.2.2.2.2.2.2.2 b hb
    exact ⟨f, hf, (l1 b hb).1.trans ef⟩
