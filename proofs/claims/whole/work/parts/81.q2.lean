/-! THE MODEL: a token (own program mod_q2.py) -/
def SG (c : Int32) : Prop := c = nI 59 ∨ c = nI 40 ∨ c = nI 41 ∨ c = nI 43 ∨ c = nI 45 ∨ c = nI 42 ∨ c = nI 47 ∨ c = nI 60 ∨ c = nI 61 ∨ c = nI 62
theorem sgO_no {x y : Int32} (h : ¬ SG x) : sgO x y = nI 35 := by
  unfold SG at h
  simp only [not_or] at h
  obtain ⟨a59, a40, a41, a43, a45, a42, a47, a60, a61, a62⟩ := h
  unfold sgO
  rw [if_neg a40, if_neg a41, if_neg a42, if_neg a43, if_neg a45, if_neg a47, if_neg a59, if_neg a60, if_neg a61, if_neg a62]
/-- a sign's number in the model -/
def vS (c h : Int32) : Int32 := if c = nI 60 then (if h = nI 61 then nI 256 else if h = nI 62 then nI 257 else c) else if c = nI 62 then (if h = nI 61 then nI 258 else c) else c
def tkE (tp : Nat → Int32) (z p : Nat) (s : Nat → Int32) : Prop := KVR (tk1 tp z p).1 (tk1 tp z p).2.1 (s 25) (s 26) ∧ s 23 = nI (tk1 tp z p).2.2
theorem SG_d {c : Int32} (h : SG c) : ∃ x, x < 128 ∧ c = nI x ∧ (x = 59 ∨ x = 40 ∨ x = 41 ∨ x = 43 ∨ x = 45 ∨ x = 42 ∨ x = 47 ∨ x = 60 ∨ x = 61 ∨ x = 62) := by
  rcases h with h | h | h | h | h | h | h | h | h | h <;> exact ⟨_, by decide, h, by decide⟩
theorem kv_sg {c x y h : Int32} (hx : SG c ↔ SG x) (hc : ∀ k, k < 128 → (c = nI k ↔ x = nI k)) (h61 : h = nI 61 ↔ y = nI 61) (h62 : h = nI 62 ↔ y = nI 62) (hc9 : ∃ k, k < 256 ∧ c = nI k) {so : Int32} (hso : (SG c ∧ so = nI 3) ∨ (¬ SG c ∧ so = nI 5)) : KVR (sgO x y) none so (vS c h) ∧ (two (sgO x y) = 0 ↔ ¬ (vS c h = nI 256 ∨ vS c h = nI 257 ∨ vS c h = nI 258)) := by
  rcases hso with ⟨h1, rfl⟩ | ⟨h1, rfl⟩
  · obtain ⟨k, hk, rfl, hk2⟩ := SG_d h1
    have ex := (hc k hk).mp rfl
    subst ex
    rcases hk2 with rfl | rfl | rfl | rfl | rfl | rfl | rfl | rfl | rfl | rfl
    · exact ⟨Or.inr (Or.inr (Or.inr (Or.inr (Or.inr (Or.inr (Or.inl ⟨rfl, rfl, rfl⟩)))))), ⟨fun _ => by rw [show vS (nI 59) h = nI 59 from rfl]; decide, fun _ => by rw [show sgO (nI 59) y = nI 31 from rfl]; decide⟩⟩
    · exact ⟨Or.inr (Or.inr (Or.inr (Or.inr (Or.inr (Or.inr (Or.inr (Or.inl ⟨rfl, rfl, rfl⟩))))))), ⟨fun _ => by rw [show vS (nI 40) h = nI 40 from rfl]; decide, fun _ => by rw [show sgO (nI 40) y = nI 32 from rfl]; decide⟩⟩
    · exact ⟨Or.inr (Or.inr (Or.inr (Or.inr (Or.inr (Or.inr (Or.inr (Or.inr (Or.inl ⟨rfl, rfl, rfl⟩)))))))), ⟨fun _ => by rw [show vS (nI 41) h = nI 41 from rfl]; decide, fun _ => by rw [show sgO (nI 41) y = nI 33 from rfl]; decide⟩⟩
    · exact ⟨Or.inr (Or.inr (Or.inr (Or.inl ⟨6, by decide, rfl, rfl, rfl⟩))), ⟨fun _ => by rw [show vS (nI 43) h = nI 43 from rfl]; decide, fun _ => by rw [show sgO (nI 43) y = nI 25 from rfl]; decide⟩⟩
    · exact ⟨Or.inr (Or.inr (Or.inr (Or.inl ⟨7, by decide, rfl, rfl, rfl⟩))), ⟨fun _ => by rw [show vS (nI 45) h = nI 45 from rfl]; decide, fun _ => by rw [show sgO (nI 45) y = nI 26 from rfl]; decide⟩⟩
    · exact ⟨Or.inr (Or.inr (Or.inr (Or.inl ⟨8, by decide, rfl, rfl, rfl⟩))), ⟨fun _ => by rw [show vS (nI 42) h = nI 42 from rfl]; decide, fun _ => by rw [show sgO (nI 42) y = nI 27 from rfl]; decide⟩⟩
    · exact ⟨Or.inr (Or.inr (Or.inr (Or.inl ⟨9, by decide, rfl, rfl, rfl⟩))), ⟨fun _ => by rw [show vS (nI 47) h = nI 47 from rfl]; decide, fun _ => by rw [show sgO (nI 47) y = nI 28 from rfl]; decide⟩⟩
    · have e1 : sgO (nI 60) y = if y = nI 61 then nI 20 else if y = nI 62 then nI 22 else nI 19 := rfl
      have e2 : vS (nI 60) h = if h = nI 61 then nI 256 else if h = nI 62 then nI 257 else nI 60 := rfl
      rw [e1, e2]
      by_cases q : y = nI 61
      · rw [if_pos q, if_pos (h61.mpr q)]
        exact ⟨Or.inr (Or.inr (Or.inr (Or.inl ⟨1, by decide, rfl, rfl, rfl⟩))), by decide⟩
      · rw [if_neg q, if_neg (fun w => q (h61.mp w))]
        by_cases q2 : y = nI 62
        · rw [if_pos q2, if_pos (h62.mpr q2)]
          exact ⟨Or.inr (Or.inr (Or.inr (Or.inl ⟨3, by decide, rfl, rfl, rfl⟩))), by decide⟩
        · rw [if_neg q2, if_neg (fun w => q2 (h62.mp w))]
          exact ⟨Or.inr (Or.inr (Or.inr (Or.inl ⟨0, by decide, rfl, rfl, rfl⟩))), by decide⟩
    · exact ⟨Or.inr (Or.inr (Or.inr (Or.inl ⟨2, by decide, rfl, rfl, rfl⟩))), ⟨fun _ => by rw [show vS (nI 61) h = nI 61 from rfl]; decide, fun _ => by rw [show sgO (nI 61) y = nI 21 from rfl]; decide⟩⟩
    · have e1 : sgO (nI 62) y = if y = nI 61 then nI 23 else nI 24 := rfl
      have e2 : vS (nI 62) h = if h = nI 61 then nI 258 else nI 62 := rfl
      rw [e1, e2]
      by_cases q : y = nI 61
      · rw [if_pos q, if_pos (h61.mpr q)]
        exact ⟨Or.inr (Or.inr (Or.inr (Or.inl ⟨4, by decide, rfl, rfl, rfl⟩))), by decide⟩
      · rw [if_neg q, if_neg (fun w => q (h61.mp w))]
        exact ⟨Or.inr (Or.inr (Or.inr (Or.inl ⟨5, by decide, rfl, rfl, rfl⟩))), by decide⟩
  · rw [sgO_no (fun q => h1 (hx.mpr q))]
    refine ⟨Or.inr (Or.inr (Or.inr (Or.inr (Or.inr (Or.inr (Or.inr (Or.inr (Or.inr (Or.inr ⟨rfl, rfl⟩))))))))), ⟨fun _ => ?_, fun _ => by decide⟩⟩
    have n60 : ¬ c = nI 60 := fun q => h1 (by rw [q]; unfold SG; decide)
    have n62 : ¬ c = nI 62 := fun q => h1 (by rw [q]; unfold SG; decide)
    have e : vS c h = c := by unfold vS; rw [if_neg n60, if_neg n62]
    rw [e]
    intro q
    have hk : ∀ k, (256 ≤ k ∧ k < 300) → c = nI k → False := fun k hk e => by
      obtain ⟨k2, h2, e2⟩ := hc9
      have := nI_eqI (by omega) (by omega) (e2.symm.trans e)
      omega
    rcases q with q | q | q
    · exact hk 256 (by decide) q
    · exact hk 257 (by decide) q
    · exact hk 258 (by decide) q
theorem L10_sg76 {d : Nat} {s : Nat → Int32} {A : Nat → Nat → Int32} {L : LL} {M : Nat → MR} {tp : Nat → Int32} {z : Nat} (hz : z ≤ 700) (hTP : TP tp (A 1) z) {c so : Int32} {p : Nat} (hp : p + 1 ≤ z) (e23 : s 23 = nI (p + 1)) (e22 : s 22 = nI z) (hc9 : ∃ k, k < 256 ∧ c = nI k) : J m10_sign (d + 1) 0 0 40 76 [(0, .ref 0), (1, .int c)] [.int so, .ref 0] (modW s A L M) 0 0 (fun r w' => r = none ∧ ∃ s', w' = modW s' A L M ∧ (∀ k, k ≠ 23 → k ≠ 25 → k ≠ 26 → s' k = s k) ∧ s' 25 = so ∧ s' 26 = vS c (hrE (A 1) z (p + 1)) ∧ s' 23 = nI (if vS c (hrE (A 1) z (p + 1)) = nI 256 ∨ vS c (hrE (A 1) z (p + 1)) = nI 257 ∨ vS c (hrE (A 1) z (p + 1)) = nI 258 then p + 2 else p + 1)) := by
  obtain ⟨k9, hk9, ek9⟩ := hc9
  have hlt : c < nI 256 := by rw [ek9]; exact Int32.not_le.mp (nI_ge hk9 (by decide))
  have hno : ¬ (c = nI 256 ∨ c = nI 257 ∨ c = nI 258) := by
    rintro (q | q | q) <;> exact absurd (nI_eqI (by omega) (by decide) (ek9.symm.trans q)) (by omega)
  by_cases hc60 : c = nI 60
  · refine J_mput (pc := 76) D10_sign_76 fp10_158 ms_25 ?_
    refine J_aload_n (pc := 79) D10_sign_79 rfl ?_
    refine J_iload_n (pc := 80) D10_sign_80 rfl ?_
    refine J_mput (pc := 81) D10_sign_81 fp10_168 ms_26 ?_
    refine J_iload_n (pc := 84) D10_sign_84 rfl ?_
    refine J_bipush (pc := 85) (v := (nI 60)) D10_sign_85 (by decide) ?_
    refine J_icmp_ne (pc := 87) (tgt := 106) D10_sign_87 (by decide) (fun h87 => absurd hc60 h87) (fun h87 => ?_)
    refine J_aload_n (pc := 90) D10_sign_90 rfl ?_
    refine J_callVTR (pc := 91) (ac := []) D10_sign_91 m10_here_v t1439 (c10_here (d := d) (q := p + 1) (z := z) e23 e22 hz hp) (by omega) rfl rfl rfl rfl (fun _ => rfl) rfl rfl rfl ?_
    refine J_bipush (pc := 94) (v := (nI 61)) D10_sign_94 (by decide) ?_
    refine J_icmp_ne (pc := 96) (tgt := 106) D10_sign_96 (by decide) (fun h96 => ?_) (fun h96 => ?_)
    · refine J_iload_n (pc := 106) D10_sign_106 rfl ?_
      refine J_bipush (pc := 107) (v := (nI 60)) D10_sign_107 (by decide) ?_
      refine J_icmp_ne (pc := 109) (tgt := 128) D10_sign_109 (by decide) (fun h109 => absurd hc60 h109) (fun h109 => ?_)
      refine J_aload_n (pc := 112) D10_sign_112 rfl ?_
      refine J_callVTR (pc := 113) (ac := []) D10_sign_113 m10_here_v t1439 (c10_here (d := d) (q := p + 1) (z := z) e23 e22 hz hp) (by omega) rfl rfl rfl rfl (fun _ => rfl) rfl rfl rfl ?_
      refine J_bipush (pc := 116) (v := (nI 62)) D10_sign_116 (by decide) ?_
      refine J_icmp_ne (pc := 118) (tgt := 128) D10_sign_118 (by decide) (fun h118 => ?_) (fun h118 => ?_)
      · refine J_iload_n (pc := 128) D10_sign_128 rfl ?_
        refine J_bipush (pc := 129) (v := (nI 62)) D10_sign_129 (by decide) ?_
        refine J_icmp_ne (pc := 131) (tgt := 150) D10_sign_131 (by decide) (fun h131 => ?_) (fun h131 => absurd h131 (by rw [hc60]; decide))
        refine J_aload_n (pc := 150) D10_sign_150 rfl ?_
        refine J_getf (pc := 151) D10_sign_151 fl10_168 rfl rfl ?_
        refine J_sipush (pc := 154) (v := (nI 256)) D10_sign_154 (by decide) ?_
        refine J_icmp_lt (pc := 157) (tgt := 170) D10_sign_157 (by decide) (fun h157 => ?_) (fun h157 => absurd hlt h157)
        refine J_vret (pc := 170) D10_sign_170 rfl ?_
        have ev : vS c (hrE (A 1) z (p + 1)) = c := by unfold vS; rw [if_pos hc60, if_neg h96, if_neg h118]
        refine ⟨rfl, _, rfl, fun k a b c => ?_, rfl, ?_, ?_⟩
        · rw [updI_n c, updI_n b]
        · rw [ev]; rfl
        · rw [ev, if_neg (by rw [hc60]; decide)]
          exact e23
      · have h118' := eq_true h118
        refine J_aload_n (pc := 121) D10_sign_121 rfl ?_
        refine J_sipush (pc := 122) (v := (nI 257)) D10_sign_122 (by decide) ?_
        refine J_mput (pc := 125) D10_sign_125 fp10_168 ms_26 ?_
        refine J_iload_n (pc := 128) D10_sign_128 rfl ?_
        refine J_bipush (pc := 129) (v := (nI 62)) D10_sign_129 (by decide) ?_
        refine J_icmp_ne (pc := 131) (tgt := 150) D10_sign_131 (by decide) (fun h131 => ?_) (fun h131 => absurd h131 (by rw [hc60]; decide))
        refine J_aload_n (pc := 150) D10_sign_150 rfl ?_
        refine J_getf (pc := 151) D10_sign_151 fl10_168 rfl rfl ?_
        refine J_sipush (pc := 154) (v := (nI 256)) D10_sign_154 (by decide) ?_
        refine J_icmp_lt (pc := 157) (tgt := 170) D10_sign_157 (by decide) (fun h157 => absurd h157 (show ¬ nI 257 < nI 256 from by decide)) (fun h157 => ?_)
        refine J_aload_n (pc := 160) D10_sign_160 rfl ?_
        refine J_dup (pc := 161) D10_sign_161 rfl ?_
        refine J_getf (pc := 162) D10_sign_162 fl10_145 rfl rfl ?_
        refine J_iconst (pc := 165) (v := (nI 1)) D10_sign_165 (by decide) ?_
        refine J_iadd (pc := 166) D10_sign_166 ?_
        refine J_mput (pc := 167) D10_sign_167 fp10_145 ms_23 ?_
        refine J_vret (pc := 170) D10_sign_170 rfl ?_
        have ev : vS c (hrE (A 1) z (p + 1)) = nI 257 := by unfold vS; rw [if_pos hc60, if_neg h96, if_pos h118]
        refine ⟨rfl, _, rfl, fun k a b c => ?_, rfl, ?_, ?_⟩
        · rw [updI_n a, updI_n c, updI_n c, updI_n b]
        · rw [ev]; rfl
        · rw [ev, if_pos (by decide)]
          show s 23 + nI 1 = _
          rw [e23, nI_add]
    · have h96' := eq_true h96
      refine J_aload_n (pc := 99) D10_sign_99 rfl ?_
      refine J_sipush (pc := 100) (v := (nI 256)) D10_sign_100 (by decide) ?_
      refine J_mput (pc := 103) D10_sign_103 fp10_168 ms_26 ?_
      refine J_iload_n (pc := 106) D10_sign_106 rfl ?_
      refine J_bipush (pc := 107) (v := (nI 60)) D10_sign_107 (by decide) ?_
      refine J_icmp_ne (pc := 109) (tgt := 128) D10_sign_109 (by decide) (fun h109 => absurd hc60 h109) (fun h109 => ?_)
      refine J_aload_n (pc := 112) D10_sign_112 rfl ?_
      refine J_callVTR (pc := 113) (ac := []) D10_sign_113 m10_here_v t1439 (c10_here (d := d) (q := p + 1) (z := z) e23 e22 hz hp) (by omega) rfl rfl rfl rfl (fun _ => rfl) rfl rfl rfl ?_
      refine J_bipush (pc := 116) (v := (nI 62)) D10_sign_116 (by decide) ?_
      refine J_icmp_ne (pc := 118) (tgt := 128) D10_sign_118 (by decide) (fun h118 => ?_) (fun h118 => absurd h118 (by rw [h96]; decide))
      refine J_iload_n (pc := 128) D10_sign_128 rfl ?_
      refine J_bipush (pc := 129) (v := (nI 62)) D10_sign_129 (by decide) ?_
      refine J_icmp_ne (pc := 131) (tgt := 150) D10_sign_131 (by decide) (fun h131 => ?_) (fun h131 => absurd h131 (by rw [hc60]; decide))
      refine J_aload_n (pc := 150) D10_sign_150 rfl ?_
      refine J_getf (pc := 151) D10_sign_151 fl10_168 rfl rfl ?_
      refine J_sipush (pc := 154) (v := (nI 256)) D10_sign_154 (by decide) ?_
      refine J_icmp_lt (pc := 157) (tgt := 170) D10_sign_157 (by decide) (fun h157 => absurd h157 (show ¬ nI 256 < nI 256 from by decide)) (fun h157 => ?_)
      refine J_aload_n (pc := 160) D10_sign_160 rfl ?_
      refine J_dup (pc := 161) D10_sign_161 rfl ?_
      refine J_getf (pc := 162) D10_sign_162 fl10_145 rfl rfl ?_
      refine J_iconst (pc := 165) (v := (nI 1)) D10_sign_165 (by decide) ?_
      refine J_iadd (pc := 166) D10_sign_166 ?_
      refine J_mput (pc := 167) D10_sign_167 fp10_145 ms_23 ?_
      refine J_vret (pc := 170) D10_sign_170 rfl ?_
      have ev : vS c (hrE (A 1) z (p + 1)) = nI 256 := by unfold vS; rw [if_pos hc60, if_pos h96]
      refine ⟨rfl, _, rfl, fun k a b c => ?_, rfl, ?_, ?_⟩
      · rw [updI_n a, updI_n c, updI_n c, updI_n b]
      · rw [ev]; rfl
      · rw [ev, if_pos (by decide)]
        show s 23 + nI 1 = _
        rw [e23, nI_add]
  · by_cases hc62 : c = nI 62
    · refine J_mput (pc := 76) D10_sign_76 fp10_158 ms_25 ?_
      refine J_aload_n (pc := 79) D10_sign_79 rfl ?_
      refine J_iload_n (pc := 80) D10_sign_80 rfl ?_
      refine J_mput (pc := 81) D10_sign_81 fp10_168 ms_26 ?_
      refine J_iload_n (pc := 84) D10_sign_84 rfl ?_
      refine J_bipush (pc := 85) (v := (nI 60)) D10_sign_85 (by decide) ?_
      refine J_icmp_ne (pc := 87) (tgt := 106) D10_sign_87 (by decide) (fun h87 => ?_) (fun h87 => absurd h87 (by rw [hc62]; decide))
      refine J_iload_n (pc := 106) D10_sign_106 rfl ?_
      refine J_bipush (pc := 107) (v := (nI 60)) D10_sign_107 (by decide) ?_
      refine J_icmp_ne (pc := 109) (tgt := 128) D10_sign_109 (by decide) (fun h109 => ?_) (fun h109 => absurd h109 (by rw [hc62]; decide))
      refine J_iload_n (pc := 128) D10_sign_128 rfl ?_
      refine J_bipush (pc := 129) (v := (nI 62)) D10_sign_129 (by decide) ?_
      refine J_icmp_ne (pc := 131) (tgt := 150) D10_sign_131 (by decide) (fun h131 => absurd hc62 h131) (fun h131 => ?_)
      refine J_aload_n (pc := 134) D10_sign_134 rfl ?_
      refine J_callVTR (pc := 135) (ac := []) D10_sign_135 m10_here_v t1439 (c10_here (d := d) (q := p + 1) (z := z) e23 e22 hz hp) (by omega) rfl rfl rfl rfl (fun _ => rfl) rfl rfl rfl ?_
      refine J_bipush (pc := 138) (v := (nI 61)) D10_sign_138 (by decide) ?_
      refine J_icmp_ne (pc := 140) (tgt := 150) D10_sign_140 (by decide) (fun h140 => ?_) (fun h140 => ?_)
      · refine J_aload_n (pc := 150) D10_sign_150 rfl ?_
        refine J_getf (pc := 151) D10_sign_151 fl10_168 rfl rfl ?_
        refine J_sipush (pc := 154) (v := (nI 256)) D10_sign_154 (by decide) ?_
        refine J_icmp_lt (pc := 157) (tgt := 170) D10_sign_157 (by decide) (fun h157 => ?_) (fun h157 => absurd hlt h157)
        refine J_vret (pc := 170) D10_sign_170 rfl ?_
        have ev : vS c (hrE (A 1) z (p + 1)) = c := by unfold vS; rw [if_neg (by rw [hc62]; decide), if_pos hc62, if_neg h140]
        refine ⟨rfl, _, rfl, fun k a b c => ?_, rfl, ?_, ?_⟩
        · rw [updI_n c, updI_n b]
        · rw [ev]; rfl
        · rw [ev, if_neg (by rw [hc62]; decide)]
          exact e23
      · have h140' := eq_true h140
        refine J_aload_n (pc := 143) D10_sign_143 rfl ?_
        refine J_sipush (pc := 144) (v := (nI 258)) D10_sign_144 (by decide) ?_
        refine J_mput (pc := 147) D10_sign_147 fp10_168 ms_26 ?_
        refine J_aload_n (pc := 150) D10_sign_150 rfl ?_
        refine J_getf (pc := 151) D10_sign_151 fl10_168 rfl rfl ?_
        refine J_sipush (pc := 154) (v := (nI 256)) D10_sign_154 (by decide) ?_
        refine J_icmp_lt (pc := 157) (tgt := 170) D10_sign_157 (by decide) (fun h157 => absurd h157 (show ¬ nI 258 < nI 256 from by decide)) (fun h157 => ?_)
        refine J_aload_n (pc := 160) D10_sign_160 rfl ?_
        refine J_dup (pc := 161) D10_sign_161 rfl ?_
        refine J_getf (pc := 162) D10_sign_162 fl10_145 rfl rfl ?_
        refine J_iconst (pc := 165) (v := (nI 1)) D10_sign_165 (by decide) ?_
        refine J_iadd (pc := 166) D10_sign_166 ?_
        refine J_mput (pc := 167) D10_sign_167 fp10_145 ms_23 ?_
        refine J_vret (pc := 170) D10_sign_170 rfl ?_
        have ev : vS c (hrE (A 1) z (p + 1)) = nI 258 := by unfold vS; rw [if_neg (by rw [hc62]; decide), if_pos hc62, if_pos h140]
        refine ⟨rfl, _, rfl, fun k a b c => ?_, rfl, ?_, ?_⟩
        · rw [updI_n a, updI_n c, updI_n c, updI_n b]
        · rw [ev]; rfl
        · rw [ev, if_pos (by decide)]
          show s 23 + nI 1 = _
          rw [e23, nI_add]
    · refine J_mput (pc := 76) D10_sign_76 fp10_158 ms_25 ?_
      refine J_aload_n (pc := 79) D10_sign_79 rfl ?_
      refine J_iload_n (pc := 80) D10_sign_80 rfl ?_
      refine J_mput (pc := 81) D10_sign_81 fp10_168 ms_26 ?_
      refine J_iload_n (pc := 84) D10_sign_84 rfl ?_
      refine J_bipush (pc := 85) (v := (nI 60)) D10_sign_85 (by decide) ?_
      refine J_icmp_ne (pc := 87) (tgt := 106) D10_sign_87 (by decide) (fun h87 => ?_) (fun h87 => absurd h87 hc60)
      refine J_iload_n (pc := 106) D10_sign_106 rfl ?_
      refine J_bipush (pc := 107) (v := (nI 60)) D10_sign_107 (by decide) ?_
      refine J_icmp_ne (pc := 109) (tgt := 128) D10_sign_109 (by decide) (fun h109 => ?_) (fun h109 => absurd h109 hc60)
      refine J_iload_n (pc := 128) D10_sign_128 rfl ?_
      refine J_bipush (pc := 129) (v := (nI 62)) D10_sign_129 (by decide) ?_
      refine J_icmp_ne (pc := 131) (tgt := 150) D10_sign_131 (by decide) (fun h131 => ?_) (fun h131 => absurd h131 hc62)
      refine J_aload_n (pc := 150) D10_sign_150 rfl ?_
      refine J_getf (pc := 151) D10_sign_151 fl10_168 rfl rfl ?_
      refine J_sipush (pc := 154) (v := (nI 256)) D10_sign_154 (by decide) ?_
      refine J_icmp_lt (pc := 157) (tgt := 170) D10_sign_157 (by decide) (fun h157 => ?_) (fun h157 => absurd hlt h157)
      refine J_vret (pc := 170) D10_sign_170 rfl ?_
      have ev : vS c (hrE (A 1) z (p + 1)) = c := by unfold vS; rw [if_neg hc60, if_neg hc62]
      refine ⟨rfl, _, rfl, fun k a b c => ?_, rfl, ?_, ?_⟩
      · rw [updI_n c, updI_n b]
      · rw [ev]; rfl
      · rw [ev, if_neg hno]
        exact e23
theorem c10_sign {d : Nat} {s : Nat → Int32} {A : Nat → Nat → Int32} {L : LL} {M : Nat → MR} {tp : Nat → Int32} {z : Nat} (hz : z ≤ 700) (hTP : TP tp (A 1) z) {c : Int32} {p : Nat} (hp : p + 1 ≤ z) (e23 : s 23 = nI p) (e22 : s 22 = nI z) (hc9 : ∃ k, k < 256 ∧ c = nI k) : Tr (d + 1) 0 0 m10_sign [.ref 0, .int c] (modW s A L M) (fun r w' => r = none ∧ ∃ s' so, w' = modW s' A L M ∧ (∀ k, k ≠ 23 → k ≠ 25 → k ≠ 26 → s' k = s k) ∧ ((SG c ∧ so = nI 3) ∨ (¬ SG c ∧ so = nI 5)) ∧ s' 25 = so ∧ s' 26 = vS c (hrE (A 1) z (p + 1)) ∧ s' 23 = nI (if vS c (hrE (A 1) z (p + 1)) = nI 256 ∨ vS c (hrE (A 1) z (p + 1)) = nI 257 ∨ vS c (hrE (A 1) z (p + 1)) = nI 258 then p + 2 else p + 1)) := by
  refine Tr.intro (by decide) rfl ?_
  refine J_aload_n (pc := 0) D10_sign_0 rfl ?_
  refine J_dup (pc := 1) D10_sign_1 rfl ?_
  refine J_getf (pc := 2) D10_sign_2 fl10_145 rfl rfl ?_
  refine J_iconst (pc := 5) (v := (nI 1)) D10_sign_5 (by decide) ?_
  refine J_iadd (pc := 6) D10_sign_6 ?_
  refine J_mput (pc := 7) D10_sign_7 fp10_145 ms_23 ?_
  refine J_aload_n (pc := 10) D10_sign_10 rfl ?_
  refine J_iload_n (pc := 11) D10_sign_11 rfl ?_
  refine J_bipush (pc := 12) (v := (nI 59)) D10_sign_12 (by decide) ?_
  refine J_icmp_eq (pc := 14) (tgt := 71) D10_sign_14 (by decide) (fun h14 => ?_) (fun h14 => ?_)
  · have h14' := eq_true h14
    refine J_iconst (pc := 71) (v := (nI 3)) D10_sign_71 (by decide) ?_
    refine J_goto (pc := 72) (tgt := 76) D10_sign_72 (by decide) ?_
    refine J_mono (L10_sg76 (so := nI 3) hz hTP hp (updI_s.trans (by rw [e23, nI_add])) e22 hc9) ?_
    rintro r w' ⟨rfl, s2, rfl, h1, h2, h3, h4⟩
    exact ⟨rfl, s2, nI 3, rfl, fun k a b c => (h1 k a b c).trans (updI_n a), Or.inl ⟨Or.inl h14, rfl⟩, h2, h3, h4⟩
  · refine J_iload_n (pc := 17) D10_sign_17 rfl ?_
    refine J_bipush (pc := 18) (v := (nI 40)) D10_sign_18 (by decide) ?_
    refine J_icmp_eq (pc := 20) (tgt := 71) D10_sign_20 (by decide) (fun h20 => ?_) (fun h20 => ?_)
    · have h20' := eq_true h20
      refine J_iconst (pc := 71) (v := (nI 3)) D10_sign_71 (by decide) ?_
      refine J_goto (pc := 72) (tgt := 76) D10_sign_72 (by decide) ?_
      refine J_mono (L10_sg76 (so := nI 3) hz hTP hp (updI_s.trans (by rw [e23, nI_add])) e22 hc9) ?_
      rintro r w' ⟨rfl, s2, rfl, h1, h2, h3, h4⟩
      exact ⟨rfl, s2, nI 3, rfl, fun k a b c => (h1 k a b c).trans (updI_n a), Or.inl ⟨Or.inr (Or.inl h20), rfl⟩, h2, h3, h4⟩
    · refine J_iload_n (pc := 23) D10_sign_23 rfl ?_
      refine J_bipush (pc := 24) (v := (nI 41)) D10_sign_24 (by decide) ?_
      refine J_icmp_eq (pc := 26) (tgt := 71) D10_sign_26 (by decide) (fun h26 => ?_) (fun h26 => ?_)
      · have h26' := eq_true h26
        refine J_iconst (pc := 71) (v := (nI 3)) D10_sign_71 (by decide) ?_
        refine J_goto (pc := 72) (tgt := 76) D10_sign_72 (by decide) ?_
        refine J_mono (L10_sg76 (so := nI 3) hz hTP hp (updI_s.trans (by rw [e23, nI_add])) e22 hc9) ?_
        rintro r w' ⟨rfl, s2, rfl, h1, h2, h3, h4⟩
        exact ⟨rfl, s2, nI 3, rfl, fun k a b c => (h1 k a b c).trans (updI_n a), Or.inl ⟨Or.inr (Or.inr (Or.inl h26)), rfl⟩, h2, h3, h4⟩
      · refine J_iload_n (pc := 29) D10_sign_29 rfl ?_
        refine J_bipush (pc := 30) (v := (nI 43)) D10_sign_30 (by decide) ?_
        refine J_icmp_eq (pc := 32) (tgt := 71) D10_sign_32 (by decide) (fun h32 => ?_) (fun h32 => ?_)
        · have h32' := eq_true h32
          refine J_iconst (pc := 71) (v := (nI 3)) D10_sign_71 (by decide) ?_
          refine J_goto (pc := 72) (tgt := 76) D10_sign_72 (by decide) ?_
          refine J_mono (L10_sg76 (so := nI 3) hz hTP hp (updI_s.trans (by rw [e23, nI_add])) e22 hc9) ?_
          rintro r w' ⟨rfl, s2, rfl, h1, h2, h3, h4⟩
          exact ⟨rfl, s2, nI 3, rfl, fun k a b c => (h1 k a b c).trans (updI_n a), Or.inl ⟨Or.inr (Or.inr (Or.inr (Or.inl h32))), rfl⟩, h2, h3, h4⟩
        · refine J_iload_n (pc := 35) D10_sign_35 rfl ?_
          refine J_bipush (pc := 36) (v := (nI 45)) D10_sign_36 (by decide) ?_
          refine J_icmp_eq (pc := 38) (tgt := 71) D10_sign_38 (by decide) (fun h38 => ?_) (fun h38 => ?_)
          · have h38' := eq_true h38
            refine J_iconst (pc := 71) (v := (nI 3)) D10_sign_71 (by decide) ?_
            refine J_goto (pc := 72) (tgt := 76) D10_sign_72 (by decide) ?_
            refine J_mono (L10_sg76 (so := nI 3) hz hTP hp (updI_s.trans (by rw [e23, nI_add])) e22 hc9) ?_
            rintro r w' ⟨rfl, s2, rfl, h1, h2, h3, h4⟩
            exact ⟨rfl, s2, nI 3, rfl, fun k a b c => (h1 k a b c).trans (updI_n a), Or.inl ⟨Or.inr (Or.inr (Or.inr (Or.inr (Or.inl h38)))), rfl⟩, h2, h3, h4⟩
          · refine J_iload_n (pc := 41) D10_sign_41 rfl ?_
            refine J_bipush (pc := 42) (v := (nI 42)) D10_sign_42 (by decide) ?_
            refine J_icmp_eq (pc := 44) (tgt := 71) D10_sign_44 (by decide) (fun h44 => ?_) (fun h44 => ?_)
            · have h44' := eq_true h44
              refine J_iconst (pc := 71) (v := (nI 3)) D10_sign_71 (by decide) ?_
              refine J_goto (pc := 72) (tgt := 76) D10_sign_72 (by decide) ?_
              refine J_mono (L10_sg76 (so := nI 3) hz hTP hp (updI_s.trans (by rw [e23, nI_add])) e22 hc9) ?_
              rintro r w' ⟨rfl, s2, rfl, h1, h2, h3, h4⟩
              exact ⟨rfl, s2, nI 3, rfl, fun k a b c => (h1 k a b c).trans (updI_n a), Or.inl ⟨Or.inr (Or.inr (Or.inr (Or.inr (Or.inr (Or.inl h44))))), rfl⟩, h2, h3, h4⟩
            · refine J_iload_n (pc := 47) D10_sign_47 rfl ?_
              refine J_bipush (pc := 48) (v := (nI 47)) D10_sign_48 (by decide) ?_
              refine J_icmp_eq (pc := 50) (tgt := 71) D10_sign_50 (by decide) (fun h50 => ?_) (fun h50 => ?_)
              · have h50' := eq_true h50
                refine J_iconst (pc := 71) (v := (nI 3)) D10_sign_71 (by decide) ?_
                refine J_goto (pc := 72) (tgt := 76) D10_sign_72 (by decide) ?_
                refine J_mono (L10_sg76 (so := nI 3) hz hTP hp (updI_s.trans (by rw [e23, nI_add])) e22 hc9) ?_
                rintro r w' ⟨rfl, s2, rfl, h1, h2, h3, h4⟩
                exact ⟨rfl, s2, nI 3, rfl, fun k a b c => (h1 k a b c).trans (updI_n a), Or.inl ⟨Or.inr (Or.inr (Or.inr (Or.inr (Or.inr (Or.inr (Or.inl h50)))))), rfl⟩, h2, h3, h4⟩
              · refine J_iload_n (pc := 53) D10_sign_53 rfl ?_
                refine J_bipush (pc := 54) (v := (nI 60)) D10_sign_54 (by decide) ?_
                refine J_icmp_eq (pc := 56) (tgt := 71) D10_sign_56 (by decide) (fun h56 => ?_) (fun h56 => ?_)
                · have h56' := eq_true h56
                  refine J_iconst (pc := 71) (v := (nI 3)) D10_sign_71 (by decide) ?_
                  refine J_goto (pc := 72) (tgt := 76) D10_sign_72 (by decide) ?_
                  refine J_mono (L10_sg76 (so := nI 3) hz hTP hp (updI_s.trans (by rw [e23, nI_add])) e22 hc9) ?_
                  rintro r w' ⟨rfl, s2, rfl, h1, h2, h3, h4⟩
                  exact ⟨rfl, s2, nI 3, rfl, fun k a b c => (h1 k a b c).trans (updI_n a), Or.inl ⟨Or.inr (Or.inr (Or.inr (Or.inr (Or.inr (Or.inr (Or.inr (Or.inl h56))))))), rfl⟩, h2, h3, h4⟩
                · refine J_iload_n (pc := 59) D10_sign_59 rfl ?_
                  refine J_bipush (pc := 60) (v := (nI 61)) D10_sign_60 (by decide) ?_
                  refine J_icmp_eq (pc := 62) (tgt := 71) D10_sign_62 (by decide) (fun h62 => ?_) (fun h62 => ?_)
                  · have h62' := eq_true h62
                    refine J_iconst (pc := 71) (v := (nI 3)) D10_sign_71 (by decide) ?_
                    refine J_goto (pc := 72) (tgt := 76) D10_sign_72 (by decide) ?_
                    refine J_mono (L10_sg76 (so := nI 3) hz hTP hp (updI_s.trans (by rw [e23, nI_add])) e22 hc9) ?_
                    rintro r w' ⟨rfl, s2, rfl, h1, h2, h3, h4⟩
                    exact ⟨rfl, s2, nI 3, rfl, fun k a b c => (h1 k a b c).trans (updI_n a), Or.inl ⟨Or.inr (Or.inr (Or.inr (Or.inr (Or.inr (Or.inr (Or.inr (Or.inr (Or.inl h62)))))))), rfl⟩, h2, h3, h4⟩
                  · refine J_iload_n (pc := 65) D10_sign_65 rfl ?_
                    refine J_bipush (pc := 66) (v := (nI 62)) D10_sign_66 (by decide) ?_
                    refine J_icmp_ne (pc := 68) (tgt := 75) D10_sign_68 (by decide) (fun h68 => ?_) (fun h68 => ?_)
                    · refine J_iconst (pc := 75) (v := (nI 5)) D10_sign_75 (by decide) ?_
                      refine J_mono (L10_sg76 (so := nI 5) hz hTP hp (updI_s.trans (by rw [e23, nI_add])) e22 hc9) ?_
                      rintro r w' ⟨rfl, s2, rfl, h1, h2, h3, h4⟩
                      exact ⟨rfl, s2, nI 5, rfl, fun k a b c => (h1 k a b c).trans (updI_n a), Or.inr ⟨fun q => by
                        rcases q with q | q | q | q | q | q | q | q | q | q
                        · exact h14 q
                        · exact h20 q
                        · exact h26 q
                        · exact h32 q
                        · exact h38 q
                        · exact h44 q
                        · exact h50 q
                        · exact h56 q
                        · exact h62 q
                        · exact h68 q, rfl⟩, h2, h3, h4⟩
                    · have h68' := eq_true h68
                      refine J_iconst (pc := 71) (v := (nI 3)) D10_sign_71 (by decide) ?_
                      refine J_goto (pc := 72) (tgt := 76) D10_sign_72 (by decide) ?_
                      refine J_mono (L10_sg76 (so := nI 3) hz hTP hp (updI_s.trans (by rw [e23, nI_add])) e22 hc9) ?_
                      rintro r w' ⟨rfl, s2, rfl, h1, h2, h3, h4⟩
                      exact ⟨rfl, s2, nI 3, rfl, fun k a b c => (h1 k a b c).trans (updI_n a), Or.inl ⟨Or.inr (Or.inr (Or.inr (Or.inr (Or.inr (Or.inr (Or.inr (Or.inr (Or.inr (h68))))))))), rfl⟩, h2, h3, h4⟩
theorem hrE_t {m : Nat → Int32} {z q : Nat} (h : q < z) : hrE m z q = m q := if_pos h
theorem hrE_n {m : Nat → Int32} {z : Nat} : hrE m z z = -1 := if_neg (Nat.lt_irrefl z)
theorem L10_tk0 {d : Nat} {A : Nat → Nat → Int32} {L : LL} {M : Nat → MR} {tp : Nat → Int32} {z : Nat} (hz : z ≤ 700) (hTP : TP tp (A 1) z) {Q : Option Value → List EC → Prop} : ∀ (g q : Nat) (s : Nat → Int32), q + g = z → s 23 = nI q → s 22 = nI z → (∀ s' : Nat → Int32, s' 23 = nI (skL tp g q) → (∀ k, k ≠ 23 → s' k = s k) → J m10_token (d + 5) 0 0 40 31 [(0, .ref 0)] [] (modW s' A L M) 0 0 Q) → J m10_token (d + 5) 0 0 40 0 [(0, .ref 0)] [] (modW s A L M) 0 0 Q := by
  intro g
  induction g with
  | zero =>
    intro q s hq e23 e22 K
    have eq : q = z := by omega
    have e23z : s 23 = nI z := by rw [e23, eq]
    refine J_aload_n (pc := 0) D10_token_0 rfl ?_
    refine J_callVTR (pc := 1) (ac := []) D10_token_1 m10_here_v t1439 (c10_here (d := d + 4) (q := z) (z := z) e23z e22 hz (by omega)) (by omega) rfl rfl rfl rfl (fun _ => rfl) rfl rfl rfl ?_
    rw [hrE_n]
    refine J_bipush (pc := 4) (v := (nI 10)) D10_token_4 (by decide) ?_
    refine J_icmp_eq (pc := 6) (tgt := 18) D10_token_6 (by decide) (fun h6 => absurd h6 (by decide)) (fun h6 => ?_)
    refine J_aload_n (pc := 9) D10_token_9 rfl ?_
    refine J_callVTR (pc := 10) (ac := []) D10_token_10 m10_here_v t1439 (c10_here (d := d + 4) (q := z) (z := z) e23z e22 hz (by omega)) (by omega) rfl rfl rfl rfl (fun _ => rfl) rfl rfl rfl ?_
    rw [hrE_n]
    refine J_bipush (pc := 13) (v := (nI 32)) D10_token_13 (by decide) ?_
    refine J_icmp_ne (pc := 15) (tgt := 31) D10_token_15 (by decide) (fun h15 => ?_) (fun h15 => absurd h15 (by decide))
    exact K s e23 (fun _ _ => rfl)
  | succ g ih =>
    intro q s hq e23 e22 K
    have hqz : q < z := by omega
    refine J_aload_n (pc := 0) D10_token_0 rfl ?_
    refine J_callVTR (pc := 1) (ac := []) D10_token_1 m10_here_v t1439 (c10_here (d := d + 4) (q := q) (z := z) e23 e22 hz (by omega)) (by omega) rfl rfl rfl rfl (fun _ => rfl) rfl rfl rfl ?_
    rw [hrE_t hqz]
    refine J_bipush (pc := 4) (v := (nI 10)) D10_token_4 (by decide) ?_
    refine J_icmp_eq (pc := 6) (tgt := 18) D10_token_6 (by decide) (fun h6 => ?_) (fun h6 => ?_)
    · have h6' := eq_true h6
      refine J_aload_n (pc := 18) D10_token_18 rfl ?_
      refine J_dup (pc := 19) D10_token_19 rfl ?_
      refine J_getf (pc := 20) D10_token_20 fl10_145 rfl rfl ?_
      refine J_iconst (pc := 23) (v := (nI 1)) D10_token_23 (by decide) ?_
      refine J_iadd (pc := 24) D10_token_24 ?_
      refine J_mput (pc := 25) D10_token_25 fp10_145 ms_23 ?_
      refine J_goto (pc := 28) (tgt := 0) D10_token_28 (by decide) ?_
      refine ih (q + 1) _ (by omega) (updI_s.trans (by rw [e23, nI_add])) ((updI_n (by decide)).trans e22) (fun s' a b => K s' ?_ (fun k hk => (b k hk).trans (updI_n hk)))
      rw [skL, if_pos (Or.inl ((hTP.eq hqz (by decide)).mp h6))]
      exact a
    · refine J_aload_n (pc := 9) D10_token_9 rfl ?_
      refine J_callVTR (pc := 10) (ac := []) D10_token_10 m10_here_v t1439 (c10_here (d := d + 4) (q := q) (z := z) e23 e22 hz (by omega)) (by omega) rfl rfl rfl rfl (fun _ => rfl) rfl rfl rfl ?_
      rw [hrE_t hqz]
      refine J_bipush (pc := 13) (v := (nI 32)) D10_token_13 (by decide) ?_
      refine J_icmp_ne (pc := 15) (tgt := 31) D10_token_15 (by decide) (fun h15 => ?_) (fun h15 => ?_)
      · refine K s (by rw [skL, if_neg (fun w => w.elim (fun w => h6 ((hTP.eq hqz (by decide)).mpr w)) (fun w => h15 ((hTP.eq hqz (by decide)).mpr w)))]; exact e23) (fun _ _ => rfl)
      · have h15' := eq_true h15
        refine J_aload_n (pc := 18) D10_token_18 rfl ?_
        refine J_dup (pc := 19) D10_token_19 rfl ?_
        refine J_getf (pc := 20) D10_token_20 fl10_145 rfl rfl ?_
        refine J_iconst (pc := 23) (v := (nI 1)) D10_token_23 (by decide) ?_
        refine J_iadd (pc := 24) D10_token_24 ?_
        refine J_mput (pc := 25) D10_token_25 fp10_145 ms_23 ?_
        refine J_goto (pc := 28) (tgt := 0) D10_token_28 (by decide) ?_
        refine ih (q + 1) _ (by omega) (updI_s.trans (by rw [e23, nI_add])) ((updI_n (by decide)).trans e22) (fun s' a b => K s' ?_ (fun k hk => (b k hk).trans (updI_n hk)))
        rw [skL, if_pos (Or.inr ((hTP.eq hqz (by decide)).mp h15))]
        exact a
theorem L10_tk64 {d : Nat} {A : Nat → Nat → Int32} {L : LL} {M : Nat → MR} {tp : Nat → Int32} {z : Nat} (hz : z ≤ 700) (hTP : TP tp (A 1) z) {f : Nat} {c : Int32} {Q : Option Value → List EC → Prop} : ∀ (g q : Nat) (v : Int32) (s : Nat → Int32), q + g = z → s 23 = nI q → s 22 = nI z → (∀ s' : Nat → Int32, s' 23 = nI (woL tp f g q v).1 → (∀ k, k ≠ 23 → s' k = s k) → J m10_token (d + 5) 0 0 40 87 [(0, .ref 0), (1, .int c)] [] (modW s' A L M) 0 0 Q) → J m10_token (d + 5) 0 0 40 64 [(0, .ref 0), (1, .int c)] [] (modW s A L M) 0 0 Q := by
  intro g
  induction g with
  | zero =>
    intro q v s hq e23 e22 K
    have eq : q = z := by omega
    have e23z : s 23 = nI z := by rw [e23, eq]
    refine J_aload_n (pc := 64) D10_token_64 rfl ?_
    refine J_callVTR (pc := 65) (ac := []) D10_token_65 m10_here_v t1439 (c10_here (d := d + 4) (q := z) (z := z) e23z e22 hz (by omega)) (by omega) rfl rfl rfl rfl (fun _ => rfl) rfl rfl rfl ?_
    rw [hrE_n]
    refine J_callSR (pc := 68) (ι := []) (ac := [.int _]) D10_token_68 m10_isSmall_s t1443 (c10_isSmall (d := d + 4)) (by omega) ⟨rfl, rfl⟩ rfl rfl (fun _ => rfl) rfl rfl rfl ?_
    refine J_if_eq (pc := 71) (tgt := 87) D10_token_71 (by decide) (fun h71 => ?_) (fun h71 => absurd (by decide) h71)
    exact K s e23 (fun _ _ => rfl)
  | succ g ih =>
    intro q v s hq e23 e22 K
    have hqz : q < z := by omega
    refine J_aload_n (pc := 64) D10_token_64 rfl ?_
    refine J_callVTR (pc := 65) (ac := []) D10_token_65 m10_here_v t1439 (c10_here (d := d + 4) (q := q) (z := z) e23 e22 hz (by omega)) (by omega) rfl rfl rfl rfl (fun _ => rfl) rfl rfl rfl ?_
    rw [hrE_t hqz]
    refine J_callSR (pc := 68) (ι := []) (ac := [.int _]) D10_token_68 m10_isSmall_s t1443 (c10_isSmall (d := d + 4)) (by omega) ⟨rfl, rfl⟩ rfl rfl (fun _ => rfl) rfl rfl rfl ?_
    refine J_if_eq (pc := 71) (tgt := 87) D10_token_71 (by decide) (fun h71 => ?_) (fun h71 => ?_)
    · have h71' := eq_true h71
      replace h71 := i01_z h71
      refine K s (by rw [woL, if_neg (fun w => h71 ((hTP.rg hqz (by decide) (by decide)).mpr w))]; exact e23) (fun _ _ => rfl)
    · replace h71 := i01_nz h71
      refine J_aload_n (pc := 74) D10_token_74 rfl ?_
      refine J_dup (pc := 75) D10_token_75 rfl ?_
      refine J_getf (pc := 76) D10_token_76 fl10_145 rfl rfl ?_
      refine J_iconst (pc := 79) (v := (nI 1)) D10_token_79 (by decide) ?_
      refine J_iadd (pc := 80) D10_token_80 ?_
      refine J_mput (pc := 81) D10_token_81 fp10_145 ms_23 ?_
      refine J_goto (pc := 84) (tgt := 64) D10_token_84 (by decide) ?_
      refine ih (q + 1) (woS tp f q v) _ (by omega) (updI_s.trans (by rw [e23, nI_add])) ((updI_n (by decide)).trans e22) (fun s' a b => K s' ?_ (fun k hk => (b k hk).trans (updI_n hk)))
      rw [woL, if_pos ((hTP.rg hqz (by decide) (by decide)).mp h71)]
      exact a
theorem nu_st {v va : Int32} {x : Nat} (h : NuV v va) (h1 : 48 ≤ x) (h2 : x ≤ 57) : NuV (imin (v * nI 10 + (nI x - nI 48)) 1000000) (if va ≤ 99999 then nI 10 * va + nI x - nI 48 else va) := by
  obtain ⟨a, b, rfl, rfl, ha, hb, h3⟩ := h
  have e1 : nI a * nI 10 + (nI x - nI 48) = nI (a * 10 + (x - 48)) := by rw [nI_mulE, nI_subN h1, nI_add]
  have e2 : nI 10 * nI b + nI x - nI 48 = nI (10 * b + (x - 48)) := by rw [nI_mulE, nI_add, nI_subN (by omega)]; congr 1; omega
  rw [e1, e2, show (1000000 : Int32) = nI 1000000 from rfl, show (99999 : Int32) = nI 99999 from rfl]
  have em : ∀ c : Nat, c < 2 ^ 31 → imin (nI c) (nI 1000000) = nI (min c 1000000) := fun c hc => by
    unfold imin
    by_cases q : 1000000 < c
    · rw [if_pos (Int32.not_le.mp (nI_ge q hc)), Nat.min_eq_right (by omega)]
    · rw [if_neg (Int32.not_lt.mpr (nI_le (by omega) (by omega))), Nat.min_eq_left (by omega)]
  rw [em _ (by omega)]
  rcases h3 with ⟨h3, rfl⟩ | ⟨h3, h4⟩
  · rw [if_pos (nI_le h3 (by decide))]
    refine ⟨_, _, rfl, rfl, by omega, by omega, ?_⟩
    omega
  · rw [if_neg (nI_ge h4 (by omega))]
    refine ⟨_, _, rfl, rfl, by omega, by omega, ?_⟩
    omega

theorem L10_tk162 {d : Nat} {A : Nat → Nat → Int32} {L : LL} {M : Nat → MR} {tp : Nat → Int32} {z : Nat} (hz : z ≤ 700) (hTP : TP tp (A 1) z) {c : Int32} : ∀ (g q : Nat) (v : Int32) (s : Nat → Int32), q + g = z → s 23 = nI q → s 22 = nI z → NuV v (s 26) → J m10_token (d + 5) 0 0 40 162 [(0, .ref 0), (1, .int c)] [] (modW s A L M) 0 0 (fun r w' => r = none ∧ ∃ s', w' = modW s' A L M ∧ (∀ k, k ≠ 23 → k ≠ 26 → s' k = s k) ∧ s' 23 = nI (nuL tp g q v).1 ∧ NuV (nuL tp g q v).2 (s' 26)) := by
  intro g
  induction g with
  | zero =>
    intro q v s hq e23 e22 hv
    have eq : q = z := by omega
    have e23z : s 23 = nI z := by rw [e23, eq]
    refine J_aload_n (pc := 162) D10_token_162 rfl ?_
    refine J_callVTR (pc := 163) (ac := []) D10_token_163 m10_here_v t1439 (c10_here (d := d + 4) (q := z) (z := z) e23z e22 hz (by omega)) (by omega) rfl rfl rfl rfl (fun _ => rfl) rfl rfl rfl ?_
    rw [hrE_n]
    refine J_callSR (pc := 166) (ι := []) (ac := [.int _]) D10_token_166 m10_isDigit_s t1457 (c10_isDigit (d := d + 4)) (by omega) ⟨rfl, rfl⟩ rfl rfl (fun _ => rfl) rfl rfl rfl ?_
    refine J_if_eq (pc := 169) (tgt := 225) D10_token_169 (by decide) (fun h169 => ?_) (fun h169 => absurd (by decide) h169)
    refine J_vret (pc := 225) D10_token_225 rfl ?_
    exact ⟨rfl, s, rfl, fun _ _ _ => rfl, e23, hv⟩
  | succ g ih =>
    intro q v s hq e23 e22 hv
    have hqz : q < z := by omega
    refine J_aload_n (pc := 162) D10_token_162 rfl ?_
    refine J_callVTR (pc := 163) (ac := []) D10_token_163 m10_here_v t1439 (c10_here (d := d + 4) (q := q) (z := z) e23 e22 hz (by omega)) (by omega) rfl rfl rfl rfl (fun _ => rfl) rfl rfl rfl ?_
    rw [hrE_t hqz]
    refine J_callSR (pc := 166) (ι := []) (ac := [.int _]) D10_token_166 m10_isDigit_s t1457 (c10_isDigit (d := d + 4)) (by omega) ⟨rfl, rfl⟩ rfl rfl (fun _ => rfl) rfl rfl rfl ?_
    refine J_if_eq (pc := 169) (tgt := 225) D10_token_169 (by decide) (fun h169 => ?_) (fun h169 => ?_)
    · have h169' := eq_true h169
      replace h169 := i01_z h169
      refine J_vret (pc := 225) D10_token_225 rfl ?_
      have e9 : nuL tp (g + 1) q v = (q, v) := by rw [nuL, if_neg (fun w => h169 ((hTP.rg hqz (by decide) (by decide)).mpr w))]
      rw [e9]
      exact ⟨rfl, s, rfl, fun _ _ _ => rfl, e23, hv⟩
    · replace h169 := (hTP.rg hqz (by decide) (by decide)).mp (i01_nz h169)
      obtain ⟨em, x, hx, ex, hx1⟩ := hTP.vl hqz (by decide) h169.1
      have hx2 : x ≤ 57 := by have := h169.2; rw [ex] at this; exact (nI_leI (by omega) (by decide)).mp this
      have hst := nu_st hv hx1 hx2
      refine J_aload_n (pc := 172) D10_token_172 rfl ?_
      refine J_aload_n (pc := 173) D10_token_173 rfl ?_
      refine J_getf (pc := 174) D10_token_174 fl10_168 rfl rfl ?_
      refine J_ldc (pc := 177) D10_token_177 t1460 ?_
      refine J_icmp_le (pc := 179) (tgt := 189) D10_token_179 (by decide) (fun h179 => ?_) (fun h179 => ?_)
      · have h179' := Int32.not_lt.mpr h179
        refine J_bipush (pc := 189) (v := (nI 10)) D10_token_189 (by decide) ?_
        refine J_aload_n (pc := 191) D10_token_191 rfl ?_
        refine J_getf (pc := 192) D10_token_192 fl10_168 rfl rfl ?_
        refine J_imul (pc := 195) D10_token_195 ?_
        refine J_aload_n (pc := 196) D10_token_196 rfl ?_
        refine J_callVTR (pc := 197) (ac := []) D10_token_197 m10_here_v t1439 (c10_here (d := d + 4) (q := q) (z := z) e23 e22 hz (by omega)) (by omega) rfl rfl rfl rfl (fun _ => rfl) rfl rfl rfl ?_
        rw [hrE_t hqz]
        refine J_iadd (pc := 200) D10_token_200 ?_
        refine J_bipush (pc := 201) (v := (nI 48)) D10_token_201 (by decide) ?_
        refine J_isub (pc := 203) D10_token_203 ?_
        refine J_mput (pc := 204) D10_token_204 fp10_168 ms_26 ?_
        refine J_aload_n (pc := 207) D10_token_207 rfl ?_
        refine J_dup (pc := 208) D10_token_208 rfl ?_
        refine J_getf (pc := 209) D10_token_209 fl10_145 rfl rfl ?_
        refine J_iconst (pc := 212) (v := (nI 1)) D10_token_212 (by decide) ?_
        refine J_iadd (pc := 213) D10_token_213 ?_
        refine J_mput (pc := 214) D10_token_214 fp10_145 ms_23 ?_
        refine J_goto (pc := 217) (tgt := 162) D10_token_217 (by decide) ?_
        have e9 : nuL tp (g + 1) q v = nuL tp g (q + 1) (imin (v * nI 10 + (tp q - nI 48)) 1000000) := by rw [nuL, if_pos h169]
        rw [e9]
        refine J_mono (ih (q + 1) (imin (v * nI 10 + (tp q - nI 48)) 1000000) _ (by omega) (updI_s.trans (by rw [updI_n (by decide), e23, nI_add])) ((updI_n (by decide)).trans ((updI_n (by decide)).trans e22)) ?_) ?_
        · rw [if_pos h179] at hst
          rw [updI_n (by decide), updI_s, em, ex]
          exact hst
        rintro r w' ⟨rfl, s2, rfl, h1, h2⟩
        exact ⟨rfl, s2, rfl, fun k a b => (h1 k a b).trans ((updI_n a).trans (updI_n b)), h2⟩
      · have h179' := Int32.not_le.mp h179
        refine J_aload_n (pc := 182) D10_token_182 rfl ?_
        refine J_getf (pc := 183) D10_token_183 fl10_168 rfl rfl ?_
        refine J_goto (pc := 186) (tgt := 204) D10_token_186 (by decide) ?_
        refine J_mput (pc := 204) D10_token_204 fp10_168 ms_26 ?_
        refine J_aload_n (pc := 207) D10_token_207 rfl ?_
        refine J_dup (pc := 208) D10_token_208 rfl ?_
        refine J_getf (pc := 209) D10_token_209 fl10_145 rfl rfl ?_
        refine J_iconst (pc := 212) (v := (nI 1)) D10_token_212 (by decide) ?_
        refine J_iadd (pc := 213) D10_token_213 ?_
        refine J_mput (pc := 214) D10_token_214 fp10_145 ms_23 ?_
        refine J_goto (pc := 217) (tgt := 162) D10_token_217 (by decide) ?_
        have e9 : nuL tp (g + 1) q v = nuL tp g (q + 1) (imin (v * nI 10 + (tp q - nI 48)) 1000000) := by rw [nuL, if_pos h169]
        rw [e9]
        refine J_mono (ih (q + 1) (imin (v * nI 10 + (tp q - nI 48)) 1000000) _ (by omega) (updI_s.trans (by rw [updI_n (by decide), e23, nI_add])) ((updI_n (by decide)).trans ((updI_n (by decide)).trans e22)) ?_) ?_
        · rw [if_neg h179] at hst
          rw [updI_n (by decide), updI_s, ex]
          exact hst
        rintro r w' ⟨rfl, s2, rfl, h1, h2⟩
        exact ⟨rfl, s2, rfl, fun k a b => (h1 k a b).trans ((updI_n a).trans (updI_n b)), h2⟩
theorem wrd_k {tp m : Nat → Int32} {z p : Nat} (hTP : TP tp m z) (hp : p < z) (hz : z ≤ 700) (hl : nI 97 ≤ tp p ∧ tp p ≤ nI 122) : p < (woL tp p (z - p) p (nI 0)).1 ∧ (woL tp p (z - p) p (nI 0)).1 ≤ z ∧ (∀ k, k < (woL tp p (z - p) p (nI 0)).1 - p → ∃ x, 97 ≤ x ∧ x ≤ 122 ∧ tp (p + k) = nI x ∧ m (p + k) = nI x) ∧ tk1 tp z p = (wdK tp p (woL tp p (z - p) p (nI 0)).1, some (woL tp p (z - p) p (nI 0)).2, (woL tp p (z - p) p (nI 0)).1) := by
  have ht : tk1 tp z p = (wdK tp p (woL tp p (z - p) p (nI 0)).1, some (woL tp p (z - p) p (nI 0)).2, (woL tp p (z - p) p (nI 0)).1) := by
    unfold tk1
    rw [if_neg (fun q => absurd (Int32.le_trans hl.1 q.2) (by decide)), if_pos hl]
  have h1 := tk1_le (tp := tp) hp
  rw [ht] at h1
  refine ⟨h1.1, h1.2, fun k hk => ?_, ht⟩
  obtain ⟨-, b, -⟩ := woL_v (tp := tp) (f := p) (g := z - p) (i := 0) (v := nI 0) (by omega) (fun _ => by show nI 0 = nI (0 * _); rw [Nat.zero_mul])
  have h2 := b k (Nat.zero_le _) (by rw [Nat.add_zero]; omega)
  have hkz : p + k < z := by have h12 : (woL tp p (z - p) p (nI 0)).1 ≤ z := h1.2; omega
  obtain ⟨em, x, hx, ex, hx1⟩ := hTP.vl hkz (by decide) h2.1
  exact ⟨x, hx1, by have := h2.2; rw [ex] at this; exact (nI_leI (by omega) (by decide)).mp this, ex, by rw [em, ex]⟩
theorem L10_tk57 {d : Nat} {s : Nat → Int32} {A : Nat → Nat → Int32} {L : LL} {M : Nat → MR} {tp : Nat → Int32} {z : Nat} (hz : z ≤ 700) (hTP : TP tp (A 1) z) {p : Nat} (hp : p < z) (e24 : s 24 = nI p) (e23 : s 23 = nI p) (e22 : s 22 = nI z) : J m10_token (d + 5) 0 0 40 57 [(0, .ref 0), (1, .int (A 1 p))] [] (modW s A L M) 0 0 (fun r w' => r = none ∧ ∃ s', w' = modW s' A L M ∧ (∀ k, k ≠ 23 → k ≠ 25 → k ≠ 26 → s' k = s k) ∧ tkE tp z p s') := by
  by_cases hl : nI 97 ≤ tp p ∧ tp p ≤ nI 122
  · obtain ⟨w1, w2, hlx, ht⟩ := wrd_k hTP hp hz hl
    have hmt : ∀ i, i < (woL tp p (z - p) p (nI 0)).1 - p → A 1 (p + i) = tp (p + i) := fun i hi => by
      obtain ⟨x, -, -, a, b⟩ := hlx i hi
      rw [a, b]
    refine J_iload_n (pc := 57) D10_token_57 rfl ?_
    refine J_callSR (pc := 58) (ι := []) (ac := [.int _]) D10_token_58 m10_isSmall_s t1443 (c10_isSmall (d := d + 4)) (by omega) ⟨rfl, rfl⟩ rfl rfl (fun _ => rfl) rfl rfl rfl ?_
    refine J_if_eq (pc := 61) (tgt := 145) D10_token_61 (by decide) (fun h61 => absurd h61 (by rw [i01_t ((hTP.rg hp (by decide) (by decide)).mpr hl)]; decide)) (fun h61 => ?_)
    refine L10_tk64 hz hTP (f := p) (z - p) p (nI 0) s (by omega) e23 e22 (fun s2 e2 hs2 => ?_)
    refine J_aload_n (pc := 87) D10_token_87 rfl ?_
    refine J_aload_n (pc := 88) D10_token_88 rfl ?_
    refine J_callVT (pc := 89) (ac := []) D10_token_89 m10_word_v t1446 (c10_word (d := d) (f := p) (n := (woL tp p (z - p) p (nI 0)).1 - p) ((hs2 24 (by decide)).trans e24) (by rw [e2, show p + ((woL tp p (z - p) p (nI 0)).1 - p) = (woL tp p (z - p) p (nI 0)).1 by omega]) (by omega)) (by omega) rfl rfl rfl rfl rfl rfl rfl (fun r w' hq hl => ?_)
    obtain ⟨rfl, x, hr, hx⟩ := hq
    cases hr
    rcases hx with ⟨v, hv, hP, rfl⟩ | ⟨rfl, hP⟩
    · refine J_mput (pc := 92) D10_token_92 fp10_168 ms_26 ?_
      refine J_aload_n (pc := 95) D10_token_95 rfl ?_
      refine J_aload_n (pc := 96) D10_token_96 rfl ?_
      refine J_getf (pc := 97) D10_token_97 fl10_168 rfl rfl ?_
      refine J_iconst (pc := 100) (v := (-1)) D10_token_100 (by decide) ?_
      refine J_icmp_eq (pc := 101) (tgt := 108) D10_token_101 (by decide) (fun h101 => absurd h101 (nI_nm (by omega))) (fun h101 => ?_)
      refine J_iconst (pc := 104) (v := (nI 0)) D10_token_104 (by decide) ?_
      refine J_goto (pc := 105) (tgt := 127) D10_token_105 (by decide) ?_
      refine J_mput (pc := 127) D10_token_127 fp10_158 ms_25 ?_
      refine J_aload_n (pc := 130) D10_token_130 rfl ?_
      refine J_getf (pc := 131) D10_token_131 fl10_158 rfl rfl ?_
      refine J_iconst (pc := 134) (v := (nI 1)) D10_token_134 (by decide) ?_
      refine J_icmp_ne (pc := 135) (tgt := 225) D10_token_135 (by decide) (fun h135 => ?_) (fun h135 => absurd h135 (show ¬ nI 0 = nI 1 from by decide))
      refine J_vret (pc := 225) D10_token_225 rfl ?_
      refine ⟨rfl, _, rfl, fun k a b c => by rw [updI_n b, updI_n c]; exact hs2 k a, ?_, by rw [ht]; exact e2⟩
      rw [ht]
      have ew : wdK tp p (woL tp p (z - p) p (nI 0)).1 = nI (wcM v) := by unfold wdK; rw [wrF_s (wcM_d v hv).1 ((P3_0 hv hmt).mp hP)]
      show KVR (wdK tp p (woL tp p (z - p) p (nI 0)).1) _ (nI 0) (nI v)
      rw [ew]
      unfold wcM
      by_cases q1 : v < 9
      · rw [if_pos q1]; exact Or.inl ⟨v, q1, rfl, rfl, rfl⟩
      · rw [if_neg q1]
        by_cases q2 : v < 12
        · rw [if_pos q2]; exact Or.inr (Or.inr (Or.inl ⟨v - 9, by omega, by congr 1; omega, rfl, by congr 1; omega⟩))
        · rw [if_neg q2]; exact Or.inr (Or.inl ⟨v - 12, by omega, by congr 1; omega, rfl, by congr 1; omega⟩)
    · have hwn : wrF tp p ((woL tp p (z - p) p (nI 0)).1 - p) = none := wrF_n (fun w hw q => by
        obtain ⟨v, hv, rfl⟩ := wcM_s w hw
        exact hP v hv ((P3_0 hv hmt).mpr q))
      by_cases h6 : (woL tp p (z - p) p (nI 0)).1 - p ≤ 6
      · refine J_mput (pc := 92) D10_token_92 fp10_168 ms_26 ?_
        refine J_aload_n (pc := 95) D10_token_95 rfl ?_
        refine J_aload_n (pc := 96) D10_token_96 rfl ?_
        refine J_getf (pc := 97) D10_token_97 fl10_168 rfl rfl ?_
        refine J_iconst (pc := 100) (v := (-1)) D10_token_100 (by decide) ?_
        refine J_icmp_eq (pc := 101) (tgt := 108) D10_token_101 (by decide) (fun h101 => ?_) (fun h101 => absurd rfl h101)
        refine J_aload_n (pc := 108) D10_token_108 rfl ?_
        refine J_getf (pc := 109) D10_token_109 fl10_145 rfl rfl ?_
        refine J_aload_n (pc := 112) D10_token_112 rfl ?_
        refine J_getf (pc := 113) D10_token_113 fl10_155 rfl rfl ?_
        refine J_isub (pc := 116) D10_token_116 ?_
        refine J_bipush (pc := 117) (v := (nI 6)) D10_token_117 (by decide) ?_
        refine J_st (.int (nI 6) :: .int (nI ((woL tp p (z - p) p (nI 0)).1 - p)) :: .ref 0 :: []) (by rw [show (updI s2 26 (-1)) 23 = nI (woL tp p (z - p) p (nI 0)).1 from e2, show (updI s2 26 (-1)) 24 = nI p from (hs2 24 (by decide)).trans e24, nI_subN (by omega)]) ?_
        refine J_icmp_le (pc := 119) (tgt := 126) D10_token_119 (by decide) (fun h119 => ?_) (fun h119 => absurd (nI_le (by omega) (by omega)) h119)
        refine J_iconst (pc := 126) (v := (nI 1)) D10_token_126 (by decide) ?_
        refine J_mput (pc := 127) D10_token_127 fp10_158 ms_25 ?_
        refine J_aload_n (pc := 130) D10_token_130 rfl ?_
        refine J_getf (pc := 131) D10_token_131 fl10_158 rfl rfl ?_
        refine J_iconst (pc := 134) (v := (nI 1)) D10_token_134 (by decide) ?_
        refine J_icmp_ne (pc := 135) (tgt := 225) D10_token_135 (by decide) (fun h135 => absurd rfl h135) (fun h135 => ?_)
        refine J_aload_n (pc := 138) D10_token_138 rfl ?_
        refine J_callVT (pc := 139) (ac := []) D10_token_139 m10_name_v t1453 (c10_name (d := d + 4) (tp := tp) (f := p) (n := (woL tp p (z - p) p (nI 0)).1 - p) (by omega) hlx ((hs2 24 (by decide)).trans e24) (by show s2 23 = _; rw [e2, show p + ((woL tp p (z - p) p (nI 0)).1 - p) = (woL tp p (z - p) p (nI 0)).1 by omega])) (by omega) rfl rfl rfl rfl rfl rfl rfl (fun r w' hq hl => ?_)
        obtain ⟨rfl, s3, rfl, h31, h32⟩ := hq
        refine J_goto (pc := 142) (tgt := 225) D10_token_142 (by decide) ?_
        refine J_vret (pc := 225) D10_token_225 rfl ?_
        refine ⟨rfl, _, rfl, fun k a b c => by rw [h31 k c, updI_n b, updI_n c]; exact hs2 k a, ?_, by rw [ht, h31 23 (by decide)]; exact e2⟩
        rw [ht]
        have ew : wdK tp p (woL tp p (z - p) p (nI 0)).1 = nI 30 := by unfold wdK; rw [hwn]; exact if_pos (by omega)
        show KVR (wdK tp p (woL tp p (z - p) p (nI 0)).1) _ (s3 25) (s3 26)
        rw [ew, h31 25 (by decide), h32]
        refine Or.inr (Or.inr (Or.inr (Or.inr (Or.inr (Or.inl ⟨rfl, rfl, ?_⟩)))))
        have h9 := (woL_v (tp := tp) (f := p) (g := z - p) (i := 0) (v := nI 0) (by omega) (fun _ => by show nI 0 = nI (0 * _); rw [Nat.zero_mul])).2.2
        rw [Nat.add_zero] at h9
        rw [h9 (by omega), nam_e (by omega)]
      · refine J_mput (pc := 92) D10_token_92 fp10_168 ms_26 ?_
        refine J_aload_n (pc := 95) D10_token_95 rfl ?_
        refine J_aload_n (pc := 96) D10_token_96 rfl ?_
        refine J_getf (pc := 97) D10_token_97 fl10_168 rfl rfl ?_
        refine J_iconst (pc := 100) (v := (-1)) D10_token_100 (by decide) ?_
        refine J_icmp_eq (pc := 101) (tgt := 108) D10_token_101 (by decide) (fun h101 => ?_) (fun h101 => absurd rfl h101)
        refine J_aload_n (pc := 108) D10_token_108 rfl ?_
        refine J_getf (pc := 109) D10_token_109 fl10_145 rfl rfl ?_
        refine J_aload_n (pc := 112) D10_token_112 rfl ?_
        refine J_getf (pc := 113) D10_token_113 fl10_155 rfl rfl ?_
        refine J_isub (pc := 116) D10_token_116 ?_
        refine J_bipush (pc := 117) (v := (nI 6)) D10_token_117 (by decide) ?_
        refine J_st (.int (nI 6) :: .int (nI ((woL tp p (z - p) p (nI 0)).1 - p)) :: .ref 0 :: []) (by rw [show (updI s2 26 (-1)) 23 = nI (woL tp p (z - p) p (nI 0)).1 from e2, show (updI s2 26 (-1)) 24 = nI p from (hs2 24 (by decide)).trans e24, nI_subN (by omega)]) ?_
        refine J_icmp_le (pc := 119) (tgt := 126) D10_token_119 (by decide) (fun h119 => absurd h119 (nI_ge (by omega) (by omega))) (fun h119 => ?_)
        refine J_iconst (pc := 122) (v := (nI 5)) D10_token_122 (by decide) ?_
        refine J_goto (pc := 123) (tgt := 127) D10_token_123 (by decide) ?_
        refine J_mput (pc := 127) D10_token_127 fp10_158 ms_25 ?_
        refine J_aload_n (pc := 130) D10_token_130 rfl ?_
        refine J_getf (pc := 131) D10_token_131 fl10_158 rfl rfl ?_
        refine J_iconst (pc := 134) (v := (nI 1)) D10_token_134 (by decide) ?_
        refine J_icmp_ne (pc := 135) (tgt := 225) D10_token_135 (by decide) (fun h135 => ?_) (fun h135 => absurd h135 (show ¬ nI 5 = nI 1 from by decide))
        refine J_vret (pc := 225) D10_token_225 rfl ?_
        refine ⟨rfl, _, rfl, fun k a b c => by rw [updI_n b, updI_n c]; exact hs2 k a, ?_, by rw [ht]; exact e2⟩
        rw [ht]
        have ew : wdK tp p (woL tp p (z - p) p (nI 0)).1 = nI 35 := by unfold wdK; rw [hwn]; exact if_neg (by omega)
        show KVR (wdK tp p (woL tp p (z - p) p (nI 0)).1) _ (nI 5) _
        rw [ew]
        exact Or.inr (Or.inr (Or.inr (Or.inr (Or.inr (Or.inr (Or.inr (Or.inr (Or.inr (Or.inr ⟨rfl, rfl⟩)))))))))
  · by_cases hd : nI 48 ≤ tp p ∧ tp p ≤ nI 57
    · have ht : tk1 tp z p = (nI 29, some (nuL tp (z - p) p (nI 0)).2, (nuL tp (z - p) p (nI 0)).1) := by unfold tk1; rw [if_pos hd]
      refine J_iload_n (pc := 57) D10_token_57 rfl ?_
      refine J_callSR (pc := 58) (ι := []) (ac := [.int _]) D10_token_58 m10_isSmall_s t1443 (c10_isSmall (d := d + 4)) (by omega) ⟨rfl, rfl⟩ rfl rfl (fun _ => rfl) rfl rfl rfl ?_
      refine J_if_eq (pc := 61) (tgt := 145) D10_token_61 (by decide) (fun h61 => ?_) (fun h61 => absurd (i01_f (fun q => hl ((hTP.rg hp (by decide) (by decide)).mp q))) h61)
      refine J_iload_n (pc := 145) D10_token_145 rfl ?_
      refine J_callSR (pc := 146) (ι := []) (ac := [.int _]) D10_token_146 m10_isDigit_s t1457 (c10_isDigit (d := d + 4)) (by omega) ⟨rfl, rfl⟩ rfl rfl (fun _ => rfl) rfl rfl rfl ?_
      refine J_if_eq (pc := 149) (tgt := 220) D10_token_149 (by decide) (fun h149 => absurd h149 (by rw [i01_t ((hTP.rg hp (by decide) (by decide)).mpr hd)]; decide)) (fun h149 => ?_)
      refine J_aload_n (pc := 152) D10_token_152 rfl ?_
      refine J_iconst (pc := 153) (v := (nI 2)) D10_token_153 (by decide) ?_
      refine J_mput (pc := 154) D10_token_154 fp10_158 ms_25 ?_
      refine J_aload_n (pc := 157) D10_token_157 rfl ?_
      refine J_iconst (pc := 158) (v := (nI 0)) D10_token_158 (by decide) ?_
      refine J_mput (pc := 159) D10_token_159 fp10_168 ms_26 ?_
      refine J_mono (L10_tk162 hz hTP (z - p) p (nI 0) _ (by omega) (by show s 23 = _; exact e23) (by show s 22 = _; exact e22) ⟨0, 0, rfl, rfl, by omega, by omega, Or.inl ⟨by omega, rfl⟩⟩) ?_
      rintro r w' ⟨rfl, s2, rfl, h1, h2, h3⟩
      refine ⟨rfl, s2, rfl, fun k a b c => by rw [h1 k a c, updI_n c, updI_n b], ?_, by rw [ht]; exact h2⟩
      rw [ht, h1 25 (by decide) (by decide)]
      exact Or.inr (Or.inr (Or.inr (Or.inr (Or.inl ⟨rfl, rfl, _, rfl, h3⟩))))
    · have ht : tk1 tp z p = (sgO (tp p) (if p + 1 < z then tp (p + 1) else nI 0), none, if two (sgO (tp p) (if p + 1 < z then tp (p + 1) else nI 0)) = 0 then p + 1 else p + 2) := by unfold tk1; rw [if_neg hd, if_neg hl]
      have hc9 : ∃ k, k < 256 ∧ A 1 p = nI k := by
        rcases hTP p hp with ⟨x, a, -, b⟩ | ⟨-, x, -, a, b⟩
        · exact ⟨x, by omega, b⟩
        · exact ⟨x, a, b⟩
      have hy : ∀ k, k < 128 → 0 < k → (hrE (A 1) z (p + 1) = nI k ↔ (if p + 1 < z then tp (p + 1) else nI 0) = nI k) := fun k hk hk0 => by
        unfold hrE
        by_cases q : p + 1 < z
        · rw [if_pos q, if_pos q]; exact hTP.eq q hk
        · rw [if_neg q, if_neg q]
          exact ⟨fun e => absurd e.symm (nI_nm (by omega)), fun e => absurd (nI_eqI (by omega) (by omega) e) (by omega)⟩
      have hsg : SG (A 1 p) ↔ SG (tp p) := by
        unfold SG
        rw [hTP.eq hp (x := 59) (by decide), hTP.eq hp (x := 40) (by decide), hTP.eq hp (x := 41) (by decide), hTP.eq hp (x := 43) (by decide), hTP.eq hp (x := 45) (by decide), hTP.eq hp (x := 42) (by decide), hTP.eq hp (x := 47) (by decide), hTP.eq hp (x := 60) (by decide), hTP.eq hp (x := 61) (by decide), hTP.eq hp (x := 62) (by decide)]
      refine J_iload_n (pc := 57) D10_token_57 rfl ?_
      refine J_callSR (pc := 58) (ι := []) (ac := [.int _]) D10_token_58 m10_isSmall_s t1443 (c10_isSmall (d := d + 4)) (by omega) ⟨rfl, rfl⟩ rfl rfl (fun _ => rfl) rfl rfl rfl ?_
      refine J_if_eq (pc := 61) (tgt := 145) D10_token_61 (by decide) (fun h61 => ?_) (fun h61 => absurd (i01_f (fun q => hl ((hTP.rg hp (by decide) (by decide)).mp q))) h61)
      refine J_iload_n (pc := 145) D10_token_145 rfl ?_
      refine J_callSR (pc := 146) (ι := []) (ac := [.int _]) D10_token_146 m10_isDigit_s t1457 (c10_isDigit (d := d + 4)) (by omega) ⟨rfl, rfl⟩ rfl rfl (fun _ => rfl) rfl rfl rfl ?_
      refine J_if_eq (pc := 149) (tgt := 220) D10_token_149 (by decide) (fun h149 => ?_) (fun h149 => absurd (i01_f (fun q => hd ((hTP.rg hp (by decide) (by decide)).mp q))) h149)
      refine J_aload_n (pc := 220) D10_token_220 rfl ?_
      refine J_iload_n (pc := 221) D10_token_221 rfl ?_
      refine J_callVT (pc := 222) (ac := [.int _]) D10_token_222 m10_sign_v t1461 (c10_sign (d := d + 3) hz hTP (p := p) (by omega) e23 e22 hc9) (by omega) rfl rfl rfl rfl rfl rfl rfl (fun r w' hq hl => ?_)
      obtain ⟨rfl, s2, so, rfl, h1, h2, h3, h4, h5⟩ := hq
      refine J_vret (pc := 225) D10_token_225 rfl ?_
      have kv := kv_sg hsg (fun k hk => hTP.eq hp hk) (hy 61 (by decide) (by decide)) (hy 62 (by decide) (by decide)) hc9 h2
      refine ⟨rfl, s2, rfl, h1, by rw [ht, h3, h4]; exact kv.1, ?_⟩
      rw [ht, h5]
      show nI _ = nI (if two _ = 0 then p + 1 else p + 2)
      by_cases q : two (sgO (tp p) (if p + 1 < z then tp (p + 1) else nI 0)) = 0
      · rw [if_pos q, if_neg (kv.2.mp q)]
      · rw [if_neg q, if_pos (Decidable.not_not.mp (fun w => q (kv.2.mpr w)))]
theorem L10_token {d : Nat} {s : Nat → Int32} {A : Nat → Nat → Int32} {L : LL} {M : Nat → MR} {tp : Nat → Int32} {z : Nat} (hz : z ≤ 700) (hTP : TP tp (A 1) z) {q : Nat} (hq9 : q ≤ z) (e23 : s 23 = nI q) (e22 : s 22 = nI z) : J m10_token (d + 5) 0 0 40 0 [(0, .ref 0)] [] (modW s A L M) 0 0 (fun r w' => r = none ∧ ∃ s', w' = modW s' A L M ∧ (∀ k, k ≠ 23 → k ≠ 24 → k ≠ 25 → k ≠ 26 → s' k = s k) ∧ s' 24 = nI (sk tp z q) ∧ ((sk tp z q < z ∧ tkE tp z (sk tp z q) s') ∨ (sk tp z q = z ∧ s' 25 = nI 4 ∧ s' 23 = nI z))) := by
  have hsk := skL_le (tp := tp) (z - q) q
  refine L10_tk0 hz hTP (z - q) q s (by omega) e23 e22 (fun s1 e1 h1 => ?_)
  have e22' : s1 22 = nI z := (h1 22 (by decide)).trans e22
  have hkz : sk tp z q ≤ z := by unfold sk; omega
  by_cases hp : sk tp z q < z
  · refine J_aload_n (pc := 31) D10_token_31 rfl ?_
    refine J_aload_n (pc := 32) D10_token_32 rfl ?_
    refine J_getf (pc := 33) D10_token_33 fl10_145 rfl rfl ?_
    refine J_mput (pc := 36) D10_token_36 fp10_155 ms_24 ?_
    refine J_aload_n (pc := 39) D10_token_39 rfl ?_
    refine J_callVTR (pc := 40) (ac := []) D10_token_40 m10_here_v t1439 (c10_here (d := d + 4) (q := sk tp z q) (z := z) e1 e22' hz hkz) (by omega) rfl rfl rfl rfl (fun _ => rfl) rfl rfl rfl ?_
    rw [hrE_t hp]
    refine J_istore_n (pc := 43) D10_token_43 rfl ?_
    refine J_iload_n (pc := 44) D10_token_44 rfl ?_
    refine J_iconst (pc := 45) (v := (-1)) D10_token_45 (by decide) ?_
    refine J_icmp_ne (pc := 46) (tgt := 57) D10_token_46 (by decide) (fun h46 => ?_) (fun h46 => absurd h46 (hTP.nn hp))
    refine J_mono (L10_tk57 hz hTP hp (updI_s.trans e1) e1 e22') ?_
    rintro r w' ⟨rfl, s2, rfl, h2, h3⟩
    exact ⟨rfl, s2, rfl, fun k a b c d => (h2 k a c d).trans ((updI_n b).trans (h1 k a)), (h2 24 (by decide) (by decide) (by decide)).trans (updI_s.trans e1), Or.inl ⟨hp, h3⟩⟩
  · have ez : sk tp z q = z := by omega
    have e1z : s1 23 = nI z := by rw [← ez]; exact e1
    refine J_aload_n (pc := 31) D10_token_31 rfl ?_
    refine J_aload_n (pc := 32) D10_token_32 rfl ?_
    refine J_getf (pc := 33) D10_token_33 fl10_145 rfl rfl ?_
    refine J_mput (pc := 36) D10_token_36 fp10_155 ms_24 ?_
    refine J_aload_n (pc := 39) D10_token_39 rfl ?_
    refine J_callVTR (pc := 40) (ac := []) D10_token_40 m10_here_v t1439 (c10_here (d := d + 4) (q := z) (z := z) e1z e22' hz (Nat.le_refl _)) (by omega) rfl rfl rfl rfl (fun _ => rfl) rfl rfl rfl ?_
    rw [hrE_n]
    refine J_istore_n (pc := 43) D10_token_43 rfl ?_
    refine J_iload_n (pc := 44) D10_token_44 rfl ?_
    refine J_iconst (pc := 45) (v := (-1)) D10_token_45 (by decide) ?_
    refine J_icmp_ne (pc := 46) (tgt := 57) D10_token_46 (by decide) (fun h46 => absurd rfl h46) (fun h46 => ?_)
    refine J_aload_n (pc := 49) D10_token_49 rfl ?_
    refine J_iconst (pc := 50) (v := (nI 4)) D10_token_50 (by decide) ?_
    refine J_mput (pc := 51) D10_token_51 fp10_158 ms_25 ?_
    refine J_goto (pc := 54) (tgt := 225) D10_token_54 (by decide) ?_
    refine J_vret (pc := 225) D10_token_225 rfl ?_
    exact ⟨rfl, _, rfl, fun k a b c d => (updI_n c).trans ((updI_n b).trans (h1 k a)), e1, Or.inr ⟨ez, rfl, e1z⟩⟩
