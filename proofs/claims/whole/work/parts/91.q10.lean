/-! THE MODEL: lines of people, needs, thunder, seed (own program mod_q10.py) -/
theorem numC_0 {K : TK} {lo hi : Int32} {C : RC} (h : (numC K lo hi C).2.1 = 0) : C.2.1 = 0 := Decidable.byContradiction (fun z => z (by rw [numC_f z] at h; exact h))
theorem newC_0 {K : TK} {al : Int32} {C : RC} (h : (newC K al C).2.1 = 0) : C.2.1 = 0 := Decidable.byContradiction (fun z => z (by rw [newC_f z] at h; exact h))
theorem n_in {a b : Nat} {v : Int32} (hb : b < 2 ^ 31) (ha : a < 2 ^ 31) (h : nI a ≤ v ∧ v ≤ nI b) : ∃ x, a ≤ x ∧ x ≤ b ∧ v = nI x := by
  have h0 : 0 ≤ v := Int32.le_trans (nI_pos' ha) h.1
  obtain ⟨x, hx, rfl⟩ := nI_of (Int32.not_lt.mpr h0)
  rw [nI_leI ha hx, nI_leI hx hb] at h
  exact ⟨x, h.1, h.2, rfl⟩
theorem L10_lb0 {K : TK} {L cnt : Nat} (hK : KT K L cnt) {L0 : LL} {M : Nat → MR} {D : Nat} {s s2 : Nat → Int32} {A : Nat → Nat → Int32} {R : RS} (hD : 140 ≤ D) (hTP : TP K.2.2.1 (A 1) L) (hG : GIv s A R) (hf : npR R < 5) (b2 : CRl K L cnt s2 (stepC K R.1)) (h0 : R.1.2.1 = 0) (e20 : s2 20 = s 20 ||| bt 0) (e31 : s2 31 = s 31) (e32 : s2 32 = s 32) (e21 : s2 21 = s 21) (hF2 : FLn s A s2 A) : J m10_line D 0 0 40 128 [(0, .ref 0), (1, .int (nI 0))] [] (modW s2 A L0 M) 0 0 (lnQ K L cnt L0 M s A (paC K (nI 31) (manR K R))) := by
  have e6 : A 3 6 = nI (npR R) := hG.1.1
  have e7 : A 3 7 = nI (nbR R) := hG.1.2.1
  have e8 : A 3 8 = nI (nnR R) := hG.1.2.2.1
  have hnp : npR R ≤ 5 := hG.2.1.2.2.2.1
  have hnb : nbR R ≤ 10 := hG.2.1.2.2.2.2.1
  have hnn : nnR R ≤ 8 := hG.2.1.2.2.2.2.2.1
  refine J_iconst (pc := 128) (v := (nI 5)) D10_line_128 (by decide) ?_
  refine J_aload_n (pc := 129) D10_line_129 rfl ?_
  refine J_iconst (pc := 130) (v := (nI 0)) D10_line_130 (by decide) ?_
  refine J_callVTR (pc := 131) (ac := [.int _]) D10_line_131 m10_fresher_v t1477 (c10_fresher (d := D - 2) (k := 0) (by decide)) (by omega) rfl rfl rfl rfl (fun _ => rfl) rfl rfl rfl ?_
  rw [show A 3 (6 + 0) = nI (npR R) from e6]
  refine J_iadd (pc := 134) D10_line_134 ?_
  refine J_st [.int (nI (5 + npR R))] (by rw [nI_add]) ?_
  refine J_istore_n (pc := 135) D10_line_135 rfl ?_
  refine J_aload_n (pc := 136) D10_line_136 rfl ?_
  refine J_getf (pc := 137) D10_line_137 fl10_16 rfl rfl ?_
  refine J_iload_n (pc := 140) D10_line_140 rfl ?_
  refine J_aload_n (pc := 141) D10_line_141 rfl ?_
  refine J_aload_n (pc := 142) D10_line_142 rfl ?_
  refine J_getf (pc := 143) D10_line_143 fl10_16 rfl rfl ?_
  refine J_iconst (pc := 146) (v := (nI 5)) D10_line_146 (by decide) ?_
  refine J_aload_n (pc := 147) D10_line_147 rfl ?_
  refine J_iconst (pc := 148) (v := (nI 0)) D10_line_148 (by decide) ?_
  refine J_callVTR (pc := 149) (ac := [.int _]) D10_line_149 m10_fresher_v t1477 (c10_fresher (d := D - 2) (k := 0) (by decide)) (by omega) rfl rfl rfl rfl (fun _ => rfl) rfl rfl rfl ?_
  rw [show A 3 (6 + 0) = nI (npR R) from e6]
  refine J_callVT (pc := 152) (ac := [.ref _, .int _, .int _]) D10_line_152 m10_fresh_v t1481 (c10_freshM (d := D - 8) hK hTP b2 hnp (f := arR R 1) (fun i hi => (hG.1.2.2.2.2.2.2.1 i hi).1)) (by omega) rfl rfl rfl rfl rfl rfl rfl (fun r w' hq hl => ?_)
  obtain ⟨v3, s3, hr, rfl, a3, b3, c3⟩ := hq
  cases hr
  refine J_mast (pc := 155) D10_line_155 ma_4 rfl (by omega) rfl ?_
  generalize hA1 : upA A 4 (upd (A 4) (5 + npR R) v3) = A1
  have hTP1 : TP K.2.2.1 (A1 1) L := by rw [← hA1]; exact hTP
  refine J_aload_n (pc := 156) D10_line_156 rfl ?_
  refine J_getf (pc := 157) D10_line_157 fl10_19 rfl rfl ?_
  refine J_iload_n (pc := 160) D10_line_160 rfl ?_
  refine J_aload_n (pc := 161) D10_line_161 rfl ?_
  refine J_iconst (pc := 162) (v := (nI 0)) D10_line_162 (by decide) ?_
  refine J_bipush (pc := 163) (v := (nI 9)) D10_line_163 (by decide) ?_
  refine J_callVT (pc := 165) (ac := [.int _, .int _]) D10_line_165 m10_numeral_v t1488 (c10_numeral (d := D - 8) hK hTP1 b3 (lo := (nI 0)) (b := 9) (C := newC K (wkI (plL (arR R 1) (K.2.2.2.2.2 (stepC K R.1).1) (npR R) 0)) (stepC K R.1)) (fun _ => ⟨0, by decide, rfl⟩) (by decide)) (by omega) rfl rfl rfl rfl rfl rfl rfl (fun r w' hq hl => ?_)
  obtain ⟨v4, s4, hr, rfl, a4, b4, c4⟩ := hq
  cases hr
  refine J_mast (pc := 168) D10_line_168 ma_5 rfl (by omega) rfl ?_
  generalize hA2 : upA A1 5 (upd (A1 5) (5 + npR R) v4) = A2
  refine J_aload_n (pc := 169) D10_line_169 rfl ?_
  refine J_iconst (pc := 170) (v := (nI 0)) D10_line_170 (by decide) ?_
  refine J_aload_n (pc := 171) D10_line_171 rfl ?_
  refine J_iconst (pc := 172) (v := (nI 0)) D10_line_172 (by decide) ?_
  refine J_callVTR (pc := 173) (ac := [.int _]) D10_line_173 m10_fresher_v t1477 (c10_fresher (d := D - 2) (k := 0) (by decide)) (by omega) rfl rfl rfl rfl (fun _ => rfl) rfl rfl rfl ?_
  rw [show A2 3 (6 + 0) = nI (npR R) from by rw [← hA2, ← hA1]; exact e6]
  refine J_iconst (pc := 176) (v := (nI 1)) D10_line_176 (by decide) ?_
  refine J_iadd (pc := 177) D10_line_177 ?_
  rw [nI_add]
  refine J_callVT (pc := 178) (ac := [.int _, .int _]) D10_line_178 m10_reads_v t1431 (c10_reads (d := D - 2) (k := 0) (by decide)) (by omega) rfl rfl rfl rfl rfl rfl rfl (fun r w' hq hl => ?_)
  obtain ⟨rfl, rfl⟩ := hq
  refine J_goto (pc := 181) (tgt := 324) D10_line_181 (by decide) ?_
  refine J_lk [(0, .ref 0)] rfl ?_
  subst hA2
  subst hA1
  have eM : (manR K R).1 = numC K (nI 0) (nI 9) (newC K (wkI (plL (arR R 1) (K.2.2.2.2.2 (stepC K R.1).1) (npR R) 0)) (stepC K R.1)) := by unfold manR; rw [if_pos hf]
  refine L10_ln324 hK (by omega) (hF2.tr ((FLn.fs a3).tr ((FLn.up (k := 4) (by decide) (by show 5 ≤ 5 + npR R; omega)).tr ((FLn.fs a4).tr ((FLn.up (k := 5) (by decide) (by show 5 ≤ 5 + npR R; omega)).tr (FLn.up (k := 3) (by decide) (by show 6 ≤ 6 + 0; omega))))))) hTP ((a4 21 (by decide)).trans ((a3 21 (by decide)).trans e21)) (by rw [eM]; exact b4) (fun q => ?_)
  rw [eM] at q
  have q1 := numC_0 q
  have ev3 := c3 q1
  have ev4 := (c4 q).1
  exact hG.man (v1 := v3) (v2 := v4) hf (by unfold manR; rw [if_pos hf, ev3, ev4]) rfl rfl rfl (fun k a b c => by rw [upA_n a, upA_n c, upA_n b]) ((a4 20 (by decide)).trans ((a3 20 (by decide)).trans e20)) ((a4 31 (by decide)).trans ((a3 31 (by decide)).trans e31)) ((a4 32 (by decide)).trans ((a3 32 (by decide)).trans e32))
theorem L10_ln0 {K : TK} {L cnt : Nat} (hK : KT K L cnt) {L0 : LL} {M : Nat → MR} {D : Nat} {s : Nat → Int32} {A : Nat → Nat → Int32} {R : RS} (hD : 140 ≤ D) (hTP : TP K.2.2.1 (A 1) L) (h : CRl K L cnt s R.1) (h0 : R.1.2.1 = 0) (hG : GIv s A R) (hk : kdR K R = nI 0) : J m10_line D 0 0 40 0 [(0, .ref 0)] [] (modW s A L0 M) 0 0 (lnQ K L cnt L0 M s A (linR K R)) := by
  have kvr := (h.2.2 h0).2.2.2.1
  have h27 : s 27 = 0 := by rw [h.1]; exact h0
  have hl := (kv_lin kvr).mpr (Or.inl hk)
  have hva : s 26 = nI 0 := (kv_w8 kvr ⟨0, by decide, hk⟩).trans hk
  have e6 : A 3 6 = nI (npR R) := hG.1.1
  have e7 : A 3 7 = nI (nbR R) := hG.1.2.1
  have e8 : A 3 8 = nI (nnR R) := hG.1.2.2.1
  have hnp : npR R ≤ 5 := hG.2.1.2.2.2.1
  have hnb : nbR R ≤ 10 := hG.2.1.2.2.2.2.1
  have hnn : nnR R ≤ 8 := hG.2.1.2.2.2.2.2.1
  have e9 : linR1 K R = manR K R := by
    unfold linR1
    rw [if_pos hk]
  by_cases hf : npR R < 5
  · have e9 : linR K R = paC K (nI 31) (manR K R) := by unfold linR; rw [e9]
    rw [e9]
    refine J_aload_n (pc := 0) D10_line_0 rfl ?_
    refine J_getf (pc := 1) D10_line_1 fl10_158 rfl rfl ?_
    refine J_if_ne (pc := 4) (tgt := 15) D10_line_4 (by decide) (fun h4 => absurd hl.1 h4) (fun h4 => ?_)
    refine J_aload_n (pc := 7) D10_line_7 rfl ?_
    refine J_getf (pc := 8) D10_line_8 fl10_168 rfl rfl ?_
    refine J_iconst (pc := 11) (v := (nI 5)) D10_line_11 (by decide) ?_
    refine J_icmp_le (pc := 12) (tgt := 21) D10_line_12 (by decide) (fun h12 => ?_) (fun h12 => absurd hl.2 h12)
    refine J_aload_n (pc := 21) D10_line_21 rfl ?_
    refine J_getf (pc := 22) D10_line_22 fl10_168 rfl rfl ?_
    rw [hva]
    refine J_istore_n (pc := 25) D10_line_25 rfl ?_
    refine J_aload_n (pc := 26) D10_line_26 rfl ?_
    refine J_iload_n (pc := 27) D10_line_27 rfl ?_
    refine J_callVTR (pc := 28) (ac := [.int _]) D10_line_28 m10_isFull_v t1473 (c10_isFull0 (d := D - 3)) (by omega) rfl rfl rfl rfl (fun _ => rfl) rfl rfl rfl ?_
    refine J_if_eq (pc := 31) (tgt := 42) D10_line_31 (by decide) (fun h31 => ?_) (fun h31 => absurd (i01_f (fun q => absurd (nI_eqI (by omega) (by decide) ((show A 3 6 = _ from e6).symm.trans q)) (by omega))) h31)
    refine J_iload_n (pc := 42) D10_line_42 rfl ?_
    refine J_iconst (pc := 43) (v := (nI 3)) D10_line_43 (by decide) ?_
    refine J_icmp_eq (pc := 44) (tgt := 52) D10_line_44 (by decide) (fun h44 => absurd h44 (by decide)) (fun h44 => ?_)
    refine J_iload_n (pc := 47) D10_line_47 rfl ?_
    refine J_iconst (pc := 48) (v := (nI 4)) D10_line_48 (by decide) ?_
    refine J_icmp_ne (pc := 49) (tgt := 69) D10_line_49 (by decide) (fun h49 => ?_) (fun h49 => absurd h49 (by decide))
    refine J_aload_n (pc := 69) D10_line_69 rfl ?_
    refine J_getf (pc := 70) D10_line_70 fl10_193 rfl rfl ?_
    rw [h27]
    refine J_if_eq (pc := 73) (tgt := 77) D10_line_73 (by decide) (fun h73 => ?_) (fun h73 => absurd rfl h73)
    refine J_aload_n (pc := 77) D10_line_77 rfl ?_
    refine J_dup (pc := 78) D10_line_78 rfl ?_
    refine J_getf (pc := 79) D10_line_79 fl10_222 rfl rfl ?_
    refine J_iconst (pc := 82) (v := (nI 1)) D10_line_82 (by decide) ?_
    refine J_iload_n (pc := 83) D10_line_83 rfl ?_
    refine J_ishl (pc := 84) D10_line_84 ?_
    refine J_ior (pc := 85) D10_line_85 ?_
    refine J_mput (pc := 86) D10_line_86 fp10_222 ms_20 ?_
    refine J_aload_n (pc := 89) D10_line_89 rfl ?_
    refine J_callVT (pc := 90) (ac := []) D10_line_90 m10_token_v t1435 (tokC_l (d := D - 7) (C := R.1) hK hTP (s := updI s 20 (s 20 ||| bt 0)) (h.c (fun k _ _ => updI_n (by omega))) h0) (by omega) rfl rfl rfl rfl rfl rfl rfl (fun r w' hq hl => ?_)
    obtain ⟨rfl, s2, rfl, a2, b2⟩ := hq
    have e20 : s2 20 = s 20 ||| bt 0 := (a2 20 (by decide)).trans updI_s
    have hF2 : FLn s A s2 A := (FLn.s21 (Or.inl rfl)).tr (FLn.fs a2)
    have e31 : s2 31 = s 31 := (a2 31 (by decide)).trans (updI_n (by decide))
    have e32 : s2 32 = s 32 := (a2 32 (by decide)).trans (updI_n (by decide))
    have e21 : s2 21 = s 21 := (a2 21 (by decide)).trans (updI_n (by decide))
    refine J_iload_n (pc := 93) D10_line_93 rfl ?_
    refine J_tsw (pc := 94) 0 [128, 184, 199, 290, 305] 320 D10_line_94 (by decide) (by decide) rfl (by decide) (by decide) (fun j9 hj9 h94 => ?_) (fun h94 => absurd rfl (h94 0 (by decide)))
    have hj5 : j9 < 5 := hj9
    have ej := nI_eqI (by decide) (by omega) h94
    obtain rfl : j9 = 0 := by omega
    clear hj9 hj5 ej h94
    exact L10_lb0 hK hD hTP hG hf b2 h0 e20 e31 e32 e21 hF2
  · have e9 : linR K R = (refC K (nI 2) R.1, R.2) := lin_f h0 (by decide) (by rw [e9]; exact if_neg hf)
    rw [e9]
    refine J_aload_n (pc := 0) D10_line_0 rfl ?_
    refine J_getf (pc := 1) D10_line_1 fl10_158 rfl rfl ?_
    refine J_if_ne (pc := 4) (tgt := 15) D10_line_4 (by decide) (fun h4 => absurd hl.1 h4) (fun h4 => ?_)
    refine J_aload_n (pc := 7) D10_line_7 rfl ?_
    refine J_getf (pc := 8) D10_line_8 fl10_168 rfl rfl ?_
    refine J_iconst (pc := 11) (v := (nI 5)) D10_line_11 (by decide) ?_
    refine J_icmp_le (pc := 12) (tgt := 21) D10_line_12 (by decide) (fun h12 => ?_) (fun h12 => absurd hl.2 h12)
    refine J_aload_n (pc := 21) D10_line_21 rfl ?_
    refine J_getf (pc := 22) D10_line_22 fl10_168 rfl rfl ?_
    rw [hva]
    refine J_istore_n (pc := 25) D10_line_25 rfl ?_
    refine J_aload_n (pc := 26) D10_line_26 rfl ?_
    refine J_iload_n (pc := 27) D10_line_27 rfl ?_
    refine J_callVTR (pc := 28) (ac := [.int _]) D10_line_28 m10_isFull_v t1473 (c10_isFull0 (d := D - 3)) (by omega) rfl rfl rfl rfl (fun _ => rfl) rfl rfl rfl ?_
    refine J_if_eq (pc := 31) (tgt := 42) D10_line_31 (by decide) (fun h31 => absurd h31 (by rw [i01_t (show A 3 6 = nI 5 by rw [e6, show npR R = 5 by omega])]; decide)) (fun h31 => ?_)
    refine J_aload_n (pc := 34) D10_line_34 rfl ?_
    refine J_iconst (pc := 35) (v := (nI 2)) D10_line_35 (by decide) ?_
    refine J_callVT (pc := 36) (ac := [.int _]) D10_line_36 m10_wrong_v t1469 (c10_wrong (d := D - 2) (C := R.1) h (by decide)) (by omega) rfl rfl rfl rfl rfl rfl rfl (fun r w' hq hl => ?_)
    obtain ⟨rfl, s1, rfl, a1, b1⟩ := hq
    refine J_goto (pc := 39) (tgt := 69) D10_line_39 (by decide) ?_
    refine J_aload_n (pc := 69) D10_line_69 rfl ?_
    refine J_getf (pc := 70) D10_line_70 fl10_193 rfl rfl ?_
    rw [b1.1]
    refine J_if_eq (pc := 73) (tgt := 77) D10_line_73 (by decide) (fun h73 => absurd h73 (ref_nz h0 (by decide))) (fun h73 => ?_)
    refine J_vret (pc := 76) D10_line_76 rfl ?_
    exact ⟨rfl, s1, A, rfl, FLn.fs a1, b1, fun q => absurd q (ref_nz h0 (by decide))⟩
theorem L10_lb3 {K : TK} {L cnt : Nat} (hK : KT K L cnt) {L0 : LL} {M : Nat → MR} {D : Nat} {s s2 : Nat → Int32} {A : Nat → Nat → Int32} {R : RS} (hD : 140 ≤ D) (hTP : TP K.2.2.1 (A 1) L) (hG : GIv s A R) (hf : R.2.1.1 = 0) (b2 : CRl K L cnt s2 (stepC K R.1)) (h0 : R.1.2.1 = 0) (e20 : s2 20 = s 20 ||| bt 3) (e31 : s2 31 = s 31) (e32 : s2 32 = s 32) (e21 : s2 21 = s 21) (hF2 : FLn s A s2 A) : J m10_line D 0 0 40 290 [(0, .ref 0), (1, .int (nI 3))] [] (modW s2 A L0 M) 0 0 (lnQ K L cnt L0 M s A (paC K (nI 31) (thuR K R))) := by
  have e6 : A 3 6 = nI (npR R) := hG.1.1
  have e7 : A 3 7 = nI (nbR R) := hG.1.2.1
  have e8 : A 3 8 = nI (nnR R) := hG.1.2.2.1
  have hnp : npR R ≤ 5 := hG.2.1.2.2.2.1
  have hnb : nbR R ≤ 10 := hG.2.1.2.2.2.2.1
  have hnn : nnR R ≤ 8 := hG.2.1.2.2.2.2.2.1
  refine J_aload_n (pc := 290) D10_line_290 rfl ?_
  refine J_iconst (pc := 291) (v := (nI 3)) D10_line_291 (by decide) ?_
  refine J_aload_n (pc := 292) D10_line_292 rfl ?_
  refine J_iconst (pc := 293) (v := (nI 0)) D10_line_293 (by decide) ?_
  refine J_bipush (pc := 294) (v := (nI 100)) D10_line_294 (by decide) ?_
  refine J_callVT (pc := 296) (ac := [.int _, .int _]) D10_line_296 m10_numeral_v t1488 (c10_numeral (d := D - 8) hK hTP b2 (lo := (nI 0)) (b := 100) (C := stepC K R.1) (fun _ => ⟨0, by decide, rfl⟩) (by decide)) (by omega) rfl rfl rfl rfl rfl rfl rfl (fun r w' hq hl => ?_)
  obtain ⟨v3, s3, hr, rfl, a3, b3, c3⟩ := hq
  cases hr
  refine J_callVT (pc := 299) (ac := [.int _, .int _]) D10_line_299 m10_reads_v t1431 (c10_reads (d := D - 2) (k := 3) (by decide)) (by omega) rfl rfl rfl rfl rfl rfl rfl (fun r w' hq hl => ?_)
  obtain ⟨rfl, rfl⟩ := hq
  refine J_goto (pc := 302) (tgt := 324) D10_line_302 (by decide) ?_
  refine J_lk [(0, .ref 0)] rfl ?_
  have eM : (thuR K R).1 = numC K (nI 0) (nI 100) (stepC K R.1) := by unfold thuR; rw [if_pos hf]
  refine L10_ln324 hK (by omega) (hF2.tr ((FLn.fs a3).tr (FLn.up (k := 3) (by decide) (by show 6 ≤ 6 + 3; omega)))) hTP ((a3 21 (by decide)).trans e21) (by rw [eM]; exact b3) (fun q => ?_)
  rw [eM] at q
  have ev3 := (c3 q).1
  obtain ⟨x, -, hx, ex⟩ := n_in (by decide) (by decide) (c3 q).2
  refine hG.thu (v := v3) (by unfold thuR; rw [if_pos hf, ev3]) rfl (fun k a => upA_n a) ⟨x, hx, ex⟩ ((a3 20 (by decide)).trans e20) ((a3 31 (by decide)).trans e31) ((a3 32 (by decide)).trans e32)
theorem L10_ln3 {K : TK} {L cnt : Nat} (hK : KT K L cnt) {L0 : LL} {M : Nat → MR} {D : Nat} {s : Nat → Int32} {A : Nat → Nat → Int32} {R : RS} (hD : 140 ≤ D) (hTP : TP K.2.2.1 (A 1) L) (h : CRl K L cnt s R.1) (h0 : R.1.2.1 = 0) (hG : GIv s A R) (hk : kdR K R = nI 3) : J m10_line D 0 0 40 0 [(0, .ref 0)] [] (modW s A L0 M) 0 0 (lnQ K L cnt L0 M s A (linR K R)) := by
  have kvr := (h.2.2 h0).2.2.2.1
  have h27 : s 27 = 0 := by rw [h.1]; exact h0
  have hl := (kv_lin kvr).mpr (Or.inr (Or.inr (Or.inr (Or.inl hk))))
  have hva : s 26 = nI 3 := (kv_w8 kvr ⟨3, by decide, hk⟩).trans hk
  have e6 : A 3 6 = nI (npR R) := hG.1.1
  have e7 : A 3 7 = nI (nbR R) := hG.1.2.1
  have e8 : A 3 8 = nI (nnR R) := hG.1.2.2.1
  have hnp : npR R ≤ 5 := hG.2.1.2.2.2.1
  have hnb : nbR R ≤ 10 := hG.2.1.2.2.2.2.1
  have hnn : nnR R ≤ 8 := hG.2.1.2.2.2.2.2.1
  have e9 : linR1 K R = thuR K R := by
    unfold linR1
    rw [if_neg (fun q => by rw [show K.2.2.2.1 R.1.1 = nI 3 from hk] at q; exact absurd q (by decide)), if_neg (fun q => by rw [show K.2.2.2.1 R.1.1 = nI 3 from hk] at q; exact absurd q (by decide)), if_neg (fun q => by rw [show K.2.2.2.1 R.1.1 = nI 3 from hk] at q; exact absurd q (by decide)), if_pos hk]
  by_cases hf : R.2.1.1 = 0
  · have e9 : linR K R = paC K (nI 31) (thuR K R) := by unfold linR; rw [e9]
    rw [e9]
    refine J_aload_n (pc := 0) D10_line_0 rfl ?_
    refine J_getf (pc := 1) D10_line_1 fl10_158 rfl rfl ?_
    refine J_if_ne (pc := 4) (tgt := 15) D10_line_4 (by decide) (fun h4 => absurd hl.1 h4) (fun h4 => ?_)
    refine J_aload_n (pc := 7) D10_line_7 rfl ?_
    refine J_getf (pc := 8) D10_line_8 fl10_168 rfl rfl ?_
    refine J_iconst (pc := 11) (v := (nI 5)) D10_line_11 (by decide) ?_
    refine J_icmp_le (pc := 12) (tgt := 21) D10_line_12 (by decide) (fun h12 => ?_) (fun h12 => absurd hl.2 h12)
    refine J_aload_n (pc := 21) D10_line_21 rfl ?_
    refine J_getf (pc := 22) D10_line_22 fl10_168 rfl rfl ?_
    rw [hva]
    refine J_istore_n (pc := 25) D10_line_25 rfl ?_
    refine J_aload_n (pc := 26) D10_line_26 rfl ?_
    refine J_iload_n (pc := 27) D10_line_27 rfl ?_
    refine J_callVTR (pc := 28) (ac := [.int _]) D10_line_28 m10_isFull_v t1473 (c10_isFull3 (d := D - 3)) (by omega) rfl rfl rfl rfl (fun _ => rfl) rfl rfl rfl ?_
    refine J_if_eq (pc := 31) (tgt := 42) D10_line_31 (by decide) (fun h31 => ?_) (fun h31 => absurd (i01_f (fun q => q)) h31)
    refine J_iload_n (pc := 42) D10_line_42 rfl ?_
    refine J_iconst (pc := 43) (v := (nI 3)) D10_line_43 (by decide) ?_
    refine J_icmp_eq (pc := 44) (tgt := 52) D10_line_44 (by decide) (fun h44 => ?_) (fun h44 => absurd rfl h44)
    refine J_aload_n (pc := 52) D10_line_52 rfl ?_
    refine J_getf (pc := 53) D10_line_53 fl10_222 rfl rfl ?_
    refine J_iload_n (pc := 56) D10_line_56 rfl ?_
    refine J_ishr (pc := 57) D10_line_57 ?_
    refine J_iconst (pc := 58) (v := (nI 1)) D10_line_58 (by decide) ?_
    refine J_iand (pc := 59) D10_line_59 ?_
    refine J_iconst (pc := 60) (v := (nI 1)) D10_line_60 (by decide) ?_
    refine J_icmp_ne (pc := 61) (tgt := 69) D10_line_61 (by decide) (fun h61 => ?_) (fun h61 => absurd h61 (fun q => absurd hf (hG.2.2.2.2.1.1.mp (hb_1.mp q))))
    refine J_aload_n (pc := 69) D10_line_69 rfl ?_
    refine J_getf (pc := 70) D10_line_70 fl10_193 rfl rfl ?_
    rw [h27]
    refine J_if_eq (pc := 73) (tgt := 77) D10_line_73 (by decide) (fun h73 => ?_) (fun h73 => absurd rfl h73)
    refine J_aload_n (pc := 77) D10_line_77 rfl ?_
    refine J_dup (pc := 78) D10_line_78 rfl ?_
    refine J_getf (pc := 79) D10_line_79 fl10_222 rfl rfl ?_
    refine J_iconst (pc := 82) (v := (nI 1)) D10_line_82 (by decide) ?_
    refine J_iload_n (pc := 83) D10_line_83 rfl ?_
    refine J_ishl (pc := 84) D10_line_84 ?_
    refine J_ior (pc := 85) D10_line_85 ?_
    refine J_mput (pc := 86) D10_line_86 fp10_222 ms_20 ?_
    refine J_aload_n (pc := 89) D10_line_89 rfl ?_
    refine J_callVT (pc := 90) (ac := []) D10_line_90 m10_token_v t1435 (tokC_l (d := D - 7) (C := R.1) hK hTP (s := updI s 20 (s 20 ||| bt 3)) (h.c (fun k _ _ => updI_n (by omega))) h0) (by omega) rfl rfl rfl rfl rfl rfl rfl (fun r w' hq hl => ?_)
    obtain ⟨rfl, s2, rfl, a2, b2⟩ := hq
    have e20 : s2 20 = s 20 ||| bt 3 := (a2 20 (by decide)).trans updI_s
    have hF2 : FLn s A s2 A := (FLn.s21 (Or.inl rfl)).tr (FLn.fs a2)
    have e31 : s2 31 = s 31 := (a2 31 (by decide)).trans (updI_n (by decide))
    have e32 : s2 32 = s 32 := (a2 32 (by decide)).trans (updI_n (by decide))
    have e21 : s2 21 = s 21 := (a2 21 (by decide)).trans (updI_n (by decide))
    refine J_iload_n (pc := 93) D10_line_93 rfl ?_
    refine J_tsw (pc := 94) 0 [128, 184, 199, 290, 305] 320 D10_line_94 (by decide) (by decide) rfl (by decide) (by decide) (fun j9 hj9 h94 => ?_) (fun h94 => absurd rfl (h94 3 (by decide)))
    have hj5 : j9 < 5 := hj9
    have ej := nI_eqI (by decide) (by omega) h94
    obtain rfl : j9 = 3 := by omega
    clear hj9 hj5 ej h94
    exact L10_lb3 hK hD hTP hG hf b2 h0 e20 e31 e32 e21 hF2
  · have e9 : linR K R = (refC K (nI 3) R.1, R.2) := lin_f h0 (by decide) (by rw [e9]; exact if_neg hf)
    rw [e9]
    refine J_aload_n (pc := 0) D10_line_0 rfl ?_
    refine J_getf (pc := 1) D10_line_1 fl10_158 rfl rfl ?_
    refine J_if_ne (pc := 4) (tgt := 15) D10_line_4 (by decide) (fun h4 => absurd hl.1 h4) (fun h4 => ?_)
    refine J_aload_n (pc := 7) D10_line_7 rfl ?_
    refine J_getf (pc := 8) D10_line_8 fl10_168 rfl rfl ?_
    refine J_iconst (pc := 11) (v := (nI 5)) D10_line_11 (by decide) ?_
    refine J_icmp_le (pc := 12) (tgt := 21) D10_line_12 (by decide) (fun h12 => ?_) (fun h12 => absurd hl.2 h12)
    refine J_aload_n (pc := 21) D10_line_21 rfl ?_
    refine J_getf (pc := 22) D10_line_22 fl10_168 rfl rfl ?_
    rw [hva]
    refine J_istore_n (pc := 25) D10_line_25 rfl ?_
    refine J_aload_n (pc := 26) D10_line_26 rfl ?_
    refine J_iload_n (pc := 27) D10_line_27 rfl ?_
    refine J_callVTR (pc := 28) (ac := [.int _]) D10_line_28 m10_isFull_v t1473 (c10_isFull3 (d := D - 3)) (by omega) rfl rfl rfl rfl (fun _ => rfl) rfl rfl rfl ?_
    refine J_if_eq (pc := 31) (tgt := 42) D10_line_31 (by decide) (fun h31 => ?_) (fun h31 => absurd (i01_f (fun q => q)) h31)
    refine J_iload_n (pc := 42) D10_line_42 rfl ?_
    refine J_iconst (pc := 43) (v := (nI 3)) D10_line_43 (by decide) ?_
    refine J_icmp_eq (pc := 44) (tgt := 52) D10_line_44 (by decide) (fun h44 => ?_) (fun h44 => absurd rfl h44)
    refine J_aload_n (pc := 52) D10_line_52 rfl ?_
    refine J_getf (pc := 53) D10_line_53 fl10_222 rfl rfl ?_
    refine J_iload_n (pc := 56) D10_line_56 rfl ?_
    refine J_ishr (pc := 57) D10_line_57 ?_
    refine J_iconst (pc := 58) (v := (nI 1)) D10_line_58 (by decide) ?_
    refine J_iand (pc := 59) D10_line_59 ?_
    refine J_iconst (pc := 60) (v := (nI 1)) D10_line_60 (by decide) ?_
    refine J_icmp_ne (pc := 61) (tgt := 69) D10_line_61 (by decide) (fun h61 => absurd (hb_1.mpr (hG.2.2.2.2.1.1.mpr hf)) h61) (fun h61 => ?_)
    refine J_aload_n (pc := 64) D10_line_64 rfl ?_
    refine J_iconst (pc := 65) (v := (nI 3)) D10_line_65 (by decide) ?_
    refine J_callVT (pc := 66) (ac := [.int _]) D10_line_66 m10_wrong_v t1469 (c10_wrong (d := D - 2) (C := R.1) h (by decide)) (by omega) rfl rfl rfl rfl rfl rfl rfl (fun r w' hq hl => ?_)
    obtain ⟨rfl, s1, rfl, a1, b1⟩ := hq
    refine J_aload_n (pc := 69) D10_line_69 rfl ?_
    refine J_getf (pc := 70) D10_line_70 fl10_193 rfl rfl ?_
    rw [b1.1]
    refine J_if_eq (pc := 73) (tgt := 77) D10_line_73 (by decide) (fun h73 => absurd h73 (ref_nz h0 (by decide))) (fun h73 => ?_)
    refine J_vret (pc := 76) D10_line_76 rfl ?_
    exact ⟨rfl, s1, A, rfl, FLn.fs a1, b1, fun q => absurd q (ref_nz h0 (by decide))⟩
theorem L10_lb4 {K : TK} {L cnt : Nat} (hK : KT K L cnt) {L0 : LL} {M : Nat → MR} {D : Nat} {s s2 : Nat → Int32} {A : Nat → Nat → Int32} {R : RS} (hD : 140 ≤ D) (hTP : TP K.2.2.1 (A 1) L) (hG : GIv s A R) (hf : R.2.1.2 = 0) (b2 : CRl K L cnt s2 (stepC K R.1)) (h0 : R.1.2.1 = 0) (e20 : s2 20 = s 20 ||| bt 4) (e31 : s2 31 = s 31) (e32 : s2 32 = s 32) (e21 : s2 21 = s 21) (hF2 : FLn s A s2 A) : J m10_line D 0 0 40 305 [(0, .ref 0), (1, .int (nI 4))] [] (modW s2 A L0 M) 0 0 (lnQ K L cnt L0 M s A (paC K (nI 31) (seeR K R))) := by
  have e6 : A 3 6 = nI (npR R) := hG.1.1
  have e7 : A 3 7 = nI (nbR R) := hG.1.2.1
  have e8 : A 3 8 = nI (nnR R) := hG.1.2.2.1
  have hnp : npR R ≤ 5 := hG.2.1.2.2.2.1
  have hnb : nbR R ≤ 10 := hG.2.1.2.2.2.2.1
  have hnn : nnR R ≤ 8 := hG.2.1.2.2.2.2.2.1
  refine J_aload_n (pc := 305) D10_line_305 rfl ?_
  refine J_iconst (pc := 306) (v := (nI 4)) D10_line_306 (by decide) ?_
  refine J_aload_n (pc := 307) D10_line_307 rfl ?_
  refine J_iconst (pc := 308) (v := (nI 0)) D10_line_308 (by decide) ?_
  refine J_ldc (pc := 309) D10_line_309 t1460 ?_
  refine J_callVT (pc := 311) (ac := [.int _, .int _]) D10_line_311 m10_numeral_v t1488 (c10_numeral (d := D - 8) hK hTP b2 (lo := (nI 0)) (b := 99999) (C := stepC K R.1) (fun _ => ⟨0, by decide, rfl⟩) (by decide)) (by omega) rfl rfl rfl rfl rfl rfl rfl (fun r w' hq hl => ?_)
  obtain ⟨v3, s3, hr, rfl, a3, b3, c3⟩ := hq
  cases hr
  refine J_callVT (pc := 314) (ac := [.int _, .int _]) D10_line_314 m10_reads_v t1431 (c10_reads (d := D - 2) (k := 4) (by decide)) (by omega) rfl rfl rfl rfl rfl rfl rfl (fun r w' hq hl => ?_)
  obtain ⟨rfl, rfl⟩ := hq
  refine J_goto (pc := 317) (tgt := 324) D10_line_317 (by decide) ?_
  refine J_lk [(0, .ref 0)] rfl ?_
  have eM : (seeR K R).1 = numC K (nI 0) 99999 (stepC K R.1) := by unfold seeR; rw [if_pos hf]
  refine L10_ln324 hK (by omega) (hF2.tr ((FLn.fs a3).tr (FLn.up (k := 3) (by decide) (by show 6 ≤ 6 + 4; omega)))) hTP ((a3 21 (by decide)).trans e21) (by rw [eM]; exact b3) (fun q => ?_)
  rw [eM] at q
  have ev3 := (c3 q).1
  obtain ⟨x, -, hx, ex⟩ := n_in (by decide) (by decide) (c3 q).2
  refine hG.see (v := v3) (by unfold seeR; rw [if_pos hf, ev3]; rfl) rfl (fun k a => upA_n a) ⟨x, hx, ex⟩ ((a3 20 (by decide)).trans e20) ((a3 31 (by decide)).trans e31) ((a3 32 (by decide)).trans e32)
theorem L10_ln4 {K : TK} {L cnt : Nat} (hK : KT K L cnt) {L0 : LL} {M : Nat → MR} {D : Nat} {s : Nat → Int32} {A : Nat → Nat → Int32} {R : RS} (hD : 140 ≤ D) (hTP : TP K.2.2.1 (A 1) L) (h : CRl K L cnt s R.1) (h0 : R.1.2.1 = 0) (hG : GIv s A R) (hk : kdR K R = nI 4) : J m10_line D 0 0 40 0 [(0, .ref 0)] [] (modW s A L0 M) 0 0 (lnQ K L cnt L0 M s A (linR K R)) := by
  have kvr := (h.2.2 h0).2.2.2.1
  have h27 : s 27 = 0 := by rw [h.1]; exact h0
  have hl := (kv_lin kvr).mpr (Or.inr (Or.inr (Or.inr (Or.inr (Or.inl hk)))))
  have hva : s 26 = nI 4 := (kv_w8 kvr ⟨4, by decide, hk⟩).trans hk
  have e6 : A 3 6 = nI (npR R) := hG.1.1
  have e7 : A 3 7 = nI (nbR R) := hG.1.2.1
  have e8 : A 3 8 = nI (nnR R) := hG.1.2.2.1
  have hnp : npR R ≤ 5 := hG.2.1.2.2.2.1
  have hnb : nbR R ≤ 10 := hG.2.1.2.2.2.2.1
  have hnn : nnR R ≤ 8 := hG.2.1.2.2.2.2.2.1
  have e9 : linR1 K R = seeR K R := by
    unfold linR1
    rw [if_neg (fun q => by rw [show K.2.2.2.1 R.1.1 = nI 4 from hk] at q; exact absurd q (by decide)), if_neg (fun q => by rw [show K.2.2.2.1 R.1.1 = nI 4 from hk] at q; exact absurd q (by decide)), if_neg (fun q => by rw [show K.2.2.2.1 R.1.1 = nI 4 from hk] at q; exact absurd q (by decide)), if_neg (fun q => by rw [show K.2.2.2.1 R.1.1 = nI 4 from hk] at q; exact absurd q (by decide)), if_pos hk]
  by_cases hf : R.2.1.2 = 0
  · have e9 : linR K R = paC K (nI 31) (seeR K R) := by unfold linR; rw [e9]
    rw [e9]
    refine J_aload_n (pc := 0) D10_line_0 rfl ?_
    refine J_getf (pc := 1) D10_line_1 fl10_158 rfl rfl ?_
    refine J_if_ne (pc := 4) (tgt := 15) D10_line_4 (by decide) (fun h4 => absurd hl.1 h4) (fun h4 => ?_)
    refine J_aload_n (pc := 7) D10_line_7 rfl ?_
    refine J_getf (pc := 8) D10_line_8 fl10_168 rfl rfl ?_
    refine J_iconst (pc := 11) (v := (nI 5)) D10_line_11 (by decide) ?_
    refine J_icmp_le (pc := 12) (tgt := 21) D10_line_12 (by decide) (fun h12 => ?_) (fun h12 => absurd hl.2 h12)
    refine J_aload_n (pc := 21) D10_line_21 rfl ?_
    refine J_getf (pc := 22) D10_line_22 fl10_168 rfl rfl ?_
    rw [hva]
    refine J_istore_n (pc := 25) D10_line_25 rfl ?_
    refine J_aload_n (pc := 26) D10_line_26 rfl ?_
    refine J_iload_n (pc := 27) D10_line_27 rfl ?_
    refine J_callVTR (pc := 28) (ac := [.int _]) D10_line_28 m10_isFull_v t1473 (c10_isFull4 (d := D - 3)) (by omega) rfl rfl rfl rfl (fun _ => rfl) rfl rfl rfl ?_
    refine J_if_eq (pc := 31) (tgt := 42) D10_line_31 (by decide) (fun h31 => ?_) (fun h31 => absurd (i01_f (fun q => q)) h31)
    refine J_iload_n (pc := 42) D10_line_42 rfl ?_
    refine J_iconst (pc := 43) (v := (nI 3)) D10_line_43 (by decide) ?_
    refine J_icmp_eq (pc := 44) (tgt := 52) D10_line_44 (by decide) (fun h44 => absurd h44 (by decide)) (fun h44 => ?_)
    refine J_iload_n (pc := 47) D10_line_47 rfl ?_
    refine J_iconst (pc := 48) (v := (nI 4)) D10_line_48 (by decide) ?_
    refine J_icmp_ne (pc := 49) (tgt := 69) D10_line_49 (by decide) (fun h49 => absurd rfl h49) (fun h49 => ?_)
    refine J_aload_n (pc := 52) D10_line_52 rfl ?_
    refine J_getf (pc := 53) D10_line_53 fl10_222 rfl rfl ?_
    refine J_iload_n (pc := 56) D10_line_56 rfl ?_
    refine J_ishr (pc := 57) D10_line_57 ?_
    refine J_iconst (pc := 58) (v := (nI 1)) D10_line_58 (by decide) ?_
    refine J_iand (pc := 59) D10_line_59 ?_
    refine J_iconst (pc := 60) (v := (nI 1)) D10_line_60 (by decide) ?_
    refine J_icmp_ne (pc := 61) (tgt := 69) D10_line_61 (by decide) (fun h61 => ?_) (fun h61 => absurd h61 (fun q => absurd hf (hG.2.2.2.2.1.2.1.mp (hb_1.mp q))))
    refine J_aload_n (pc := 69) D10_line_69 rfl ?_
    refine J_getf (pc := 70) D10_line_70 fl10_193 rfl rfl ?_
    rw [h27]
    refine J_if_eq (pc := 73) (tgt := 77) D10_line_73 (by decide) (fun h73 => ?_) (fun h73 => absurd rfl h73)
    refine J_aload_n (pc := 77) D10_line_77 rfl ?_
    refine J_dup (pc := 78) D10_line_78 rfl ?_
    refine J_getf (pc := 79) D10_line_79 fl10_222 rfl rfl ?_
    refine J_iconst (pc := 82) (v := (nI 1)) D10_line_82 (by decide) ?_
    refine J_iload_n (pc := 83) D10_line_83 rfl ?_
    refine J_ishl (pc := 84) D10_line_84 ?_
    refine J_ior (pc := 85) D10_line_85 ?_
    refine J_mput (pc := 86) D10_line_86 fp10_222 ms_20 ?_
    refine J_aload_n (pc := 89) D10_line_89 rfl ?_
    refine J_callVT (pc := 90) (ac := []) D10_line_90 m10_token_v t1435 (tokC_l (d := D - 7) (C := R.1) hK hTP (s := updI s 20 (s 20 ||| bt 4)) (h.c (fun k _ _ => updI_n (by omega))) h0) (by omega) rfl rfl rfl rfl rfl rfl rfl (fun r w' hq hl => ?_)
    obtain ⟨rfl, s2, rfl, a2, b2⟩ := hq
    have e20 : s2 20 = s 20 ||| bt 4 := (a2 20 (by decide)).trans updI_s
    have hF2 : FLn s A s2 A := (FLn.s21 (Or.inl rfl)).tr (FLn.fs a2)
    have e31 : s2 31 = s 31 := (a2 31 (by decide)).trans (updI_n (by decide))
    have e32 : s2 32 = s 32 := (a2 32 (by decide)).trans (updI_n (by decide))
    have e21 : s2 21 = s 21 := (a2 21 (by decide)).trans (updI_n (by decide))
    refine J_iload_n (pc := 93) D10_line_93 rfl ?_
    refine J_tsw (pc := 94) 0 [128, 184, 199, 290, 305] 320 D10_line_94 (by decide) (by decide) rfl (by decide) (by decide) (fun j9 hj9 h94 => ?_) (fun h94 => absurd rfl (h94 4 (by decide)))
    have hj5 : j9 < 5 := hj9
    have ej := nI_eqI (by decide) (by omega) h94
    obtain rfl : j9 = 4 := by omega
    clear hj9 hj5 ej h94
    exact L10_lb4 hK hD hTP hG hf b2 h0 e20 e31 e32 e21 hF2
  · have e9 : linR K R = (refC K (nI 3) R.1, R.2) := lin_f h0 (by decide) (by rw [e9]; exact if_neg hf)
    rw [e9]
    refine J_aload_n (pc := 0) D10_line_0 rfl ?_
    refine J_getf (pc := 1) D10_line_1 fl10_158 rfl rfl ?_
    refine J_if_ne (pc := 4) (tgt := 15) D10_line_4 (by decide) (fun h4 => absurd hl.1 h4) (fun h4 => ?_)
    refine J_aload_n (pc := 7) D10_line_7 rfl ?_
    refine J_getf (pc := 8) D10_line_8 fl10_168 rfl rfl ?_
    refine J_iconst (pc := 11) (v := (nI 5)) D10_line_11 (by decide) ?_
    refine J_icmp_le (pc := 12) (tgt := 21) D10_line_12 (by decide) (fun h12 => ?_) (fun h12 => absurd hl.2 h12)
    refine J_aload_n (pc := 21) D10_line_21 rfl ?_
    refine J_getf (pc := 22) D10_line_22 fl10_168 rfl rfl ?_
    rw [hva]
    refine J_istore_n (pc := 25) D10_line_25 rfl ?_
    refine J_aload_n (pc := 26) D10_line_26 rfl ?_
    refine J_iload_n (pc := 27) D10_line_27 rfl ?_
    refine J_callVTR (pc := 28) (ac := [.int _]) D10_line_28 m10_isFull_v t1473 (c10_isFull4 (d := D - 3)) (by omega) rfl rfl rfl rfl (fun _ => rfl) rfl rfl rfl ?_
    refine J_if_eq (pc := 31) (tgt := 42) D10_line_31 (by decide) (fun h31 => ?_) (fun h31 => absurd (i01_f (fun q => q)) h31)
    refine J_iload_n (pc := 42) D10_line_42 rfl ?_
    refine J_iconst (pc := 43) (v := (nI 3)) D10_line_43 (by decide) ?_
    refine J_icmp_eq (pc := 44) (tgt := 52) D10_line_44 (by decide) (fun h44 => absurd h44 (by decide)) (fun h44 => ?_)
    refine J_iload_n (pc := 47) D10_line_47 rfl ?_
    refine J_iconst (pc := 48) (v := (nI 4)) D10_line_48 (by decide) ?_
    refine J_icmp_ne (pc := 49) (tgt := 69) D10_line_49 (by decide) (fun h49 => absurd rfl h49) (fun h49 => ?_)
    refine J_aload_n (pc := 52) D10_line_52 rfl ?_
    refine J_getf (pc := 53) D10_line_53 fl10_222 rfl rfl ?_
    refine J_iload_n (pc := 56) D10_line_56 rfl ?_
    refine J_ishr (pc := 57) D10_line_57 ?_
    refine J_iconst (pc := 58) (v := (nI 1)) D10_line_58 (by decide) ?_
    refine J_iand (pc := 59) D10_line_59 ?_
    refine J_iconst (pc := 60) (v := (nI 1)) D10_line_60 (by decide) ?_
    refine J_icmp_ne (pc := 61) (tgt := 69) D10_line_61 (by decide) (fun h61 => absurd (hb_1.mpr (hG.2.2.2.2.1.2.1.mpr hf)) h61) (fun h61 => ?_)
    refine J_aload_n (pc := 64) D10_line_64 rfl ?_
    refine J_iconst (pc := 65) (v := (nI 3)) D10_line_65 (by decide) ?_
    refine J_callVT (pc := 66) (ac := [.int _]) D10_line_66 m10_wrong_v t1469 (c10_wrong (d := D - 2) (C := R.1) h (by decide)) (by omega) rfl rfl rfl rfl rfl rfl rfl (fun r w' hq hl => ?_)
    obtain ⟨rfl, s1, rfl, a1, b1⟩ := hq
    refine J_aload_n (pc := 69) D10_line_69 rfl ?_
    refine J_getf (pc := 70) D10_line_70 fl10_193 rfl rfl ?_
    rw [b1.1]
    refine J_if_eq (pc := 73) (tgt := 77) D10_line_73 (by decide) (fun h73 => absurd h73 (ref_nz h0 (by decide))) (fun h73 => ?_)
    refine J_vret (pc := 76) D10_line_76 rfl ?_
    exact ⟨rfl, s1, A, rfl, FLn.fs a1, b1, fun q => absurd q (ref_nz h0 (by decide))⟩
theorem needR_1 {K : TK} {R : RS} (hf : nnR R < 8) : (needR K R).1 = numC K (numV K (nI 0) (nI 199) (numC K (nI 0) (nI 99) (perC K (wkI (plL (arR R 1) (K.2.2.2.2.2 (stepC K R.1).1) (npR R) 0)) (-1) (stepC K R.1)))) (nI 199) (numC K (nI 0) (nI 199) (numC K (nI 0) (nI 99) (perC K (wkI (plL (arR R 1) (K.2.2.2.2.2 (stepC K R.1).1) (npR R) 0)) (-1) (stepC K R.1)))) := by
  rw [show needR K R = needR1 K R from if_pos hf]
  unfold needR1
  dsimp only
theorem needR_2 {K : TK} {R : RS} (hf : nnR R < 8) {v1 v2 v3 v4 : Int32} (h1 : v1 = perV K (wkI (plL (arR R 1) (K.2.2.2.2.2 (stepC K R.1).1) (npR R) 0)) (-1) (stepC K R.1)) (h2 : v2 = numV K (nI 0) (nI 99) (perC K (wkI (plL (arR R 1) (K.2.2.2.2.2 (stepC K R.1).1) (npR R) 0)) (-1) (stepC K R.1))) (h3 : v3 = numV K (nI 0) (nI 199) (numC K (nI 0) (nI 99) (perC K (wkI (plL (arR R 1) (K.2.2.2.2.2 (stepC K R.1).1) (npR R) 0)) (-1) (stepC K R.1)))) (h4 : v4 = numV K v3 (nI 199) (numC K (nI 0) (nI 199) (numC K (nI 0) (nI 99) (perC K (wkI (plL (arR R 1) (K.2.2.2.2.2 (stepC K R.1).1) (npR R) 0)) (-1) (stepC K R.1))))) : (needR K R).2 = (R.2.1, (npR R, nbR R, nnR R + 1), R.2.2.2.1, R.2.2.2.2.1, upA (upA (upA (upA (arR R) 11 (upd (arR R 11) (nnR R) v1)) 12 (upd (arR R 12) (nnR R) v2)) 13 (upd (arR R 13) (nnR R) v3)) 14 (upd (arR R 14) (nnR R) v4), lawA R) := by
  rw [show needR K R = needR1 K R from if_pos hf, h4, h3, h2, h1]
  unfold needR1
  dsimp only
theorem L10_lb2 {K : TK} {L cnt : Nat} (hK : KT K L cnt) {L0 : LL} {M : Nat → MR} {D : Nat} {s s2 : Nat → Int32} {A : Nat → Nat → Int32} {R : RS} (hD : 140 ≤ D) (hTP : TP K.2.2.1 (A 1) L) (hG : GIv s A R) (hf : nnR R < 8) (b2 : CRl K L cnt s2 (stepC K R.1)) (h0 : R.1.2.1 = 0) (e20 : s2 20 = s 20 ||| bt 2) (e31 : s2 31 = s 31) (e32 : s2 32 = s 32) (e21 : s2 21 = s 21) (hF2 : FLn s A s2 A) : J m10_line D 0 0 40 199 [(0, .ref 0), (1, .int (nI 2))] [] (modW s2 A L0 M) 0 0 (lnQ K L cnt L0 M s A (paC K (nI 31) (needR K R))) := by
  have e6 : A 3 6 = nI (npR R) := hG.1.1
  have e7 : A 3 7 = nI (nbR R) := hG.1.2.1
  have e8 : A 3 8 = nI (nnR R) := hG.1.2.2.1
  have hnp : npR R ≤ 5 := hG.2.1.2.2.2.1
  have hnb : nbR R ≤ 10 := hG.2.1.2.2.2.2.1
  have hnn : nnR R ≤ 8 := hG.2.1.2.2.2.2.2.1
  refine J_bipush (pc := 199) (v := (nI 8)) D10_line_199 (by decide) ?_
  refine J_aload_n (pc := 201) D10_line_201 rfl ?_
  refine J_iconst (pc := 202) (v := (nI 2)) D10_line_202 (by decide) ?_
  refine J_callVTR (pc := 203) (ac := [.int _]) D10_line_203 m10_fresher_v t1477 (c10_fresher (d := D - 2) (k := 2) (by decide)) (by omega) rfl rfl rfl rfl (fun _ => rfl) rfl rfl rfl ?_
  rw [show A 3 (6 + 2) = nI (nnR R) from e8]
  refine J_iadd (pc := 206) D10_line_206 ?_
  refine J_st [.int (nI (8 + nnR R))] (by rw [nI_add]) ?_
  refine J_istore_n (pc := 207) D10_line_207 rfl ?_
  refine J_aload_n (pc := 208) D10_line_208 rfl ?_
  refine J_getf (pc := 209) D10_line_209 fl10_40 rfl rfl ?_
  refine J_iload_n (pc := 212) D10_line_212 rfl ?_
  refine J_aload_n (pc := 213) D10_line_213 rfl ?_
  refine J_callVT (pc := 214) (ac := []) D10_line_214 m10_manAhead_v t1496 (c10_manAhead (d := D - 8) hK hTP b2 hnp e6 (f := arR R 1) (fun i hi => (hG.1.2.2.2.2.2.2.1 i hi).1)) (by omega) rfl rfl rfl rfl rfl rfl rfl (fun r w' hq hl => ?_)
  obtain ⟨v3, s3, hr, rfl, a3, b3, c3⟩ := hq
  cases hr
  have eP : (perC K (wkI (plL (arR R 1) (K.2.2.2.2.2 (stepC K R.1).1) (npR R) 0)) (-1) (stepC K R.1)) = goC K (hanC K (wkI (plL (arR R 1) (K.2.2.2.2.2 (stepC K R.1).1) (npR R) 0)) (stepC K R.1)) := perC_e (fun _ _ q => q)
  rw [← eP] at b3
  refine J_mast (pc := 217) D10_line_217 ma_12 rfl (by omega) rfl ?_
  generalize hA1 : upA A 12 (upd (A 12) (8 + nnR R) v3) = A1
  have hTP1 : TP K.2.2.1 (A1 1) L := by rw [← hA1]; exact hTP
  refine J_aload_n (pc := 218) D10_line_218 rfl ?_
  refine J_getf (pc := 219) D10_line_219 fl10_43 rfl rfl ?_
  refine J_iload_n (pc := 222) D10_line_222 rfl ?_
  refine J_aload_n (pc := 223) D10_line_223 rfl ?_
  refine J_iconst (pc := 224) (v := (nI 0)) D10_line_224 (by decide) ?_
  refine J_bipush (pc := 225) (v := (nI 99)) D10_line_225 (by decide) ?_
  refine J_callVT (pc := 227) (ac := [.int _, .int _]) D10_line_227 m10_numeral_v t1488 (c10_numeral (d := D - 8) (A := A1) hK hTP1 b3 (lo := nI 0) (b := 99) (C := (perC K (wkI (plL (arR R 1) (K.2.2.2.2.2 (stepC K R.1).1) (npR R) 0)) (-1) (stepC K R.1))) (fun _ => ⟨0, by decide, rfl⟩) (by decide)) (by omega) rfl rfl rfl rfl rfl rfl rfl (fun r w' hq hl => ?_)
  obtain ⟨v4, s4, hr, rfl, a4, b4, c4⟩ := hq
  cases hr
  refine J_mast (pc := 230) D10_line_230 ma_13 rfl (by omega) rfl ?_
  generalize hA2 : upA A1 13 (upd (A1 13) (8 + nnR R) v4) = A2
  have hTP2 : TP K.2.2.1 (A2 1) L := by rw [← hA2]; exact hTP1
  refine J_aload_n (pc := 231) D10_line_231 rfl ?_
  refine J_getf (pc := 232) D10_line_232 fl10_46 rfl rfl ?_
  refine J_iload_n (pc := 235) D10_line_235 rfl ?_
  refine J_aload_n (pc := 236) D10_line_236 rfl ?_
  refine J_iconst (pc := 237) (v := (nI 0)) D10_line_237 (by decide) ?_
  refine J_sipush (pc := 238) (v := (nI 199)) D10_line_238 (by decide) ?_
  refine J_callVT (pc := 241) (ac := [.int _, .int _]) D10_line_241 m10_numeral_v t1488 (c10_numeral (d := D - 8) (A := A2) hK hTP2 b4 (lo := nI 0) (b := 199) (C := (numC K (nI 0) (nI 99) (perC K (wkI (plL (arR R 1) (K.2.2.2.2.2 (stepC K R.1).1) (npR R) 0)) (-1) (stepC K R.1)))) (fun _ => ⟨0, by decide, rfl⟩) (by decide)) (by omega) rfl rfl rfl rfl rfl rfl rfl (fun r w' hq hl => ?_)
  obtain ⟨v5, s5, hr, rfl, a5, b5, c5⟩ := hq
  cases hr
  refine J_mast (pc := 244) D10_line_244 ma_14 rfl (by omega) rfl ?_
  generalize hA3 : upA A2 14 (upd (A2 14) (8 + nnR R) v5) = A3
  have hTP3 : TP K.2.2.1 (A3 1) L := by rw [← hA3]; exact hTP2
  refine J_aload_n (pc := 245) D10_line_245 rfl ?_
  refine J_getf (pc := 246) D10_line_246 fl10_49 rfl rfl ?_
  refine J_iload_n (pc := 249) D10_line_249 rfl ?_
  refine J_aload_n (pc := 250) D10_line_250 rfl ?_
  refine J_aload_n (pc := 251) D10_line_251 rfl ?_
  refine J_getf (pc := 252) D10_line_252 fl10_193 rfl rfl ?_
  rw [b5.1]
  refine J_if_ne (pc := 255) (tgt := 267) D10_line_255 (by decide) (fun h255 => ?_) (fun h255 => ?_)
  · refine J_iconst (pc := 267) (v := (nI 0)) D10_line_267 (by decide) ?_
    refine J_sipush (pc := 268) (v := (nI 199)) D10_line_268 (by decide) ?_
    refine J_callVT (pc := 271) (ac := [.int _, .int _]) D10_line_271 m10_numeral_v t1488 (c10_numeral (d := D - 8) (A := A3) hK hTP3 b5 (lo := nI 0) (b := 199) (C := (numC K (nI 0) (nI 199) (numC K (nI 0) (nI 99) (perC K (wkI (plL (arR R 1) (K.2.2.2.2.2 (stepC K R.1).1) (npR R) 0)) (-1) (stepC K R.1))))) (fun _ => ⟨0, by decide, rfl⟩) (by decide)) (by omega) rfl rfl rfl rfl rfl rfl rfl (fun r w' hq hl => ?_)
    obtain ⟨v6, s6, hr, rfl, a6, b6, c6⟩ := hq
    cases hr
    rw [numC_f h255] at b6
    refine J_mast (pc := 274) D10_line_274 ma_15 rfl (by omega) rfl ?_
    generalize hA4 : upA A3 15 (upd (A3 15) (8 + nnR R) v6) = A4
    refine J_aload_n (pc := 275) D10_line_275 rfl ?_
    refine J_iconst (pc := 276) (v := (nI 2)) D10_line_276 (by decide) ?_
    refine J_aload_n (pc := 277) D10_line_277 rfl ?_
    refine J_iconst (pc := 278) (v := (nI 2)) D10_line_278 (by decide) ?_
    refine J_callVTR (pc := 279) (ac := [.int _]) D10_line_279 m10_fresher_v t1477 (c10_fresher (d := D - 2) (k := 2) (by decide)) (by omega) rfl rfl rfl rfl (fun _ => rfl) rfl rfl rfl ?_
    rw [show A4 3 (6 + 2) = nI (nnR R) from by rw [← hA4, ← hA3, ← hA2, ← hA1]; exact e8]
    refine J_iconst (pc := 282) (v := (nI 1)) D10_line_282 (by decide) ?_
    refine J_iadd (pc := 283) D10_line_283 ?_
    rw [nI_add]
    refine J_callVT (pc := 284) (ac := [.int _, .int _]) D10_line_284 m10_reads_v t1431 (c10_reads (d := D - 2) (k := 2) (by decide)) (by omega) rfl rfl rfl rfl rfl rfl rfl (fun r w' hq hl => ?_)
    obtain ⟨rfl, rfl⟩ := hq
    refine J_goto (pc := 287) (tgt := 324) D10_line_287 (by decide) ?_
    refine J_lk [(0, .ref 0)] rfl ?_
    have hFF : FLn s A s6 (upA A4 3 (upd (A4 3) (6 + 2) (nI (nnR R + 1)))) := by
      refine hF2.tr ((FLn.fs a3).tr (FLn.tr (FLn.up (k := 12) (j := 8 + nnR R) (x := v3) (by decide) (by show 8 ≤ 8 + nnR R; omega)) ?_))
      rw [hA1]
      refine (FLn.fs a4).tr (FLn.tr (FLn.up (k := 13) (j := 8 + nnR R) (x := v4) (by decide) (by show 8 ≤ 8 + nnR R; omega)) ?_)
      rw [hA2]
      refine (FLn.fs a5).tr (FLn.tr (FLn.up (k := 14) (j := 8 + nnR R) (x := v5) (by decide) (by show 8 ≤ 8 + nnR R; omega)) ?_)
      rw [hA3]
      refine (FLn.fs a6).tr (FLn.tr (FLn.up (k := 15) (j := 8 + nnR R) (x := v6) (by decide) (by show 8 ≤ 8 + nnR R; omega)) ?_)
      rw [hA4]
      exact FLn.up (k := 3) (by decide) (by show 6 ≤ 6 + 2; omega)
    have e21' : s6 21 = s 21 := (a6 21 (by decide)).trans ((a5 21 (by decide)).trans ((a4 21 (by decide)).trans ((a3 21 (by decide)).trans e21)))
    have eM : (needR K R).1 = numC K (numV K (nI 0) (nI 199) (numC K (nI 0) (nI 99) (perC K (wkI (plL (arR R 1) (K.2.2.2.2.2 (stepC K R.1).1) (npR R) 0)) (-1) (stepC K R.1)))) (nI 199) (numC K (nI 0) (nI 199) (numC K (nI 0) (nI 99) (perC K (wkI (plL (arR R 1) (K.2.2.2.2.2 (stepC K R.1).1) (npR R) 0)) (-1) (stepC K R.1)))) := needR_1 hf
    refine L10_ln324 hK (by omega) hFF (hFF.tp hTP) e21' (by rw [eM, numC_f h255]; exact b6) (fun q => ?_)
    rw [eM, numC_f h255] at q
    exact absurd q h255
  · have h255' := eq_true h255
    refine J_aload_n (pc := 258) D10_line_258 rfl ?_
    refine J_getf (pc := 259) D10_line_259 fl10_46 rfl rfl ?_
    refine J_iload_n (pc := 262) D10_line_262 rfl ?_
    refine J_mald (pc := 263) D10_line_263 ma_14 rfl (by omega) rfl ?_
    rw [show A3 14 (8 + nnR R) = v5 from by rw [← hA3, upA_s, pk_us]]
    refine J_goto (pc := 264) (tgt := 268) D10_line_264 (by decide) ?_
    refine J_sipush (pc := 268) (v := (nI 199)) D10_line_268 (by decide) ?_
    refine J_callVT (pc := 271) (ac := [.int _, .int _]) D10_line_271 m10_numeral_v t1488 (c10_numeral (d := D - 8) (A := A3) hK hTP3 b5 (lo := v5) (b := 199) (C := (numC K (nI 0) (nI 199) (numC K (nI 0) (nI 99) (perC K (wkI (plL (arR R 1) (K.2.2.2.2.2 (stepC K R.1).1) (npR R) 0)) (-1) (stepC K R.1))))) (fun _ => by obtain ⟨x, -, hx, ex⟩ := n_in (by decide) (by decide) (c5 h255).2; exact ⟨x, by omega, ex⟩) (by decide)) (by omega) rfl rfl rfl rfl rfl rfl rfl (fun r w' hq hl => ?_)
    obtain ⟨v6, s6, hr, rfl, a6, b6, c6⟩ := hq
    cases hr
    refine J_mast (pc := 274) D10_line_274 ma_15 rfl (by omega) rfl ?_
    generalize hA4 : upA A3 15 (upd (A3 15) (8 + nnR R) v6) = A4
    refine J_aload_n (pc := 275) D10_line_275 rfl ?_
    refine J_iconst (pc := 276) (v := (nI 2)) D10_line_276 (by decide) ?_
    refine J_aload_n (pc := 277) D10_line_277 rfl ?_
    refine J_iconst (pc := 278) (v := (nI 2)) D10_line_278 (by decide) ?_
    refine J_callVTR (pc := 279) (ac := [.int _]) D10_line_279 m10_fresher_v t1477 (c10_fresher (d := D - 2) (k := 2) (by decide)) (by omega) rfl rfl rfl rfl (fun _ => rfl) rfl rfl rfl ?_
    rw [show A4 3 (6 + 2) = nI (nnR R) from by rw [← hA4, ← hA3, ← hA2, ← hA1]; exact e8]
    refine J_iconst (pc := 282) (v := (nI 1)) D10_line_282 (by decide) ?_
    refine J_iadd (pc := 283) D10_line_283 ?_
    rw [nI_add]
    refine J_callVT (pc := 284) (ac := [.int _, .int _]) D10_line_284 m10_reads_v t1431 (c10_reads (d := D - 2) (k := 2) (by decide)) (by omega) rfl rfl rfl rfl rfl rfl rfl (fun r w' hq hl => ?_)
    obtain ⟨rfl, rfl⟩ := hq
    refine J_goto (pc := 287) (tgt := 324) D10_line_287 (by decide) ?_
    refine J_lk [(0, .ref 0)] rfl ?_
    have hFF : FLn s A s6 (upA A4 3 (upd (A4 3) (6 + 2) (nI (nnR R + 1)))) := by
      refine hF2.tr ((FLn.fs a3).tr (FLn.tr (FLn.up (k := 12) (j := 8 + nnR R) (x := v3) (by decide) (by show 8 ≤ 8 + nnR R; omega)) ?_))
      rw [hA1]
      refine (FLn.fs a4).tr (FLn.tr (FLn.up (k := 13) (j := 8 + nnR R) (x := v4) (by decide) (by show 8 ≤ 8 + nnR R; omega)) ?_)
      rw [hA2]
      refine (FLn.fs a5).tr (FLn.tr (FLn.up (k := 14) (j := 8 + nnR R) (x := v5) (by decide) (by show 8 ≤ 8 + nnR R; omega)) ?_)
      rw [hA3]
      refine (FLn.fs a6).tr (FLn.tr (FLn.up (k := 15) (j := 8 + nnR R) (x := v6) (by decide) (by show 8 ≤ 8 + nnR R; omega)) ?_)
      rw [hA4]
      exact FLn.up (k := 3) (by decide) (by show 6 ≤ 6 + 2; omega)
    have e21' : s6 21 = s 21 := (a6 21 (by decide)).trans ((a5 21 (by decide)).trans ((a4 21 (by decide)).trans ((a3 21 (by decide)).trans e21)))
    have eM : (needR K R).1 = numC K (numV K (nI 0) (nI 199) (numC K (nI 0) (nI 99) (perC K (wkI (plL (arR R 1) (K.2.2.2.2.2 (stepC K R.1).1) (npR R) 0)) (-1) (stepC K R.1)))) (nI 199) (numC K (nI 0) (nI 199) (numC K (nI 0) (nI 99) (perC K (wkI (plL (arR R 1) (K.2.2.2.2.2 (stepC K R.1).1) (npR R) 0)) (-1) (stepC K R.1)))) := needR_1 hf
    have ev5 := (c5 h255).1
    have q3 := numC_0 h255
    have q2 := numC_0 q3
    have ev4 := (c4 q3).1
    obtain ⟨x4, -, hx4, ex4⟩ := n_in (by decide) (by decide) (c4 q3).2
    have hq2 : (goC K (hanC K (wkI (plL (arR R 1) (K.2.2.2.2.2 (stepC K R.1).1) (npR R) 0)) (stepC K R.1))).2.1 = 0 := by rw [← eP]; exact q2
    have ev3 := c3 hq2
    have hh := han_0 (by rw [goC_f] at hq2; exact hq2)
    obtain ⟨p, hp, ep⟩ := wk_in hh.2.2.2
    have ew : perV K (wkI (plL (arR R 1) (K.2.2.2.2.2 (stepC K R.1).1) (npR R) 0)) (-1) (stepC K R.1) = v3 := by unfold perV; rw [if_pos q2, ev3]
    refine L10_ln324 hK (by omega) hFF (hFF.tp hTP) e21' (by rw [eM, ← ev5]; exact b6) (fun q => ?_)
    rw [eM, ← ev5] at q
    have ev6 := (c6 q).1
    subst hA4
    subst hA3
    subst hA2
    subst hA1
    refine hG.ned (v1 := v3) (v2 := v4) (v3 := v5) (v4 := v6) hf ?_ rfl rfl rfl rfl rfl (fun k a b => by rw [upA_n a, upA_n (by omega), upA_n (by omega), upA_n (by omega), upA_n (by omega)]) ⟨p, hp, by rw [ev3]; exact ep⟩ ⟨x4, hx4, ex4⟩ ((a6 20 (by decide)).trans ((a5 20 (by decide)).trans ((a4 20 (by decide)).trans ((a3 20 (by decide)).trans e20)))) ((a6 31 (by decide)).trans ((a5 31 (by decide)).trans ((a4 31 (by decide)).trans ((a3 31 (by decide)).trans e31)))) ((a6 32 (by decide)).trans ((a5 32 (by decide)).trans ((a4 32 (by decide)).trans ((a3 32 (by decide)).trans e32))))
    exact needR_2 hf ew.symm ev4 ev5 ev6
theorem L10_ln2 {K : TK} {L cnt : Nat} (hK : KT K L cnt) {L0 : LL} {M : Nat → MR} {D : Nat} {s : Nat → Int32} {A : Nat → Nat → Int32} {R : RS} (hD : 140 ≤ D) (hTP : TP K.2.2.1 (A 1) L) (h : CRl K L cnt s R.1) (h0 : R.1.2.1 = 0) (hG : GIv s A R) (hk : kdR K R = nI 2) : J m10_line D 0 0 40 0 [(0, .ref 0)] [] (modW s A L0 M) 0 0 (lnQ K L cnt L0 M s A (linR K R)) := by
  have kvr := (h.2.2 h0).2.2.2.1
  have h27 : s 27 = 0 := by rw [h.1]; exact h0
  have hl := (kv_lin kvr).mpr (Or.inr (Or.inr (Or.inl hk)))
  have hva : s 26 = nI 2 := (kv_w8 kvr ⟨2, by decide, hk⟩).trans hk
  have e6 : A 3 6 = nI (npR R) := hG.1.1
  have e7 : A 3 7 = nI (nbR R) := hG.1.2.1
  have e8 : A 3 8 = nI (nnR R) := hG.1.2.2.1
  have hnp : npR R ≤ 5 := hG.2.1.2.2.2.1
  have hnb : nbR R ≤ 10 := hG.2.1.2.2.2.2.1
  have hnn : nnR R ≤ 8 := hG.2.1.2.2.2.2.2.1
  have e9 : linR1 K R = needR K R := by
    unfold linR1
    rw [if_neg (fun q => by rw [show K.2.2.2.1 R.1.1 = nI 2 from hk] at q; exact absurd q (by decide)), if_neg (fun q => by rw [show K.2.2.2.1 R.1.1 = nI 2 from hk] at q; exact absurd q (by decide)), if_pos hk]
  by_cases hf : nnR R < 8
  · have e9 : linR K R = paC K (nI 31) (needR K R) := by unfold linR; rw [e9]
    rw [e9]
    refine J_aload_n (pc := 0) D10_line_0 rfl ?_
    refine J_getf (pc := 1) D10_line_1 fl10_158 rfl rfl ?_
    refine J_if_ne (pc := 4) (tgt := 15) D10_line_4 (by decide) (fun h4 => absurd hl.1 h4) (fun h4 => ?_)
    refine J_aload_n (pc := 7) D10_line_7 rfl ?_
    refine J_getf (pc := 8) D10_line_8 fl10_168 rfl rfl ?_
    refine J_iconst (pc := 11) (v := (nI 5)) D10_line_11 (by decide) ?_
    refine J_icmp_le (pc := 12) (tgt := 21) D10_line_12 (by decide) (fun h12 => ?_) (fun h12 => absurd hl.2 h12)
    refine J_aload_n (pc := 21) D10_line_21 rfl ?_
    refine J_getf (pc := 22) D10_line_22 fl10_168 rfl rfl ?_
    rw [hva]
    refine J_istore_n (pc := 25) D10_line_25 rfl ?_
    refine J_aload_n (pc := 26) D10_line_26 rfl ?_
    refine J_iload_n (pc := 27) D10_line_27 rfl ?_
    refine J_callVTR (pc := 28) (ac := [.int _]) D10_line_28 m10_isFull_v t1473 (c10_isFull2 (d := D - 3)) (by omega) rfl rfl rfl rfl (fun _ => rfl) rfl rfl rfl ?_
    refine J_if_eq (pc := 31) (tgt := 42) D10_line_31 (by decide) (fun h31 => ?_) (fun h31 => absurd (i01_f (fun q => absurd (nI_eqI (by omega) (by decide) ((show A 3 8 = _ from e8).symm.trans q)) (by omega))) h31)
    refine J_iload_n (pc := 42) D10_line_42 rfl ?_
    refine J_iconst (pc := 43) (v := (nI 3)) D10_line_43 (by decide) ?_
    refine J_icmp_eq (pc := 44) (tgt := 52) D10_line_44 (by decide) (fun h44 => absurd h44 (by decide)) (fun h44 => ?_)
    refine J_iload_n (pc := 47) D10_line_47 rfl ?_
    refine J_iconst (pc := 48) (v := (nI 4)) D10_line_48 (by decide) ?_
    refine J_icmp_ne (pc := 49) (tgt := 69) D10_line_49 (by decide) (fun h49 => ?_) (fun h49 => absurd h49 (by decide))
    refine J_aload_n (pc := 69) D10_line_69 rfl ?_
    refine J_getf (pc := 70) D10_line_70 fl10_193 rfl rfl ?_
    rw [h27]
    refine J_if_eq (pc := 73) (tgt := 77) D10_line_73 (by decide) (fun h73 => ?_) (fun h73 => absurd rfl h73)
    refine J_aload_n (pc := 77) D10_line_77 rfl ?_
    refine J_dup (pc := 78) D10_line_78 rfl ?_
    refine J_getf (pc := 79) D10_line_79 fl10_222 rfl rfl ?_
    refine J_iconst (pc := 82) (v := (nI 1)) D10_line_82 (by decide) ?_
    refine J_iload_n (pc := 83) D10_line_83 rfl ?_
    refine J_ishl (pc := 84) D10_line_84 ?_
    refine J_ior (pc := 85) D10_line_85 ?_
    refine J_mput (pc := 86) D10_line_86 fp10_222 ms_20 ?_
    refine J_aload_n (pc := 89) D10_line_89 rfl ?_
    refine J_callVT (pc := 90) (ac := []) D10_line_90 m10_token_v t1435 (tokC_l (d := D - 7) (C := R.1) hK hTP (s := updI s 20 (s 20 ||| bt 2)) (h.c (fun k _ _ => updI_n (by omega))) h0) (by omega) rfl rfl rfl rfl rfl rfl rfl (fun r w' hq hl => ?_)
    obtain ⟨rfl, s2, rfl, a2, b2⟩ := hq
    have e20 : s2 20 = s 20 ||| bt 2 := (a2 20 (by decide)).trans updI_s
    have hF2 : FLn s A s2 A := (FLn.s21 (Or.inl rfl)).tr (FLn.fs a2)
    have e31 : s2 31 = s 31 := (a2 31 (by decide)).trans (updI_n (by decide))
    have e32 : s2 32 = s 32 := (a2 32 (by decide)).trans (updI_n (by decide))
    have e21 : s2 21 = s 21 := (a2 21 (by decide)).trans (updI_n (by decide))
    refine J_iload_n (pc := 93) D10_line_93 rfl ?_
    refine J_tsw (pc := 94) 0 [128, 184, 199, 290, 305] 320 D10_line_94 (by decide) (by decide) rfl (by decide) (by decide) (fun j9 hj9 h94 => ?_) (fun h94 => absurd rfl (h94 2 (by decide)))
    have hj5 : j9 < 5 := hj9
    have ej := nI_eqI (by decide) (by omega) h94
    obtain rfl : j9 = 2 := by omega
    clear hj9 hj5 ej h94
    exact L10_lb2 hK hD hTP hG hf b2 h0 e20 e31 e32 e21 hF2
  · have e9 : linR K R = (refC K (nI 2) R.1, R.2) := lin_f h0 (by decide) (by rw [e9]; exact if_neg hf)
    rw [e9]
    refine J_aload_n (pc := 0) D10_line_0 rfl ?_
    refine J_getf (pc := 1) D10_line_1 fl10_158 rfl rfl ?_
    refine J_if_ne (pc := 4) (tgt := 15) D10_line_4 (by decide) (fun h4 => absurd hl.1 h4) (fun h4 => ?_)
    refine J_aload_n (pc := 7) D10_line_7 rfl ?_
    refine J_getf (pc := 8) D10_line_8 fl10_168 rfl rfl ?_
    refine J_iconst (pc := 11) (v := (nI 5)) D10_line_11 (by decide) ?_
    refine J_icmp_le (pc := 12) (tgt := 21) D10_line_12 (by decide) (fun h12 => ?_) (fun h12 => absurd hl.2 h12)
    refine J_aload_n (pc := 21) D10_line_21 rfl ?_
    refine J_getf (pc := 22) D10_line_22 fl10_168 rfl rfl ?_
    rw [hva]
    refine J_istore_n (pc := 25) D10_line_25 rfl ?_
    refine J_aload_n (pc := 26) D10_line_26 rfl ?_
    refine J_iload_n (pc := 27) D10_line_27 rfl ?_
    refine J_callVTR (pc := 28) (ac := [.int _]) D10_line_28 m10_isFull_v t1473 (c10_isFull2 (d := D - 3)) (by omega) rfl rfl rfl rfl (fun _ => rfl) rfl rfl rfl ?_
    refine J_if_eq (pc := 31) (tgt := 42) D10_line_31 (by decide) (fun h31 => absurd h31 (by rw [i01_t (show A 3 8 = nI 8 by rw [e8, show nnR R = 8 by omega])]; decide)) (fun h31 => ?_)
    refine J_aload_n (pc := 34) D10_line_34 rfl ?_
    refine J_iconst (pc := 35) (v := (nI 2)) D10_line_35 (by decide) ?_
    refine J_callVT (pc := 36) (ac := [.int _]) D10_line_36 m10_wrong_v t1469 (c10_wrong (d := D - 2) (C := R.1) h (by decide)) (by omega) rfl rfl rfl rfl rfl rfl rfl (fun r w' hq hl => ?_)
    obtain ⟨rfl, s1, rfl, a1, b1⟩ := hq
    refine J_goto (pc := 39) (tgt := 69) D10_line_39 (by decide) ?_
    refine J_aload_n (pc := 69) D10_line_69 rfl ?_
    refine J_getf (pc := 70) D10_line_70 fl10_193 rfl rfl ?_
    rw [b1.1]
    refine J_if_eq (pc := 73) (tgt := 77) D10_line_73 (by decide) (fun h73 => absurd h73 (ref_nz h0 (by decide))) (fun h73 => ?_)
    refine J_vret (pc := 76) D10_line_76 rfl ?_
    exact ⟨rfl, s1, A, rfl, FLn.fs a1, b1, fun q => absurd q (ref_nz h0 (by decide))⟩
