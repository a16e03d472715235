/-! TEMPERCELLAR: chance, tried, go (own; walks by program wk.py) -/
def lsV (V : CV) (l : Int64) : CV := (V.1, l, V.2.2)
def chaL (T : TV) (V : CV) (nb nn n : Nat) (of : Int32) : Nat → Int64 → Nat → Nat
  | 0, _, m => m
  | g + 1, l, m => chaL T V nb nn n of g (passN T y0 nb nn n (lsV V l)).2.1 (if of ≤ offN (passN T y0 nb nn n (lsV V l)) - offN V then m + 1 else m)
def chcF (T : TV) (V : CV) (nb nn : Nat) (sd n of : Int32) : Int32 := if 0 ≤ sd ∧ (nI 1 ≤ n ∧ n ≤ nI 99) ∧ ixB 11 of = true then nI (chaL T V nb nn n.toNatClampNeg of 10 sd.toInt64 0) else -1
theorem L9_chance {d np nb nn : Nat} {tl hi : Int32} {T : TV} {V : CV} (hT : WT T np nb nn) (hV : WV V nb) {n : Nat} {sd of : Int32} (hn : n < 100) : ∀ (g i m : Nat) (l : Int64) (S : SB), i + g = 10 → m ≤ i → J m9_chance (d + 7) 0 0 42 36 [(0, .ref 0), (1, .int sd), (2, .int (nI n)), (3, .int of), (4, .long l), (6, .int (nI m)), (7, .int (nI i))] [] (tcB tl hi T V S) 0 0 (fun r w' => r = some (.int (nI (chaL T V nb nn n of g l m))) ∧ ∃ S', w' = tcB tl hi T V S') := by
  intro g
  induction g with
  | zero =>
    intro i m l S hi1 hm
    refine J_iload (pc := 36) D9_chance_36 rfl ?_
    refine J_bipush (pc := 38) (v := (nI 10)) D9_chance_38 (by decide) ?_
    refine J_icmp_ge (pc := 40) (tgt := 91) D9_chance_40 (by decide) (fun h40 => ?_) (fun h40 => absurd (nI_le (by omega) (by omega)) h40)
    refine J_iload (pc := 91) D9_chance_91 rfl ?_
    refine J_iret (pc := 93) D9_chance_93 rfl ?_
    exact ⟨rfl, _, rfl⟩
  | succ g ih =>
    intro i m l S hi1 hm
    refine J_iload (pc := 36) D9_chance_36 rfl ?_
    refine J_bipush (pc := 38) (v := (nI 10)) D9_chance_38 (by decide) ?_
    refine J_icmp_ge (pc := 40) (tgt := 91) D9_chance_40 (by decide) (fun h40 => absurd h40 (nI_ge (by omega) (by omega))) (fun h40 => ?_)
    refine J_aload_n (pc := 43) D9_chance_43 rfl ?_
    refine J_iconst (pc := 44) (v := (nI 0)) D9_chance_44 (by decide) ?_
    refine J_callVT (pc := 45) (ac := [.int _]) D9_chance_45 m9_startTrial_v t883 (c9_startTrial (d := d + 4)) (by omega) rfl rfl rfl rfl rfl rfl rfl (fun r w' hq hl => ?_)
    obtain ⟨rfl, rfl⟩ := hq
    obtain ⟨q0, eq0⟩ : ∃ q, q = S.2.2.1 := ⟨_, rfl⟩
    obtain ⟨k0, ek0⟩ : ∃ q, q = S.2.2.2.1 := ⟨_, rfl⟩
    refine J_w (w2 := tcB tl hi T V (V, y0, q0, k0, 1, 29)) (by subst eq0 ek0; rfl) ?_
    refine J_aload_n (pc := 48) D9_chance_48 rfl ?_
    refine J_getf (pc := 49) D9_chance_49 fl9_53 rfl rfl ?_
    refine J_lload (pc := 52) D9_chance_52 rfl ?_
    refine J_putf (pc := 54) D9_chance_54 fp9_361 rfl Fit.long rfl ?_
    refine J_w (w2 := tcB tl hi T V (lsV V l, y0, q0, k0, 1, 29)) rfl ?_
    refine J_aload_n (pc := 57) D9_chance_57 rfl ?_
    refine J_getf (pc := 58) D9_chance_58 fl9_61 rfl rfl ?_
    refine J_iload_n (pc := 61) D9_chance_61 rfl ?_
    refine J_callVP (pc := 62) (ι := [39, 40, 41, 1, 2, 3, 4, 5, 6, 7, 8, 9, 10, 11, 12, 13, 14, 15, 16, 17, 18, 29, 30, 31, 32, 33, 34, 35, 36, 37, 38]) (ac := [.int _]) D9_chance_62 m8_pass_v t815 (c8_pass (d := d) (n := n) (y := y0) (q := q0) (k := k0) (T := T) (V := (lsV V l)) hT (show WV (lsV V l) nb from hV.of rfl) (by omega)) (by omega) rfl rfl ⟨rfl, rfl⟩ rfl rfl rfl rfl rfl (fun r w' hq hl => ?_)
    obtain ⟨rfl, q1, k1, rfl⟩ := hq
    refine ⟨tcB tl hi T V (passN T y0 nb nn n (lsV V l), y0, q1, k1, 1, 29), ⟨rfl, ⟨rfl, rfl⟩, rfl⟩, ?_⟩
    obtain ⟨X, eX⟩ : ∃ z9, passN T y0 nb nn n (lsV V l) = z9 := ⟨_, rfl⟩
    refine J_w (w2 := tcB tl hi T V (X, y0, q1, k1, 1, 29)) (by subst eX; rfl) ?_
    refine J_aload_n (pc := 65) D9_chance_65 rfl ?_
    refine J_getf (pc := 66) D9_chance_66 fl9_53 rfl rfl ?_
    refine J_getf (pc := 69) D9_chance_69 fl9_361 rfl rfl ?_
    refine J_lstore (pc := 72) D9_chance_72 rfl ?_
    refine J_aload_n (pc := 74) D9_chance_74 rfl ?_
    refine J_callVTR (pc := 75) (ac := []) D9_chance_75 m9_moreOff_v t892 (c9_moreOff (d := d + 4) (S := (X, y0, q1, k1, 1, 29))) (by omega) rfl rfl rfl rfl (fun _ => rfl) rfl rfl rfl ?_
    refine J_iload_n (pc := 78) D9_chance_78 rfl ?_
    refine J_icmp_lt (pc := 79) (tgt := 85) D9_chance_79 (by decide) (fun h79 => ?_) (fun h79 => ?_)
    · have h79' := Int32.not_le.mpr h79
      refine J_iinc (pc := 85) D9_chance_85 rfl (nI_inc _) rfl ?_
      refine J_goto (pc := 88) (tgt := 36) D9_chance_88 (by decide) ?_
      rw [chaL, eX, if_neg h79']
      refine J_lk [(0, .ref 0), (1, .int sd), (2, .int (nI n)), (3, .int of), (4, .long X.2.1), (6, .int (nI m)), (7, .int (nI (i + 1)))] rfl ?_
      exact ih (i + 1) m X.2.1 (X, y0, q1, k1, 1, 29) (by omega) (by omega)
    · have h79' := Int32.not_lt.mp h79
      refine J_iinc (pc := 82) D9_chance_82 rfl (nI_inc _) rfl ?_
      refine J_iinc (pc := 85) D9_chance_85 rfl (nI_inc _) rfl ?_
      refine J_goto (pc := 88) (tgt := 36) D9_chance_88 (by decide) ?_
      rw [chaL, eX, if_pos h79']
      refine J_lk [(0, .ref 0), (1, .int sd), (2, .int (nI n)), (3, .int of), (4, .long X.2.1), (6, .int (nI (m + 1))), (7, .int (nI (i + 1)))] rfl ?_
      exact ih (i + 1) (m + 1) X.2.1 (X, y0, q1, k1, 1, 29) (by omega) (by omega)
theorem c9_chance {d np nb nn : Nat} {tl hi : Int32} {T : TV} {V : CV} {S : SB} (hT : WT T np nb nn) (hV : WV V nb) {sd n of : Int32} : Tr (d + 7) 0 0 m9_chance [.ref 0, .int sd, .int n, .int of] (tcB tl hi T V S) (fun r w' => r = some (.int (chcF T V nb nn sd n of)) ∧ ∃ S', w' = tcB tl hi T V S') := by
  refine Tr.intro (by decide) rfl ?_
  refine J_iload_n (pc := 0) D9_chance_0 rfl ?_
  refine J_if_lt (pc := 1) (tgt := 24) D9_chance_1 (by decide) (fun h1 => ?_) (fun h1 => ?_)
  · have h1' := Int32.not_le.mpr h1
    refine J_iconst (pc := 24) (v := (-1)) D9_chance_24 (by decide) ?_
    refine J_iret (pc := 25) D9_chance_25 rfl ?_
    exact ⟨by rw [chcF, if_neg (fun q => absurd q.1 (Int32.not_le.mpr h1))], S, rfl⟩
  · have h1' := Int32.not_lt.mp h1
    refine J_iload_n (pc := 4) D9_chance_4 rfl ?_
    refine J_iconst (pc := 5) (v := (nI 1)) D9_chance_5 (by decide) ?_
    refine J_bipush (pc := 6) (v := (nI 99)) D9_chance_6 (by decide) ?_
    refine J_callSR (pc := 8) (ι := []) (ac := [.int _, .int _, .int _]) D9_chance_8 m9_isAmong_s t712 (c9_isAmong (d := d + 6)) (by omega) ⟨rfl, rfl⟩ rfl rfl (fun _ => rfl) rfl rfl rfl ?_
    refine J_if_eq (pc := 11) (tgt := 24) D9_chance_11 (by decide) (fun h11 => ?_) (fun h11 => ?_)
    · have h11' := eq_true h11
      replace h11 := i01_z h11
      refine J_iconst (pc := 24) (v := (-1)) D9_chance_24 (by decide) ?_
      refine J_iret (pc := 25) D9_chance_25 rfl ?_
      exact ⟨by rw [chcF, if_neg (fun q => h11 q.2.1)], S, rfl⟩
    · replace h11 := i01_nz h11
      refine J_iload_n (pc := 14) D9_chance_14 rfl ?_
      refine J_iconst (pc := 15) (v := (nI 0)) D9_chance_15 (by decide) ?_
      refine J_bipush (pc := 16) (v := (nI 10)) D9_chance_16 (by decide) ?_
      refine J_callSR (pc := 18) (ι := []) (ac := [.int _, .int _, .int _]) D9_chance_18 m9_isAmong_s t712 (c9_isAmong (d := d + 6)) (by omega) ⟨rfl, rfl⟩ rfl rfl (fun _ => rfl) rfl rfl rfl ?_
      refine J_st [.int (i01 (ixB 11 of = true))] (by rw [← ixB_m (n := 10) (by decide)]; try rfl) ?_
      refine J_if_ne (pc := 21) (tgt := 26) D9_chance_21 (by decide) (fun h21 => ?_) (fun h21 => ?_)
      · replace h21 := i01_nz h21
        refine J_iload_n (pc := 26) D9_chance_26 rfl ?_
        refine J_i2l (pc := 27) D9_chance_27 ?_
        refine J_lstore (pc := 28) D9_chance_28 rfl ?_
        refine J_iconst (pc := 30) (v := (nI 0)) D9_chance_30 (by decide) ?_
        refine J_istore (pc := 31) D9_chance_31 rfl ?_
        refine J_iconst (pc := 33) (v := (nI 0)) D9_chance_33 (by decide) ?_
        refine J_istore (pc := 34) D9_chance_34 rfl ?_
        obtain ⟨m, hm, rfl⟩ := nI_of2 (M := nI 99) (n := 99) rfl (Int32.not_lt.mpr (Int32.le_trans (show (0 : Int32) ≤ nI 1 by decide) h11.1)) h11.2
        rw [chcF, if_pos ⟨h1', h11, h21⟩, nI_clamp (by omega)]
        exact L9_chance hT hV (by omega) 10 0 0 sd.toInt64 S (by omega) (by omega)
      · have h21' := eq_true h21
        replace h21 := i01_z h21
        refine J_iconst (pc := 24) (v := (-1)) D9_chance_24 (by decide) ?_
        refine J_iret (pc := 25) D9_chance_25 rfl ?_
        exact ⟨by rw [chcF, if_neg (fun q => h21 q.2.2)], S, rfl⟩
def trY (x : Int32) : Int32 × Int32 × Int32 := (if x = nI 1 then nI 2 else nI 1, if x = nI 3 then nI 0 else nI 1, if x = nI 4 then nI 0 else nI 1)
def trM (V : CV) (x : Int32) (i : Nat) : CV := if x = nI 2 ∧ V.2.2.2 3 i = 0 then lvV V i (nI 3) else V
def trK (x : Int32) (V : CV) : CV := if x = nI 5 then (V.1, V.2.1, V.2.2.1, upA V.2.2.2 2 (fun _ => nI 9)) else V
def trG (nb : Nat) (x i n : Int32) : Bool := ixB 6 x && (ixB 100 n && (if x = nI 2 then ixB nb i else decide (i = 0)))
theorem trG_e {nb : Nat} {x i n : Int32} : trG nb x i n = true ↔ ixB 6 x = true ∧ ixB 100 n = true ∧ (if x = nI 2 then ixB nb i = true else i = 0) := by
  unfold trG
  rw [Bool.and_eq_true_iff, Bool.and_eq_true_iff]
  by_cases h : x = nI 2
  · rw [if_pos h, if_pos h]
  · rw [if_neg h, if_neg h, decide_eq_true_iff]
def triF (T : TV) (V : CV) (nb nn : Nat) (x i n : Int32) : Int32 := if trG nb x i n = true then offN (passN T (trY x) nb nn n.toNatClampNeg (trK x (trM V x i.toNatClampNeg))) - offN V else -1
theorem trM_V {V : CV} {nb i : Nat} {x : Int32} (h : WV V nb) : WV (trM V x i) nb := by
  unfold trM; split
  · exact h.of rfl
  · exact h
theorem trK_V {V : CV} {nb : Nat} {x : Int32} (h : WV V nb) : WV (trK x V) nb := by
  unfold trK; split
  · exact h.of rfl
  · exact h
theorem L9_tried97 {d np nb nn : Nat} {tl hi : Int32} {T : TV} {V : CV} (hT : WT T np nb nn) {X : CV} (hX : WV X nb) {n : Nat} {x i t : Int32} {q0 : Nat → Int32} {k0 : Nat → Int64} (hn : n < 100) (ht : t = (trY x).1) : J m9_tried (d + 7) 0 0 42 97 [(0, .ref 0), (1, .int x), (2, .int i), (3, .int (nI n))] [] (tcB tl hi T V (X, (t, nI 1, nI 1), q0, k0, 1, 29)) 0 0 (fun r w' => r = some (.int (offN (passN T (trY x) nb nn n X) - offN V)) ∧ ∃ S', w' = tcB tl hi T V S') := by
  refine J_aload_n (pc := 97) D9_tried_97 rfl ?_
  refine J_getf (pc := 98) D9_tried_98 fl9_61 rfl rfl ?_
  refine J_iload_n (pc := 101) D9_tried_101 rfl ?_
  refine J_iconst (pc := 102) (v := (nI 3)) D9_tried_102 (by decide) ?_
  refine J_icmp_eq (pc := 103) (tgt := 110) D9_tried_103 (by decide) (fun h103 => ?_) (fun h103 => ?_)
  · have h103' := eq_true h103
    refine J_iconst (pc := 110) (v := (nI 0)) D9_tried_110 (by decide) ?_
    refine J_putf (pc := 111) D9_tried_111 fp9_371 rfl (Fit.zb (by first | exact Or.inl rfl | exact Or.inr rfl)) rfl ?_
    refine J_aload_n (pc := 114) D9_tried_114 rfl ?_
    refine J_getf (pc := 115) D9_tried_115 fl9_61 rfl rfl ?_
    refine J_iload_n (pc := 118) D9_tried_118 rfl ?_
    refine J_iconst (pc := 119) (v := (nI 4)) D9_tried_119 (by decide) ?_
    refine J_icmp_eq (pc := 120) (tgt := 127) D9_tried_120 (by decide) (fun h120 => ?_) (fun h120 => ?_)
    · have h120' := eq_true h120
      refine J_iconst (pc := 127) (v := (nI 0)) D9_tried_127 (by decide) ?_
      refine J_putf (pc := 128) D9_tried_128 fp9_374 rfl (Fit.zb (by first | exact Or.inl rfl | exact Or.inr rfl)) rfl ?_
      refine J_w (w2 := tcB tl hi T V (X, trY x, q0, k0, 1, 29)) (by rw [show trY x = (t, nI 0, nI 0) from by rw [ht, trY, if_pos h103, if_pos h120]]; rfl) ?_
      refine J_aload_n (pc := 131) D9_tried_131 rfl ?_
      refine J_getf (pc := 132) D9_tried_132 fl9_61 rfl rfl ?_
      refine J_iload_n (pc := 135) D9_tried_135 rfl ?_
      refine J_callVP (pc := 136) (ι := [39, 40, 41, 1, 2, 3, 4, 5, 6, 7, 8, 9, 10, 11, 12, 13, 14, 15, 16, 17, 18, 29, 30, 31, 32, 33, 34, 35, 36, 37, 38]) (ac := [.int _]) D9_tried_136 m8_pass_v t815 (c8_pass (d := d) (n := n) (y := (trY x)) (q := q0) (k := k0) (T := T) (V := X) hT hX (by omega)) (by omega) rfl rfl ⟨rfl, rfl⟩ rfl rfl rfl rfl rfl (fun r w' hq hl => ?_)
      obtain ⟨rfl, q1, k1, rfl⟩ := hq
      refine ⟨tcB tl hi T V (passN T (trY x) nb nn n X, (trY x), q1, k1, 1, 29), ⟨rfl, ⟨rfl, rfl⟩, rfl⟩, ?_⟩
      obtain ⟨X9, eX⟩ : ∃ z9, passN T (trY x) nb nn n X = z9 := ⟨_, rfl⟩
      refine J_w (w2 := tcB tl hi T V (X9, (trY x), q1, k1, 1, 29)) (by subst eX; rfl) ?_
      refine J_aload_n (pc := 139) D9_tried_139 rfl ?_
      refine J_callVTR (pc := 140) (ac := []) D9_tried_140 m9_moreOff_v t892 (c9_moreOff (d := d + 4) (S := (X9, trY x, q1, k1, 1, 29))) (by omega) rfl rfl rfl rfl (fun _ => rfl) rfl rfl rfl ?_
      refine J_iret (pc := 143) D9_tried_143 rfl ?_
      exact ⟨by rw [eX], _, rfl⟩
    · refine J_iconst (pc := 123) (v := (nI 1)) D9_tried_123 (by decide) ?_
      refine J_goto (pc := 124) (tgt := 128) D9_tried_124 (by decide) ?_
      refine J_putf (pc := 128) D9_tried_128 fp9_374 rfl (Fit.zb (by first | exact Or.inl rfl | exact Or.inr rfl)) rfl ?_
      refine J_w (w2 := tcB tl hi T V (X, trY x, q0, k0, 1, 29)) (by rw [show trY x = (t, nI 0, nI 1) from by rw [ht, trY, if_pos h103, if_neg h120]]; rfl) ?_
      refine J_aload_n (pc := 131) D9_tried_131 rfl ?_
      refine J_getf (pc := 132) D9_tried_132 fl9_61 rfl rfl ?_
      refine J_iload_n (pc := 135) D9_tried_135 rfl ?_
      refine J_callVP (pc := 136) (ι := [39, 40, 41, 1, 2, 3, 4, 5, 6, 7, 8, 9, 10, 11, 12, 13, 14, 15, 16, 17, 18, 29, 30, 31, 32, 33, 34, 35, 36, 37, 38]) (ac := [.int _]) D9_tried_136 m8_pass_v t815 (c8_pass (d := d) (n := n) (y := (trY x)) (q := q0) (k := k0) (T := T) (V := X) hT hX (by omega)) (by omega) rfl rfl ⟨rfl, rfl⟩ rfl rfl rfl rfl rfl (fun r w' hq hl => ?_)
      obtain ⟨rfl, q1, k1, rfl⟩ := hq
      refine ⟨tcB tl hi T V (passN T (trY x) nb nn n X, (trY x), q1, k1, 1, 29), ⟨rfl, ⟨rfl, rfl⟩, rfl⟩, ?_⟩
      obtain ⟨X9, eX⟩ : ∃ z9, passN T (trY x) nb nn n X = z9 := ⟨_, rfl⟩
      refine J_w (w2 := tcB tl hi T V (X9, (trY x), q1, k1, 1, 29)) (by subst eX; rfl) ?_
      refine J_aload_n (pc := 139) D9_tried_139 rfl ?_
      refine J_callVTR (pc := 140) (ac := []) D9_tried_140 m9_moreOff_v t892 (c9_moreOff (d := d + 4) (S := (X9, trY x, q1, k1, 1, 29))) (by omega) rfl rfl rfl rfl (fun _ => rfl) rfl rfl rfl ?_
      refine J_iret (pc := 143) D9_tried_143 rfl ?_
      exact ⟨by rw [eX], _, rfl⟩
  · refine J_iconst (pc := 106) (v := (nI 1)) D9_tried_106 (by decide) ?_
    refine J_goto (pc := 107) (tgt := 111) D9_tried_107 (by decide) ?_
    refine J_putf (pc := 111) D9_tried_111 fp9_371 rfl (Fit.zb (by first | exact Or.inl rfl | exact Or.inr rfl)) rfl ?_
    refine J_aload_n (pc := 114) D9_tried_114 rfl ?_
    refine J_getf (pc := 115) D9_tried_115 fl9_61 rfl rfl ?_
    refine J_iload_n (pc := 118) D9_tried_118 rfl ?_
    refine J_iconst (pc := 119) (v := (nI 4)) D9_tried_119 (by decide) ?_
    refine J_icmp_eq (pc := 120) (tgt := 127) D9_tried_120 (by decide) (fun h120 => ?_) (fun h120 => ?_)
    · have h120' := eq_true h120
      refine J_iconst (pc := 127) (v := (nI 0)) D9_tried_127 (by decide) ?_
      refine J_putf (pc := 128) D9_tried_128 fp9_374 rfl (Fit.zb (by first | exact Or.inl rfl | exact Or.inr rfl)) rfl ?_
      refine J_w (w2 := tcB tl hi T V (X, trY x, q0, k0, 1, 29)) (by rw [show trY x = (t, nI 1, nI 0) from by rw [ht, trY, if_neg h103, if_pos h120]]; rfl) ?_
      refine J_aload_n (pc := 131) D9_tried_131 rfl ?_
      refine J_getf (pc := 132) D9_tried_132 fl9_61 rfl rfl ?_
      refine J_iload_n (pc := 135) D9_tried_135 rfl ?_
      refine J_callVP (pc := 136) (ι := [39, 40, 41, 1, 2, 3, 4, 5, 6, 7, 8, 9, 10, 11, 12, 13, 14, 15, 16, 17, 18, 29, 30, 31, 32, 33, 34, 35, 36, 37, 38]) (ac := [.int _]) D9_tried_136 m8_pass_v t815 (c8_pass (d := d) (n := n) (y := (trY x)) (q := q0) (k := k0) (T := T) (V := X) hT hX (by omega)) (by omega) rfl rfl ⟨rfl, rfl⟩ rfl rfl rfl rfl rfl (fun r w' hq hl => ?_)
      obtain ⟨rfl, q1, k1, rfl⟩ := hq
      refine ⟨tcB tl hi T V (passN T (trY x) nb nn n X, (trY x), q1, k1, 1, 29), ⟨rfl, ⟨rfl, rfl⟩, rfl⟩, ?_⟩
      obtain ⟨X9, eX⟩ : ∃ z9, passN T (trY x) nb nn n X = z9 := ⟨_, rfl⟩
      refine J_w (w2 := tcB tl hi T V (X9, (trY x), q1, k1, 1, 29)) (by subst eX; rfl) ?_
      refine J_aload_n (pc := 139) D9_tried_139 rfl ?_
      refine J_callVTR (pc := 140) (ac := []) D9_tried_140 m9_moreOff_v t892 (c9_moreOff (d := d + 4) (S := (X9, trY x, q1, k1, 1, 29))) (by omega) rfl rfl rfl rfl (fun _ => rfl) rfl rfl rfl ?_
      refine J_iret (pc := 143) D9_tried_143 rfl ?_
      exact ⟨by rw [eX], _, rfl⟩
    · refine J_iconst (pc := 123) (v := (nI 1)) D9_tried_123 (by decide) ?_
      refine J_goto (pc := 124) (tgt := 128) D9_tried_124 (by decide) ?_
      refine J_putf (pc := 128) D9_tried_128 fp9_374 rfl (Fit.zb (by first | exact Or.inl rfl | exact Or.inr rfl)) rfl ?_
      refine J_w (w2 := tcB tl hi T V (X, trY x, q0, k0, 1, 29)) (by rw [show trY x = (t, nI 1, nI 1) from by rw [ht, trY, if_neg h103, if_neg h120]]; rfl) ?_
      refine J_aload_n (pc := 131) D9_tried_131 rfl ?_
      refine J_getf (pc := 132) D9_tried_132 fl9_61 rfl rfl ?_
      refine J_iload_n (pc := 135) D9_tried_135 rfl ?_
      refine J_callVP (pc := 136) (ι := [39, 40, 41, 1, 2, 3, 4, 5, 6, 7, 8, 9, 10, 11, 12, 13, 14, 15, 16, 17, 18, 29, 30, 31, 32, 33, 34, 35, 36, 37, 38]) (ac := [.int _]) D9_tried_136 m8_pass_v t815 (c8_pass (d := d) (n := n) (y := (trY x)) (q := q0) (k := k0) (T := T) (V := X) hT hX (by omega)) (by omega) rfl rfl ⟨rfl, rfl⟩ rfl rfl rfl rfl rfl (fun r w' hq hl => ?_)
      obtain ⟨rfl, q1, k1, rfl⟩ := hq
      refine ⟨tcB tl hi T V (passN T (trY x) nb nn n X, (trY x), q1, k1, 1, 29), ⟨rfl, ⟨rfl, rfl⟩, rfl⟩, ?_⟩
      obtain ⟨X9, eX⟩ : ∃ z9, passN T (trY x) nb nn n X = z9 := ⟨_, rfl⟩
      refine J_w (w2 := tcB tl hi T V (X9, (trY x), q1, k1, 1, 29)) (by subst eX; rfl) ?_
      refine J_aload_n (pc := 139) D9_tried_139 rfl ?_
      refine J_callVTR (pc := 140) (ac := []) D9_tried_140 m9_moreOff_v t892 (c9_moreOff (d := d + 4) (S := (X9, trY x, q1, k1, 1, 29))) (by omega) rfl rfl rfl rfl (fun _ => rfl) rfl rfl rfl ?_
      refine J_iret (pc := 143) D9_tried_143 rfl ?_
      exact ⟨by rw [eX], _, rfl⟩
theorem L9_tried80 {d np nb nn : Nat} {tl hi : Int32} {T : TV} {V : CV} (hT : WT T np nb nn) {X : CV} (hX : WV X nb) {n : Nat} {x i t : Int32} {q0 : Nat → Int32} {k0 : Nat → Int64} (hn : n < 100) (ht : t = (trY x).1) : J m9_tried (d + 7) 0 0 42 80 [(0, .ref 0), (1, .int x), (2, .int i), (3, .int (nI n))] [] (tcB tl hi T V (X, (t, nI 1, nI 1), q0, k0, 1, 29)) 0 0 (fun r w' => r = some (.int (offN (passN T (trY x) nb nn n (trK x X)) - offN V)) ∧ ∃ S', w' = tcB tl hi T V S') := by
  refine J_iload_n (pc := 80) D9_tried_80 rfl ?_
  refine J_iconst (pc := 81) (v := (nI 5)) D9_tried_81 (by decide) ?_
  refine J_icmp_ne (pc := 82) (tgt := 97) D9_tried_82 (by decide) (fun h82 => ?_) (fun h82 => ?_)
  · rw [trK, if_neg h82]
    exact L9_tried97 (X := X) hT hX hn ht
  · have h82' := eq_true h82
    refine J_aload_n (pc := 85) D9_tried_85 rfl ?_
    refine J_getf (pc := 86) D9_tried_86 fl9_53 rfl rfl ?_
    refine J_getf (pc := 89) D9_tried_89 fl9_153 rfl rfl ?_
    refine J_bipush (pc := 92) (v := (nI 9)) D9_tried_92 (by decide) ?_
    refine J_callS (pc := 94) (ι := [32]) (ac := [.ref 0, .int _]) D9_tried_94 mJ_fill_s t1097 (cJ_fill (d := d + 6) (f := X.2.2.2 2) rfl) (by omega) ⟨rfl, rfl⟩ rfl rfl rfl rfl rfl (fun r w' hq hl => ?_)
    obtain ⟨rfl, rfl⟩ := hq
    refine J_w (w2 := tcB tl hi T V ((X.1, X.2.1, X.2.2.1, upA X.2.2.2 2 (fun _ => nI 9)), (t, nI 1, nI 1), q0, k0, 1, 29)) rfl ?_
    rw [trK, if_pos h82]
    exact L9_tried97 (X := (X.1, X.2.1, X.2.2.1, upA X.2.2.2 2 (fun _ => nI 9))) hT (hX.of rfl) hn ht
theorem L9_tried55 {d np nb nn : Nat} {tl hi : Int32} {T : TV} {V : CV} (hT : WT T np nb nn) (hV : WV V nb) {n : Nat} {x i t : Int32} {q0 : Nat → Int32} {k0 : Nat → Int64} (hn : n < 100) (hib : x = nI 2 → ixB nb i = true) (ht : t = (trY x).1) : J m9_tried (d + 7) 0 0 42 55 [(0, .ref 0), (1, .int x), (2, .int i), (3, .int (nI n))] [] (tcB tl hi T V (V, (t, nI 1, nI 1), q0, k0, 1, 29)) 0 0 (fun r w' => r = some (.int (offN (passN T (trY x) nb nn n (trK x (trM V x i.toNatClampNeg))) - offN V)) ∧ ∃ S', w' = tcB tl hi T V S') := by
  have hnb := hT.2.2.2.2.1
  refine J_iload_n (pc := 55) D9_tried_55 rfl ?_
  refine J_iconst (pc := 56) (v := (nI 2)) D9_tried_56 (by decide) ?_
  refine J_icmp_ne (pc := 57) (tgt := 80) D9_tried_57 (by decide) (fun h57 => ?_) (fun h57 => ?_)
  · rw [trM, if_neg (fun q => h57 q.1)]
    exact L9_tried80 hT hV hn ht
  · have h57' := eq_true h57
    obtain ⟨b9, hb9, rfl⟩ := ixB_t (hib h57) (by omega)
    refine J_aload_n (pc := 60) D9_tried_60 rfl ?_
    refine J_getf (pc := 61) D9_tried_61 fl9_53 rfl rfl ?_
    refine J_iload_n (pc := 64) D9_tried_64 rfl ?_
    refine J_callVR (pc := 65) (ι := [29, 30, 31, 32, 33, 34, 35, 36, 37, 38]) (ac := [.int _]) D9_tried_65 m0_isLying_v t717 (c0_isLying (d := d) (V := V) (b := b9) (by omega)) (by omega) rfl rfl ⟨rfl, rfl⟩ rfl rfl (fun _ => rfl) rfl rfl rfl ?_
    refine J_if_eq (pc := 68) (tgt := 80) D9_tried_68 (by decide) (fun h68 => ?_) (fun h68 => ?_)
    · have h68' := eq_true h68
      replace h68 := i01_z h68
      rw [trM, nI_clamp (by omega), if_neg (fun q => h68 q.2)]
      exact L9_tried80 hT hV hn ht
    · replace h68 := i01_nz h68
      refine J_aload_n (pc := 71) D9_tried_71 rfl ?_
      refine J_getf (pc := 72) D9_tried_72 fl9_53 rfl rfl ?_
      refine J_iload_n (pc := 75) D9_tried_75 rfl ?_
      refine J_iconst (pc := 76) (v := (nI 3)) D9_tried_76 (by decide) ?_
      refine J_callVP (pc := 77) (ι := [29, 30, 31, 32, 33, 34, 35, 36, 37, 38]) (ac := [.int _, .int _]) D9_tried_77 m0_leave_v t807 (yl_leave (d := d) (V := V) (b := b9) (x := nI 3) hV hb9 hnb) (by omega) rfl rfl ⟨rfl, rfl⟩ rfl rfl rfl rfl rfl (fun r w' hq hl => ?_)
      obtain ⟨rfl, rfl⟩ := hq
      refine ⟨tcB tl hi T V (lvV V b9 (nI 3), (t, nI 1, nI 1), q0, k0, 1, 29), ⟨rfl, ⟨rfl, rfl⟩, rfl⟩, ?_⟩
      rw [trM, nI_clamp (by omega), if_pos ⟨h57, h68⟩]
      have hV2 : WV (lvV V b9 (nI 3)) nb := hV.of rfl
      exact L9_tried80 (X := lvV V b9 (nI 3)) hT hV2 hn ht
theorem c9_tried {d np nb nn : Nat} {tl hi : Int32} {T : TV} {V : CV} {S : SB} (hT : WT T np nb nn) (hV : WV V nb) {x i n : Int32} : Tr (d + 7) 0 0 m9_tried [.ref 0, .int x, .int i, .int n] (tcB tl hi T V S) (fun r w' => r = some (.int (triF T V nb nn x i n)) ∧ ∃ S', w' = tcB tl hi T V S') := by
  have hnb := hT.2.2.2.2.1
  refine Tr.intro (by decide) rfl ?_
  refine J_iload_n (pc := 0) D9_tried_0 rfl ?_
  refine J_iconst (pc := 1) (v := (nI 0)) D9_tried_1 (by decide) ?_
  refine J_iconst (pc := 2) (v := (nI 5)) D9_tried_2 (by decide) ?_
  refine J_callSR (pc := 3) (ι := []) (ac := [.int _, .int _, .int _]) D9_tried_3 m9_isAmong_s t712 (c9_isAmong (d := d + 6)) (by omega) ⟨rfl, rfl⟩ rfl rfl (fun _ => rfl) rfl rfl rfl ?_
  refine J_st [.int (i01 (ixB 6 x = true))] (by rw [← ixB_m (n := 5) (by decide)]; try rfl) ?_
  refine J_if_eq (pc := 6) (tgt := 39) D9_tried_6 (by decide) (fun h6 => ?_) (fun h6 => ?_)
  · have h6' := eq_true h6
    replace h6 := i01_z h6
    refine J_iconst (pc := 39) (v := (-1)) D9_tried_39 (by decide) ?_
    refine J_iret (pc := 40) D9_tried_40 rfl ?_
    exact ⟨by rw [triF, if_neg (fun q0 : trG nb x i n = true => by have q := trG_e.mp q0; exact h6 q.1)], S, rfl⟩
  · replace h6 := i01_nz h6
    refine J_iload_n (pc := 9) D9_tried_9 rfl ?_
    refine J_iconst (pc := 10) (v := (nI 0)) D9_tried_10 (by decide) ?_
    refine J_bipush (pc := 11) (v := (nI 99)) D9_tried_11 (by decide) ?_
    refine J_callSR (pc := 13) (ι := []) (ac := [.int _, .int _, .int _]) D9_tried_13 m9_isAmong_s t712 (c9_isAmong (d := d + 6)) (by omega) ⟨rfl, rfl⟩ rfl rfl (fun _ => rfl) rfl rfl rfl ?_
    refine J_st [.int (i01 (ixB 100 n = true))] (by rw [← ixB_m (n := 99) (by decide)]; try rfl) ?_
    refine J_if_eq (pc := 16) (tgt := 39) D9_tried_16 (by decide) (fun h16 => ?_) (fun h16 => ?_)
    · have h16' := eq_true h16
      replace h16 := i01_z h16
      refine J_iconst (pc := 39) (v := (-1)) D9_tried_39 (by decide) ?_
      refine J_iret (pc := 40) D9_tried_40 rfl ?_
      exact ⟨by rw [triF, if_neg (fun q0 : trG nb x i n = true => by have q := trG_e.mp q0; exact h16 q.2.1)], S, rfl⟩
    · replace h16 := i01_nz h16
      refine J_iload_n (pc := 19) D9_tried_19 rfl ?_
      refine J_iconst (pc := 20) (v := (nI 2)) D9_tried_20 (by decide) ?_
      refine J_icmp_ne (pc := 21) (tgt := 35) D9_tried_21 (by decide) (fun h21 => ?_) (fun h21 => ?_)
      · refine J_iload_n (pc := 35) D9_tried_35 rfl ?_
        refine J_if_eq (pc := 36) (tgt := 41) D9_tried_36 (by decide) (fun h36 => ?_) (fun h36 => ?_)
        · have h36' := eq_true h36
          refine J_aload_n (pc := 41) D9_tried_41 rfl ?_
          refine J_iload_n (pc := 42) D9_tried_42 rfl ?_
          refine J_iconst (pc := 43) (v := (nI 1)) D9_tried_43 (by decide) ?_
          refine J_icmp_ne (pc := 44) (tgt := 51) D9_tried_44 (by decide) (fun h44 => ?_) (fun h44 => ?_)
          · refine J_iconst (pc := 51) (v := (nI 1)) D9_tried_51 (by decide) ?_
            refine J_callVT (pc := 52) (ac := [.int _]) D9_tried_52 m9_startTrial_v t883 (c9_startTrial (d := d + 4)) (by omega) rfl rfl rfl rfl rfl rfl rfl (fun r w' hq hl => ?_)
            obtain ⟨rfl, rfl⟩ := hq
            have hg : trG nb x i n = true := trG_e.mpr ⟨h6, h16, by rw [if_neg h21, h36]⟩
            rw [triF, if_pos hg]
            obtain ⟨m, hm, rfl⟩ := ixB_t h16 (by decide)
            rw [nI_clamp (by omega)]
            exact L9_tried55 hT hV hm (fun e => absurd e h21) (by rw [trY, if_neg h44])
          · have h44' := eq_true h44
            refine J_iconst (pc := 47) (v := (nI 2)) D9_tried_47 (by decide) ?_
            refine J_goto (pc := 48) (tgt := 52) D9_tried_48 (by decide) ?_
            refine J_callVT (pc := 52) (ac := [.int _]) D9_tried_52 m9_startTrial_v t883 (c9_startTrial (d := d + 4)) (by omega) rfl rfl rfl rfl rfl rfl rfl (fun r w' hq hl => ?_)
            obtain ⟨rfl, rfl⟩ := hq
            have hg : trG nb x i n = true := trG_e.mpr ⟨h6, h16, by rw [if_neg h21, h36]⟩
            rw [triF, if_pos hg]
            obtain ⟨m, hm, rfl⟩ := ixB_t h16 (by decide)
            rw [nI_clamp (by omega)]
            exact L9_tried55 hT hV hm (fun e => absurd e h21) (by rw [trY, if_pos h44])
        · refine J_iconst (pc := 39) (v := (-1)) D9_tried_39 (by decide) ?_
          refine J_iret (pc := 40) D9_tried_40 rfl ?_
          exact ⟨by rw [triF, if_neg (fun q0 : trG nb x i n = true => by have q := trG_e.mp q0; exact (by have := q.2.2; rw [if_neg h21] at this; exact h36 this))], S, rfl⟩
      · have h21' := eq_true h21
        refine J_aload_n (pc := 24) D9_tried_24 rfl ?_
        refine J_iload_n (pc := 25) D9_tried_25 rfl ?_
        refine J_callVAR (pc := 26) (ac := [.int _]) D9_tried_26 m9_isBottle_v t754 (c9_isBottle (d := d + 5) (V := V) hT) (by omega) rfl rfl rfl rfl rfl (fun _ => rfl) rfl rfl rfl ?_
        refine J_if_eq (pc := 29) (tgt := 39) D9_tried_29 (by decide) (fun h29 => ?_) (fun h29 => ?_)
        · have h29' := eq_true h29
          replace h29 := i01_z h29
          refine J_iconst (pc := 39) (v := (-1)) D9_tried_39 (by decide) ?_
          refine J_iret (pc := 40) D9_tried_40 rfl ?_
          exact ⟨by rw [triF, if_neg (fun q0 : trG nb x i n = true => by have q := trG_e.mp q0; exact (by have := q.2.2; rw [if_pos h21] at this; exact h29 this))], S, rfl⟩
        · replace h29 := i01_nz h29
          refine J_goto (pc := 32) (tgt := 41) D9_tried_32 (by decide) ?_
          refine J_aload_n (pc := 41) D9_tried_41 rfl ?_
          refine J_iload_n (pc := 42) D9_tried_42 rfl ?_
          refine J_iconst (pc := 43) (v := (nI 1)) D9_tried_43 (by decide) ?_
          refine J_icmp_ne (pc := 44) (tgt := 51) D9_tried_44 (by decide) (fun h44 => ?_) (fun h44 => ?_)
          · refine J_iconst (pc := 51) (v := (nI 1)) D9_tried_51 (by decide) ?_
            refine J_callVT (pc := 52) (ac := [.int _]) D9_tried_52 m9_startTrial_v t883 (c9_startTrial (d := d + 4)) (by omega) rfl rfl rfl rfl rfl rfl rfl (fun r w' hq hl => ?_)
            obtain ⟨rfl, rfl⟩ := hq
            have hg : trG nb x i n = true := trG_e.mpr ⟨h6, h16, by rw [if_pos h21, h29]⟩
            rw [triF, if_pos hg]
            obtain ⟨m, hm, rfl⟩ := ixB_t h16 (by decide)
            rw [nI_clamp (by omega)]
            exact L9_tried55 hT hV hm (fun e => h29) (by rw [trY, if_neg h44])
          · have h44' := eq_true h44
            refine J_iconst (pc := 47) (v := (nI 2)) D9_tried_47 (by decide) ?_
            refine J_goto (pc := 48) (tgt := 52) D9_tried_48 (by decide) ?_
            refine J_callVT (pc := 52) (ac := [.int _]) D9_tried_52 m9_startTrial_v t883 (c9_startTrial (d := d + 4)) (by omega) rfl rfl rfl rfl rfl rfl rfl (fun r w' hq hl => ?_)
            obtain ⟨rfl, rfl⟩ := hq
            have hg : trG nb x i n = true := trG_e.mpr ⟨h6, h16, by rw [if_pos h21, h29]⟩
            rw [triF, if_pos hg]
            obtain ⟨m, hm, rfl⟩ := ixB_t h16 (by decide)
            rw [nI_clamp (by omega)]
            exact L9_tried55 hT hV hm (fun e => h29) (by rw [trY, if_pos h44])
