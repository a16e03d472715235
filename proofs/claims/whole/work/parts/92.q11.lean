/-! THE MODEL: lines of bottles (own program mod_q11.py) -/
def bC2 (K : TK) (R : RS) : RC := newC K (wkI (plL (arR R 4) (K.2.2.2.2.2 (stepC K R.1).1) (nbR R) 0)) (stepC K R.1)
def bQ1 (K : TK) (R : RS) : Int32 := wkI (plL (arR R 1) (K.2.2.2.2.2 (bC2 K R).1) (npR R) 0)
def bC3 (K : TK) (R : RS) : RC := perC K (bQ1 K R) (-1) (bC2 K R)
def bW (K : TK) (R : RS) : Int32 := perV K (bQ1 K R) (-1) (bC2 K R)
def bQ2 (K : TK) (R : RS) : Int32 := wkI (plL (arR R 1) (K.2.2.2.2.2 (bC3 K R).1) (npR R) 0)
def bC4 (K : TK) (R : RS) : RC := perC K (bQ2 K R) (bW K R) (bC3 K R)
def bX (K : TK) (R : RS) : Int32 := perV K (bQ2 K R) (bW K R) (bC3 K R)
def bC5 (K : TK) (R : RS) : RC := numC K (nI 0) (nI 5) (bC4 K R)
def bC6 (K : TK) (R : RS) : RC := numC K (nI 1) (nI 99) (bC5 K R)
def bC7 (K : TK) (R : RS) : RC := numC K (nI 1) (nI 9) (bC6 K R)
theorem botR_1 {K : TK} {R : RS} (hf : nbR R < 10) : (botR K R).1 = bC7 K R := by
  rw [show botR K R = botR1 K R from if_pos hf]
  unfold botR1 bC7 bC6 bC5 bC4 bQ2 bW bC3 bQ1 bC2
  dsimp only
theorem botR_2 {K : TK} {R : RS} (hf : nbR R < 10) {v1 v2 v3 v4 v5 v6 : Int32} (h1 : v1 = K.2.2.2.2.2 (stepC K R.1).1) (h2 : v2 = bW K R) (h3 : v3 = bX K R) (h4 : v4 = numV K (nI 0) (nI 5) (bC4 K R)) (h5 : v5 = numV K (nI 1) (nI 99) (bC5 K R)) (h6 : v6 = numV K (nI 1) (nI 9) (bC6 K R)) : (botR K R).2 = (R.2.1, (npR R, nbR R + 1, nnR R), R.2.2.2.1, R.2.2.2.2.1, upA (upA (upA (upA (upA (upA (arR R) 4 (upd (arR R 4) (nbR R) v1)) 5 (upd (arR R 5) (nbR R) v2)) 6 (upd (arR R 6) (nbR R) v3)) 7 (upd (arR R 7) (nbR R) v4)) 8 (upd (arR R 8) (nbR R) v5)) 9 (upd (arR R 9) (nbR R) v6), lawA R) := by
  rw [show botR K R = botR1 K R from if_pos hf, h6, h5, h4, h3, h2, h1]
  unfold botR1 bX bC6 bC5 bC4 bQ2 bW bC3 bQ1 bC2
  dsimp only
theorem bC6_0 {K : TK} {R : RS} (h : (bC7 K R).2.1 = 0) : (bC6 K R).2.1 = 0 := by unfold bC7 at h; exact numC_0 h
theorem bC5_0 {K : TK} {R : RS} (h : (bC6 K R).2.1 = 0) : (bC5 K R).2.1 = 0 := by unfold bC6 at h; exact numC_0 h
theorem bC4_0 {K : TK} {R : RS} (h : (bC5 K R).2.1 = 0) : (bC4 K R).2.1 = 0 := by unfold bC5 at h; exact numC_0 h
theorem bW_e {K : TK} {R : RS} (h : (bC3 K R).2.1 = 0) : bW K R = bQ1 K R := by unfold bC3 at h; unfold bW perV; rw [if_pos h]
theorem bX_e {K : TK} {R : RS} (h : (bC4 K R).2.1 = 0) : bX K R = bQ2 K R := by unfold bC4 at h; unfold bX perV; rw [if_pos h]
theorem per5 {K : TK} {q oth : Int32} {C : RC} : perC K q oth C = goC K (if (hanC K q C).2.1 = 0 ∧ q = oth then refC K (nI 5) (hanC K q C) else hanC K q C) := by
  by_cases hc : (hanC K q C).2.1 = 0 ∧ q = oth
  · rw [if_pos hc]
    obtain ⟨h0, e, hk, hq⟩ := han_0 hc.1
    rw [e]
    show takC K (nI 30) (perC2 K q oth (perC1 K q C)) = _
    have hz := ref_nz (K := K) (x := nI 5) h0 (by decide)
    rw [show perC1 K q C = C from if_neg (fun z => hq z.2.2), show perC2 K q oth C = refC K (nI 5) C from if_pos ⟨h0, hk, hc.2⟩, takC_f hz]
    exact (if_neg hz).symm
  · rw [if_neg hc]
    refine perC_e (fun h0 hk hq z => hc ⟨?_, z⟩)
    rw [show hanC K q C = C from by unfold hanC; rw [if_pos h0, if_pos hk, if_neg hq]]
    exact h0
theorem L10_bl72 {K : TK} {L cnt : Nat} (hK : KT K L cnt) {L0 : LL} {M : Nat → MR} {D : Nat} {s0 s2 s : Nat → Int32} {A A3 : Nat → Nat → Int32} {R : RS} (hD : 20 ≤ D) (hTP : TP K.2.2.1 (A 1) L) (hG : GIv s0 A R) (hf : nbR R < 10) (hS : FS s2 s) (b4 : CRl K L cnt s (bC4 K R)) (e20 : s2 20 = s0 20 ||| bt 1) (e31 : s2 31 = s0 31) (e32 : s2 32 = s0 32) {v1 v2 v3 : Int32} (hA3 : upA (upA (upA A 6 (upd (A 6) (10 + nbR R) v1)) 7 (upd (A 7) (10 + nbR R) v2)) 8 (upd (A 8) (10 + nbR R) v3) = A3) (hv : (bC4 K R).2.1 = 0 → (v1 = K.2.2.2.2.2 (stepC K R.1).1 ∧ v2 = bW K R ∧ v3 = bX K R) ∧ (∃ p, p < npR R ∧ v2 = nI p) ∧ ∃ p, p < npR R ∧ v3 = nI p) : J m10_bottleLine D 0 0 40 72 [(0, .ref 0), (1, .int (nI (10 + nbR R)))] [] (modW s A3 L0 M) 0 0 (fun r w' => r = none ∧ ∃ s' A', w' = modW s' A' L0 M ∧ FLn s2 A s' A' ∧ s' 21 = s2 21 ∧ CRl K L cnt s' (botR K R).1 ∧ ((botR K R).1.2.1 = 0 → GIv s' A' (botR K R))) := by
  have e7 : A 3 7 = nI (nbR R) := hG.1.2.1
  have hnb : nbR R ≤ 10 := hG.2.1.2.2.2.2.1
  have hTP3 : TP K.2.2.1 (A3 1) L := by rw [← hA3]; exact hTP
  refine J_aload_n (pc := 72) D10_bottleLine_72 rfl ?_
  refine J_getf (pc := 73) D10_bottleLine_73 fl10_31 rfl rfl ?_
  refine J_iload_n (pc := 76) D10_bottleLine_76 rfl ?_
  refine J_aload_n (pc := 77) D10_bottleLine_77 rfl ?_
  refine J_iconst (pc := 78) (v := (nI 0)) D10_bottleLine_78 (by decide) ?_
  refine J_iconst (pc := 79) (v := (nI 5)) D10_bottleLine_79 (by decide) ?_
  refine J_callVT (pc := 80) (ac := [.int _, .int _]) D10_bottleLine_80 m10_numeral_v t1488 (c10_numeral (d := D - 8) (A := A3) hK hTP3 b4 (lo := nI 0) (b := 5) (C := bC4 K R) (fun _ => ⟨0, by decide, rfl⟩) (by decide)) (by omega) rfl rfl rfl rfl rfl rfl rfl (fun r w' hq hl => ?_)
  obtain ⟨v5, s5, hr, rfl, a5, b5, c5⟩ := hq
  cases hr
  rw [show numC K (nI 0) (nI 5) (bC4 K R) = bC5 K R from rfl] at b5 c5
  refine J_mast (pc := 83) D10_bottleLine_83 ma_9 rfl (by omega) rfl ?_
  generalize hA4 : upA A3 9 (upd (A3 9) (10 + nbR R) v5) = A4
  have hTP4 : TP K.2.2.1 (A4 1) L := by rw [← hA4]; exact hTP3
  refine J_aload_n (pc := 84) D10_bottleLine_84 rfl ?_
  refine J_getf (pc := 85) D10_bottleLine_85 fl10_34 rfl rfl ?_
  refine J_iload_n (pc := 88) D10_bottleLine_88 rfl ?_
  refine J_aload_n (pc := 89) D10_bottleLine_89 rfl ?_
  refine J_iconst (pc := 90) (v := (nI 1)) D10_bottleLine_90 (by decide) ?_
  refine J_bipush (pc := 91) (v := (nI 99)) D10_bottleLine_91 (by decide) ?_
  refine J_callVT (pc := 93) (ac := [.int _, .int _]) D10_bottleLine_93 m10_numeral_v t1488 (c10_numeral (d := D - 8) (A := A4) hK hTP4 b5 (lo := nI 1) (b := 99) (C := bC5 K R) (fun _ => ⟨1, by decide, rfl⟩) (by decide)) (by omega) rfl rfl rfl rfl rfl rfl rfl (fun r w' hq hl => ?_)
  obtain ⟨v6, s6, hr, rfl, a6, b6, c6⟩ := hq
  cases hr
  rw [show numC K (nI 1) (nI 99) (bC5 K R) = bC6 K R from rfl] at b6 c6
  refine J_mast (pc := 96) D10_bottleLine_96 ma_10 rfl (by omega) rfl ?_
  generalize hA5 : upA A4 10 (upd (A4 10) (10 + nbR R) v6) = A5
  have hTP5 : TP K.2.2.1 (A5 1) L := by rw [← hA5]; exact hTP4
  refine J_aload_n (pc := 97) D10_bottleLine_97 rfl ?_
  refine J_getf (pc := 98) D10_bottleLine_98 fl10_37 rfl rfl ?_
  refine J_iload_n (pc := 101) D10_bottleLine_101 rfl ?_
  refine J_aload_n (pc := 102) D10_bottleLine_102 rfl ?_
  refine J_iconst (pc := 103) (v := (nI 1)) D10_bottleLine_103 (by decide) ?_
  refine J_bipush (pc := 104) (v := (nI 9)) D10_bottleLine_104 (by decide) ?_
  refine J_callVT (pc := 106) (ac := [.int _, .int _]) D10_bottleLine_106 m10_numeral_v t1488 (c10_numeral (d := D - 8) (A := A5) hK hTP5 b6 (lo := nI 1) (b := 9) (C := bC6 K R) (fun _ => ⟨1, by decide, rfl⟩) (by decide)) (by omega) rfl rfl rfl rfl rfl rfl rfl (fun r w' hq hl => ?_)
  obtain ⟨v7, s7, hr, rfl, a7, b7, c7⟩ := hq
  cases hr
  rw [show numC K (nI 1) (nI 9) (bC6 K R) = bC7 K R from rfl] at b7 c7
  refine J_mast (pc := 109) D10_bottleLine_109 ma_11 rfl (by omega) rfl ?_
  generalize hA6 : upA A5 11 (upd (A5 11) (10 + nbR R) v7) = A6
  refine J_aload_n (pc := 110) D10_bottleLine_110 rfl ?_
  refine J_iconst (pc := 111) (v := (nI 1)) D10_bottleLine_111 (by decide) ?_
  refine J_aload_n (pc := 112) D10_bottleLine_112 rfl ?_
  refine J_iconst (pc := 113) (v := (nI 1)) D10_bottleLine_113 (by decide) ?_
  refine J_callVTR (pc := 114) (ac := [.int _]) D10_bottleLine_114 m10_fresher_v t1477 (c10_fresher (d := D - 2) (k := 1) (by decide)) (by omega) rfl rfl rfl rfl (fun _ => rfl) rfl rfl rfl ?_
  rw [show A6 3 (6 + 1) = nI (nbR R) from by rw [← hA6, ← hA5, ← hA4, ← hA3]; exact e7]
  refine J_iconst (pc := 117) (v := (nI 1)) D10_bottleLine_117 (by decide) ?_
  refine J_iadd (pc := 118) D10_bottleLine_118 ?_
  rw [nI_add]
  refine J_callVT (pc := 119) (ac := [.int _, .int _]) D10_bottleLine_119 m10_reads_v t1431 (c10_reads (d := D - 2) (k := 1) (by decide)) (by omega) rfl rfl rfl rfl rfl rfl rfl (fun r w' hq hl => ?_)
  obtain ⟨rfl, rfl⟩ := hq
  refine J_vret (pc := 122) D10_bottleLine_122 rfl ?_
  have hFF : FLn s2 A s7 (upA A6 3 (upd (A6 3) (6 + 1) (nI (nbR R + 1)))) := by
    refine (FLn.fs hS).tr (FLn.tr (s' := s) (A' := A3) ?_ ?_)
    · rw [← hA3]
      exact FLn.tr (FLn.up (k := 6) (j := 10 + nbR R) (x := v1) (by decide) (by show 10 ≤ 10 + nbR R; omega)) (FLn.tr (FLn.up (k := 7) (j := 10 + nbR R) (x := v2) (by decide) (by show 10 ≤ 10 + nbR R; omega)) (FLn.up (k := 8) (j := 10 + nbR R) (x := v3) (by decide) (by show 10 ≤ 10 + nbR R; omega)))
    · refine (FLn.fs a5).tr (FLn.tr (FLn.up (k := 9) (j := 10 + nbR R) (x := v5) (by decide) (by show 10 ≤ 10 + nbR R; omega)) ?_)
      rw [hA4]
      refine (FLn.fs a6).tr (FLn.tr (FLn.up (k := 10) (j := 10 + nbR R) (x := v6) (by decide) (by show 10 ≤ 10 + nbR R; omega)) ?_)
      rw [hA5]
      refine (FLn.fs a7).tr (FLn.tr (FLn.up (k := 11) (j := 10 + nbR R) (x := v7) (by decide) (by show 10 ≤ 10 + nbR R; omega)) ?_)
      rw [hA6]
      exact FLn.up (k := 3) (by decide) (by show 6 ≤ 6 + 1; omega)
  have hk : ∀ k, (k < 23 ∨ 28 < k) → s7 k = s2 k := fun k hk => (a7 k hk).trans ((a6 k hk).trans ((a5 k hk).trans (hS k hk)))
  refine ⟨rfl, s7, _, rfl, hFF, hk 21 (by decide), by rw [botR_1 hf]; exact b7, fun q => ?_⟩
  rw [botR_1 hf] at q
  have q6 := bC6_0 q
  have q5 := bC5_0 q6
  have q4 := bC4_0 q5
  obtain ⟨⟨w1, w2, w3⟩, p2, p3⟩ := hv q4
  obtain ⟨x5, -, hx5, ex5⟩ := n_in (by decide) (by decide) (c5 q5).2
  obtain ⟨x6, -, hx6, ex6⟩ := n_in (by decide) (by decide) (c6 q6).2
  have hA' : ∀ k, k ≠ 3 → (k < 6 ∨ 11 < k) → A6 k = A k := fun k a b => by rw [← hA6, upA_n (by omega), ← hA5, upA_n (by omega), ← hA4, upA_n (by omega), ← hA3, upA_n (by omega), upA_n (by omega), upA_n (by omega)]
  refine hG.bot (v1 := v1) (v2 := v2) (v3 := v3) (v4 := v5) (v5 := v6) (v6 := v7) hf (botR_2 hf w1 w2 w3 (c5 q5).1 (c6 q6).1 (c7 q).1) ?_ ?_ ?_ ?_ ?_ ?_ ?_ (fun k a b => by rw [upA_n a]; exact hA' k a b) p2 p3 ⟨x5, by omega, ex5⟩ ⟨x6, by omega, ex6⟩ ((hk 20 (by decide)).trans e20) ((hk 31 (by decide)).trans e31) ((hk 32 (by decide)).trans e32)
  · rw [upA_n (by decide), ← hA6, upA_n (by decide), ← hA5, upA_n (by decide), ← hA4, upA_n (by decide), ← hA3]; rfl
  · rw [upA_n (by decide), ← hA6, upA_n (by decide), ← hA5, upA_n (by decide), ← hA4, upA_n (by decide), ← hA3]; rfl
  · rw [upA_n (by decide), ← hA6, upA_n (by decide), ← hA5, upA_n (by decide), ← hA4, upA_n (by decide), ← hA3]; rfl
  · rw [upA_n (by decide), ← hA6, upA_n (by decide), ← hA5, upA_n (by decide), ← hA4, upA_s, ← hA3]; rfl
  · rw [upA_n (by decide), ← hA6, upA_n (by decide), ← hA5, upA_s, ← hA4, ← hA3]; rfl
  · rw [upA_n (by decide), ← hA6, upA_s, ← hA5, ← hA4, ← hA3]; rfl
  · rw [upA_s, ← hA6, ← hA5, ← hA4, ← hA3]; rfl

theorem c10_bottleLine {K : TK} {L cnt : Nat} (hK : KT K L cnt) {L0 : LL} {M : Nat → MR} {D : Nat} {s0 s2 : Nat → Int32} {A : Nat → Nat → Int32} {R : RS} (hD : 20 ≤ D) (hTP : TP K.2.2.1 (A 1) L) (hG : GIv s0 A R) (hf : nbR R < 10) (b2 : CRl K L cnt s2 (stepC K R.1)) (e20 : s2 20 = s0 20 ||| bt 1) (e31 : s2 31 = s0 31) (e32 : s2 32 = s0 32) : Tr D 0 0 m10_bottleLine [.ref 0, .int (nI (10 + nbR R))] (modW s2 A L0 M) (fun r w' => r = none ∧ ∃ s' A', w' = modW s' A' L0 M ∧ FLn s2 A s' A' ∧ s' 21 = s2 21 ∧ CRl K L cnt s' (botR K R).1 ∧ ((botR K R).1.2.1 = 0 → GIv s' A' (botR K R))) := by
  have e6 : A 3 6 = nI (npR R) := hG.1.1
  have e7 : A 3 7 = nI (nbR R) := hG.1.2.1
  have hnp : npR R ≤ 5 := hG.2.1.2.2.2.1
  have hnb : nbR R ≤ 10 := hG.2.1.2.2.2.2.1
  have hnm : ∀ i, i < npR R → A 4 (5 + i) = arR R 1 i := fun i hi => (hG.1.2.2.2.2.2.2.1 i hi).1
  refine Tr.intro (by decide) rfl ?_
  refine J_aload_n (pc := 0) D10_bottleLine_0 rfl ?_
  refine J_getf (pc := 1) D10_bottleLine_1 fl10_22 rfl rfl ?_
  refine J_iload_n (pc := 4) D10_bottleLine_4 rfl ?_
  refine J_aload_n (pc := 5) D10_bottleLine_5 rfl ?_
  refine J_aload_n (pc := 6) D10_bottleLine_6 rfl ?_
  refine J_getf (pc := 7) D10_bottleLine_7 fl10_22 rfl rfl ?_
  refine J_bipush (pc := 10) (v := (nI 10)) D10_bottleLine_10 (by decide) ?_
  refine J_aload_n (pc := 12) D10_bottleLine_12 rfl ?_
  refine J_iconst (pc := 13) (v := (nI 1)) D10_bottleLine_13 (by decide) ?_
  refine J_callVTR (pc := 14) (ac := [.int _]) D10_bottleLine_14 m10_fresher_v t1477 (c10_fresher (d := D - 2) (k := 1) (by decide)) (by omega) rfl rfl rfl rfl (fun _ => rfl) rfl rfl rfl ?_
  rw [show A 3 (6 + 1) = nI (nbR R) from e7]
  refine J_callVT (pc := 17) (ac := [.ref _, .int _, .int _]) D10_bottleLine_17 m10_fresh_v t1481 (c10_freshB (d := D - 8) hK hTP b2 hnb (f := arR R 4) (fun i hi => (hG.1.2.2.2.2.2.2.2.1 i hi).1)) (by omega) rfl rfl rfl rfl rfl rfl rfl (fun r w' hq hl => ?_)
  obtain ⟨v3, s3, hr, rfl, a3, b3, c3⟩ := hq
  cases hr
  rw [show newC K (wkI (plL (arR R 4) (K.2.2.2.2.2 (stepC K R.1).1) (nbR R) 0)) (stepC K R.1) = bC2 K R from rfl] at b3 c3
  refine J_mast (pc := 20) D10_bottleLine_20 ma_6 rfl (by omega) rfl ?_
  generalize hA1 : upA A 6 (upd (A 6) (10 + nbR R) v3) = A1
  have hTP1 : TP K.2.2.1 (A1 1) L := by rw [← hA1]; exact hTP
  refine J_aload_n (pc := 21) D10_bottleLine_21 rfl ?_
  refine J_getf (pc := 22) D10_bottleLine_22 fl10_25 rfl rfl ?_
  refine J_iload_n (pc := 25) D10_bottleLine_25 rfl ?_
  refine J_aload_n (pc := 26) D10_bottleLine_26 rfl ?_
  refine J_callVT (pc := 27) (ac := []) D10_bottleLine_27 m10_manAhead_v t1496 (c10_manAhead (d := D - 8) (A := A1) hK hTP1 b3 hnp (by rw [← hA1]; exact e6) (f := arR R 1) (fun i hi => by rw [← hA1]; exact hnm i hi)) (by omega) rfl rfl rfl rfl rfl rfl rfl (fun r w' hq hl => ?_)
  obtain ⟨v4, s4, hr, rfl, a4, b4, c4⟩ := hq
  cases hr
  have eP : bC3 K R = goC K (hanC K (bQ1 K R) (bC2 K R)) := perC_e (fun _ _ q => q)
  rw [show goC K (hanC K (wkI (plL (arR R 1) (K.2.2.2.2.2 (bC2 K R).1) (npR R) 0)) (bC2 K R)) = bC3 K R from eP.symm] at b4 c4
  refine J_mast (pc := 30) D10_bottleLine_30 ma_7 rfl (by omega) rfl ?_
  generalize hA2 : upA A1 7 (upd (A1 7) (10 + nbR R) v4) = A2
  have hTP2 : TP K.2.2.1 (A2 1) L := by rw [← hA2]; exact hTP1
  refine J_aload_n (pc := 31) D10_bottleLine_31 rfl ?_
  refine J_getf (pc := 32) D10_bottleLine_32 fl10_28 rfl rfl ?_
  refine J_iload_n (pc := 35) D10_bottleLine_35 rfl ?_
  refine J_aload_n (pc := 36) D10_bottleLine_36 rfl ?_
  refine J_callVT (pc := 37) (ac := []) D10_bottleLine_37 m10_manAtHand_v t1500 (c10_manAtHand (d := D - 8) (A := A2) hK hTP2 b4 hnp (by rw [← hA2, ← hA1]; exact e6) (f := arR R 1) (fun i hi => by rw [← hA2, ← hA1]; exact hnm i hi)) (by omega) rfl rfl rfl rfl rfl rfl rfl (fun r w' hq hl => ?_)
  obtain ⟨v5, s5, hr, rfl, a5, b5, c5⟩ := hq
  cases hr
  rw [show hanC K (wkI (plL (arR R 1) (K.2.2.2.2.2 (bC3 K R).1) (npR R) 0)) (bC3 K R) = hanC K (bQ2 K R) (bC3 K R) from rfl] at b5 c5
  refine J_mast (pc := 40) D10_bottleLine_40 ma_8 rfl (by omega) rfl ?_
  generalize hA3 : upA A2 8 (upd (A2 8) (10 + nbR R) v5) = A3
  have hTP3 : TP K.2.2.1 (A3 1) L := by rw [← hA3]; exact hTP2
  refine J_aload_n (pc := 41) D10_bottleLine_41 rfl ?_
  refine J_getf (pc := 42) D10_bottleLine_42 fl10_193 rfl rfl ?_
  rw [b5.1]
  refine J_if_ne (pc := 45) (tgt := 68) D10_bottleLine_45 (by decide) (fun h45 => ?_) (fun h45 => ?_)
  · refine J_aload_n (pc := 68) D10_bottleLine_68 rfl ?_
    refine J_callVT (pc := 69) (ac := []) D10_bottleLine_69 m10_goOn_v t1504 (c10_goOn (d := D - 8) hK hTP3 b5) (by omega) rfl rfl rfl rfl rfl rfl rfl (fun r w' hq hl => ?_)
    obtain ⟨rfl, s7, rfl, a7, b7⟩ := hq
    have eC4 : bC4 K R = goC K (hanC K (bQ2 K R) (bC3 K R)) := by
      unfold bC4
      rw [per5]
      exact congrArg (goC K) (if_neg (fun z => h45 z.1))
    refine L10_bl72 hK (by omega) hTP hG hf (a3.tr (a4.tr (a5.tr a7))) (by rw [eC4]; exact b7) e20 e31 e32 (v1 := v3) (v2 := v4) (v3 := v5) (by rw [← hA3, ← hA2, ← hA1]; rfl) (fun q => ?_)
    exact absurd (by rw [eC4, goC_f] at q; exact q) h45
  · have h45' := eq_true h45
    have hh := han_0 h45
    have q3 : (bC3 K R).2.1 = 0 := hh.1
    have q3' : (goC K (hanC K (bQ1 K R) (bC2 K R))).2.1 = 0 := by rw [← eP]; exact q3
    have q2' := han_0 (by rw [goC_f] at q3'; exact q3')
    have q2 : (bC2 K R).2.1 = 0 := q2'.1
    have hq1 := q2'.2.2.2
    have ew : bQ1 K R = bW K R := (bW_e q3).symm
    have e5v : v5 = bQ2 K R := c5 h45
    have e4v : v4 = bQ1 K R := c4 q3
    refine J_aload_n (pc := 48) D10_bottleLine_48 rfl ?_
    refine J_getf (pc := 49) D10_bottleLine_49 fl10_28 rfl rfl ?_
    refine J_iload_n (pc := 52) D10_bottleLine_52 rfl ?_
    refine J_mald (pc := 53) D10_bottleLine_53 ma_8 rfl (by omega) rfl ?_
    refine J_aload_n (pc := 54) D10_bottleLine_54 rfl ?_
    refine J_getf (pc := 55) D10_bottleLine_55 fl10_25 rfl rfl ?_
    refine J_iload_n (pc := 58) D10_bottleLine_58 rfl ?_
    refine J_mald (pc := 59) D10_bottleLine_59 ma_7 rfl (by omega) rfl ?_
    rw [show A3 8 (10 + nbR R) = v5 from by rw [← hA3, upA_s, pk_us], show A3 7 (10 + nbR R) = v4 from by rw [← hA3, ← hA2]; exact pk_us]
    refine J_icmp_ne (pc := 60) (tgt := 68) D10_bottleLine_60 (by decide) (fun h60 => ?_) (fun h60 => ?_)
    · replace h60 : ¬ bQ2 K R = bW K R := fun z => h60 (by rw [e5v, e4v, z, ew])
      refine J_aload_n (pc := 68) D10_bottleLine_68 rfl ?_
      refine J_callVT (pc := 69) (ac := []) D10_bottleLine_69 m10_goOn_v t1504 (c10_goOn (d := D - 8) hK hTP3 b5) (by omega) rfl rfl rfl rfl rfl rfl rfl (fun r w' hq hl => ?_)
      obtain ⟨rfl, s7, rfl, a7, b7⟩ := hq
      have eC4 : bC4 K R = goC K (hanC K (bQ2 K R) (bC3 K R)) := by
        unfold bC4
        rw [per5]
        exact congrArg (goC K) (if_neg (fun z => h60 z.2))
      refine L10_bl72 hK (by omega) hTP hG hf (a3.tr (a4.tr (a5.tr a7))) (by rw [eC4]; exact b7) e20 e31 e32 (v1 := v3) (v2 := v4) (v3 := v5) (by rw [← hA3, ← hA2, ← hA1]; rfl) (fun q => ?_)
      obtain ⟨p4, hp4, ep4⟩ := wk_in (show ¬ wkI (plL (arR R 1) (K.2.2.2.2.2 (bC2 K R).1) (npR R) 0) = -1 from hq1)
      obtain ⟨p5, hp5, ep5⟩ := wk_in (show ¬ wkI (plL (arR R 1) (K.2.2.2.2.2 (bC3 K R).1) (npR R) 0) = -1 from hh.2.2.2)
      exact ⟨⟨c3 q2, e4v.trans ew, e5v.trans (bX_e q).symm⟩, ⟨p4, hp4, e4v.trans ep4⟩, ⟨p5, hp5, e5v.trans ep5⟩⟩
    · have h60' := eq_true h60
      have eq9 : bQ2 K R = bW K R := by rw [← ew, ← e4v, ← e5v]; exact h60
      refine J_aload_n (pc := 63) D10_bottleLine_63 rfl ?_
      refine J_iconst (pc := 64) (v := (nI 5)) D10_bottleLine_64 (by decide) ?_
      refine J_callVT (pc := 65) (ac := [.int _]) D10_bottleLine_65 m10_wrong_v t1469 (c10_wrong (d := D - 2) (C := hanC K (bQ2 K R) (bC3 K R)) b5 (by decide)) (by omega) rfl rfl rfl rfl rfl rfl rfl (fun r w' hq hl => ?_)
      obtain ⟨rfl, s6, rfl, a6, b6⟩ := hq
      refine J_aload_n (pc := 68) D10_bottleLine_68 rfl ?_
      refine J_callVT (pc := 69) (ac := []) D10_bottleLine_69 m10_goOn_v t1504 (c10_goOn (d := D - 8) hK hTP3 b6) (by omega) rfl rfl rfl rfl rfl rfl rfl (fun r w' hq hl => ?_)
      obtain ⟨rfl, s7, rfl, a7, b7⟩ := hq
      have eC4 : bC4 K R = goC K (refC K (nI 5) (hanC K (bQ2 K R) (bC3 K R))) := by
        unfold bC4
        rw [per5]
        exact congrArg (goC K) (if_pos ⟨h45, eq9⟩)
      refine L10_bl72 hK (by omega) hTP hG hf (a3.tr (a4.tr (a5.tr (a6.tr a7)))) (by rw [eC4]; exact b7) e20 e31 e32 (v1 := v3) (v2 := v4) (v3 := v5) (by rw [← hA3, ← hA2, ← hA1]; rfl) (fun q => ?_)
      exact absurd (by rw [eC4, goC_f] at q; exact q) (ref_nz h45 (by decide))
theorem L10_lb1 {K : TK} {L cnt : Nat} (hK : KT K L cnt) {L0 : LL} {M : Nat → MR} {D : Nat} {s s2 : Nat → Int32} {A : Nat → Nat → Int32} {R : RS} (hD : 140 ≤ D) (hTP : TP K.2.2.1 (A 1) L) (hG : GIv s A R) (hf : nbR R < 10) (b2 : CRl K L cnt s2 (stepC K R.1)) (h0 : R.1.2.1 = 0) (e20 : s2 20 = s 20 ||| bt 1) (e31 : s2 31 = s 31) (e32 : s2 32 = s 32) (e21 : s2 21 = s 21) (hF2 : FLn s A s2 A) : J m10_line D 0 0 40 184 [(0, .ref 0), (1, .int (nI 1))] [] (modW s2 A L0 M) 0 0 (lnQ K L cnt L0 M s A (paC K (nI 31) (botR K R))) := by
  have e6 : A 3 6 = nI (npR R) := hG.1.1
  have e7 : A 3 7 = nI (nbR R) := hG.1.2.1
  have e8 : A 3 8 = nI (nnR R) := hG.1.2.2.1
  have hnp : npR R ≤ 5 := hG.2.1.2.2.2.1
  have hnb : nbR R ≤ 10 := hG.2.1.2.2.2.2.1
  have hnn : nnR R ≤ 8 := hG.2.1.2.2.2.2.2.1
  refine J_aload_n (pc := 184) D10_line_184 rfl ?_
  refine J_bipush (pc := 185) (v := (nI 10)) D10_line_185 (by decide) ?_
  refine J_aload_n (pc := 187) D10_line_187 rfl ?_
  refine J_iconst (pc := 188) (v := (nI 1)) D10_line_188 (by decide) ?_
  refine J_callVTR (pc := 189) (ac := [.int _]) D10_line_189 m10_fresher_v t1477 (c10_fresher (d := D - 2) (k := 1) (by decide)) (by omega) rfl rfl rfl rfl (fun _ => rfl) rfl rfl rfl ?_
  rw [show A 3 (6 + 1) = nI (nbR R) from e7]
  refine J_iadd (pc := 192) D10_line_192 ?_
  rw [nI_add]
  refine J_callVT (pc := 193) (ac := [.int _]) D10_line_193 m10_bottleLine_v t1492 (c10_bottleLine (D := D - 1) hK (by omega) hTP hG hf b2 e20 e31 e32) (by omega) rfl rfl rfl rfl rfl rfl rfl (fun r w' hq hl => ?_)
  obtain ⟨rfl, s3, A3, rfl, f3, e3, b3, g3⟩ := hq
  refine J_goto (pc := 196) (tgt := 324) D10_line_196 (by decide) ?_
  refine J_lk [(0, .ref 0)] rfl ?_
  exact L10_ln324 hK (by omega) (hF2.tr f3) (f3.tp hTP) (e3.trans e21) b3 g3
theorem L10_ln1 {K : TK} {L cnt : Nat} (hK : KT K L cnt) {L0 : LL} {M : Nat → MR} {D : Nat} {s : Nat → Int32} {A : Nat → Nat → Int32} {R : RS} (hD : 140 ≤ D) (hTP : TP K.2.2.1 (A 1) L) (h : CRl K L cnt s R.1) (h0 : R.1.2.1 = 0) (hG : GIv s A R) (hk : kdR K R = nI 1) : J m10_line D 0 0 40 0 [(0, .ref 0)] [] (modW s A L0 M) 0 0 (lnQ K L cnt L0 M s A (linR K R)) := by
  have kvr := (h.2.2 h0).2.2.2.1
  have h27 : s 27 = 0 := by rw [h.1]; exact h0
  have hl := (kv_lin kvr).mpr (Or.inr (Or.inl hk))
  have hva : s 26 = nI 1 := (kv_w8 kvr ⟨1, by decide, hk⟩).trans hk
  have e6 : A 3 6 = nI (npR R) := hG.1.1
  have e7 : A 3 7 = nI (nbR R) := hG.1.2.1
  have e8 : A 3 8 = nI (nnR R) := hG.1.2.2.1
  have hnp : npR R ≤ 5 := hG.2.1.2.2.2.1
  have hnb : nbR R ≤ 10 := hG.2.1.2.2.2.2.1
  have hnn : nnR R ≤ 8 := hG.2.1.2.2.2.2.2.1
  have e9 : linR1 K R = botR K R := by
    unfold linR1
    rw [if_neg (fun q => by rw [show K.2.2.2.1 R.1.1 = nI 1 from hk] at q; exact absurd q (by decide)), if_pos hk]
  by_cases hf : nbR R < 10
  · have e9 : linR K R = paC K (nI 31) (botR K R) := by unfold linR; rw [e9]
    rw [e9]
    refine J_aload_n (pc := 0) D10_line_0 rfl ?_
    refine J_getf (pc := 1) D10_line_1 fl10_158 rfl rfl ?_
    refine J_if_ne (pc := 4) (tgt := 15) D10_line_4 (by decide) (fun h4 => absurd hl.1 h4) (fun h4 => ?_)
    refine J_aload_n (pc := 7) D10_line_7 rfl ?_
    refine J_getf (pc := 8) D10_line_8 fl10_168 rfl rfl ?_
    refine J_iconst (pc := 11) (v := (nI 5)) D10_line_11 (by decide) ?_
    refine J_icmp_le (pc := 12) (tgt := 21) D10_line_12 (by decide) (fun h12 => ?_) (fun h12 => absurd hl.2 h12)
    refine J_aload_n (pc := 21) D10_line_21 rfl ?_
    refine J_getf (pc := 22) D10_line_22 fl10_168 rfl rfl ?_
    rw [hva]
    refine J_istore_n (pc := 25) D10_line_25 rfl ?_
    refine J_aload_n (pc := 26) D10_line_26 rfl ?_
    refine J_iload_n (pc := 27) D10_line_27 rfl ?_
    refine J_callVTR (pc := 28) (ac := [.int _]) D10_line_28 m10_isFull_v t1473 (c10_isFull1 (d := D - 3)) (by omega) rfl rfl rfl rfl (fun _ => rfl) rfl rfl rfl ?_
    refine J_if_eq (pc := 31) (tgt := 42) D10_line_31 (by decide) (fun h31 => ?_) (fun h31 => absurd (i01_f (fun q => absurd (nI_eqI (by omega) (by decide) ((show A 3 7 = _ from e7).symm.trans q)) (by omega))) h31)
    refine J_iload_n (pc := 42) D10_line_42 rfl ?_
    refine J_iconst (pc := 43) (v := (nI 3)) D10_line_43 (by decide) ?_
    refine J_icmp_eq (pc := 44) (tgt := 52) D10_line_44 (by decide) (fun h44 => absurd h44 (by decide)) (fun h44 => ?_)
    refine J_iload_n (pc := 47) D10_line_47 rfl ?_
    refine J_iconst (pc := 48) (v := (nI 4)) D10_line_48 (by decide) ?_
    refine J_icmp_ne (pc := 49) (tgt := 69) D10_line_49 (by decide) (fun h49 => ?_) (fun h49 => absurd h49 (by decide))
    refine J_aload_n (pc := 69) D10_line_69 rfl ?_
    refine J_getf (pc := 70) D10_line_70 fl10_193 rfl rfl ?_
    rw [h27]
    refine J_if_eq (pc := 73) (tgt := 77) D10_line_73 (by decide) (fun h73 => ?_) (fun h73 => absurd rfl h73)
    refine J_aload_n (pc := 77) D10_line_77 rfl ?_
    refine J_dup (pc := 78) D10_line_78 rfl ?_
    refine J_getf (pc := 79) D10_line_79 fl10_222 rfl rfl ?_
    refine J_iconst (pc := 82) (v := (nI 1)) D10_line_82 (by decide) ?_
    refine J_iload_n (pc := 83) D10_line_83 rfl ?_
    refine J_ishl (pc := 84) D10_line_84 ?_
    refine J_ior (pc := 85) D10_line_85 ?_
    refine J_mput (pc := 86) D10_line_86 fp10_222 ms_20 ?_
    refine J_aload_n (pc := 89) D10_line_89 rfl ?_
    refine J_callVT (pc := 90) (ac := []) D10_line_90 m10_token_v t1435 (tokC_l (d := D - 7) (C := R.1) hK hTP (s := updI s 20 (s 20 ||| bt 1)) (h.c (fun k _ _ => updI_n (by omega))) h0) (by omega) rfl rfl rfl rfl rfl rfl rfl (fun r w' hq hl => ?_)
    obtain ⟨rfl, s2, rfl, a2, b2⟩ := hq
    have e20 : s2 20 = s 20 ||| bt 1 := (a2 20 (by decide)).trans updI_s
    have hF2 : FLn s A s2 A := (FLn.s21 (Or.inl rfl)).tr (FLn.fs a2)
    have e31 : s2 31 = s 31 := (a2 31 (by decide)).trans (updI_n (by decide))
    have e32 : s2 32 = s 32 := (a2 32 (by decide)).trans (updI_n (by decide))
    have e21 : s2 21 = s 21 := (a2 21 (by decide)).trans (updI_n (by decide))
    refine J_iload_n (pc := 93) D10_line_93 rfl ?_
    refine J_tsw (pc := 94) 0 [128, 184, 199, 290, 305] 320 D10_line_94 (by decide) (by decide) rfl (by decide) (by decide) (fun j9 hj9 h94 => ?_) (fun h94 => absurd rfl (h94 1 (by decide)))
    have hj5 : j9 < 5 := hj9
    have ej := nI_eqI (by decide) (by omega) h94
    obtain rfl : j9 = 1 := by omega
    clear hj9 hj5 ej h94
    exact L10_lb1 hK hD hTP hG hf b2 h0 e20 e31 e32 e21 hF2
  · have e9 : linR K R = (refC K (nI 2) R.1, R.2) := lin_f h0 (by decide) (by rw [e9]; exact if_neg hf)
    rw [e9]
    refine J_aload_n (pc := 0) D10_line_0 rfl ?_
    refine J_getf (pc := 1) D10_line_1 fl10_158 rfl rfl ?_
    refine J_if_ne (pc := 4) (tgt := 15) D10_line_4 (by decide) (fun h4 => absurd hl.1 h4) (fun h4 => ?_)
    refine J_aload_n (pc := 7) D10_line_7 rfl ?_
    refine J_getf (pc := 8) D10_line_8 fl10_168 rfl rfl ?_
    refine J_iconst (pc := 11) (v := (nI 5)) D10_line_11 (by decide) ?_
    refine J_icmp_le (pc := 12) (tgt := 21) D10_line_12 (by decide) (fun h12 => ?_) (fun h12 => absurd hl.2 h12)
    refine J_aload_n (pc := 21) D10_line_21 rfl ?_
    refine J_getf (pc := 22) D10_line_22 fl10_168 rfl rfl ?_
    rw [hva]
    refine J_istore_n (pc := 25) D10_line_25 rfl ?_
    refine J_aload_n (pc := 26) D10_line_26 rfl ?_
    refine J_iload_n (pc := 27) D10_line_27 rfl ?_
    refine J_callVTR (pc := 28) (ac := [.int _]) D10_line_28 m10_isFull_v t1473 (c10_isFull1 (d := D - 3)) (by omega) rfl rfl rfl rfl (fun _ => rfl) rfl rfl rfl ?_
    refine J_if_eq (pc := 31) (tgt := 42) D10_line_31 (by decide) (fun h31 => absurd h31 (by rw [i01_t (show A 3 7 = nI 10 by rw [e7, show nbR R = 10 by omega])]; decide)) (fun h31 => ?_)
    refine J_aload_n (pc := 34) D10_line_34 rfl ?_
    refine J_iconst (pc := 35) (v := (nI 2)) D10_line_35 (by decide) ?_
    refine J_callVT (pc := 36) (ac := [.int _]) D10_line_36 m10_wrong_v t1469 (c10_wrong (d := D - 2) (C := R.1) h (by decide)) (by omega) rfl rfl rfl rfl rfl rfl rfl (fun r w' hq hl => ?_)
    obtain ⟨rfl, s1, rfl, a1, b1⟩ := hq
    refine J_goto (pc := 39) (tgt := 69) D10_line_39 (by decide) ?_
    refine J_aload_n (pc := 69) D10_line_69 rfl ?_
    refine J_getf (pc := 70) D10_line_70 fl10_193 rfl rfl ?_
    rw [b1.1]
    refine J_if_eq (pc := 73) (tgt := 77) D10_line_73 (by decide) (fun h73 => absurd h73 (ref_nz h0 (by decide))) (fun h73 => ?_)
    refine J_vret (pc := 76) D10_line_76 rfl ?_
    exact ⟨rfl, s1, A, rfl, FLn.fs a1, b1, fun q => absurd q (ref_nz h0 (by decide))⟩
