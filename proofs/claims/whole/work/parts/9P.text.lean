/-! TEXT IN THE LAW (own program mod_r9.py) -/
theorem RT.hv {A A' : Nat → Nat → Int32} {T : TV} {np nb nn : Nat} (h : RT A T np nb nn) (hT : WT T np nb nn) (e : ∀ k i, i < hfK k → A' k i = A k i) : RT A' T np nb nn := by
  obtain ⟨h1, h2, h3, h4, h5, h6, h7, h8, h9, hL, h10⟩ := h
  have np5 := hT.2.2.2.1
  have nb10 := hT.2.2.2.2.1
  have nn8 := hT.2.2.2.2.2.1
  refine ⟨(e 3 0 (by decide)).trans h1, (e 3 1 (by decide)).trans h2, (e 3 2 (by decide)).trans h3, (e 3 3 (by decide)).trans h4, (e 3 4 (by decide)).trans h5, (e 3 5 (by decide)).trans h6, fun p hp => ?_, fun b hb => ?_, fun n hn => ?_, fun k hk => ?_, h10⟩
  · rw [e 4 p (show p < 5 by omega), e 5 p (show p < 5 by omega)]; exact h7 p hp
  · rw [e 6 b (show b < 10 by omega), e 7 b (show b < 10 by omega), e 8 b (show b < 10 by omega), e 9 b (show b < 10 by omega), e 10 b (show b < 10 by omega), e 11 b (show b < 10 by omega)]; exact h8 b hb
  · rw [e 12 n (show n < 8 by omega), e 13 n (show n < 8 by omega), e 14 n (show n < 8 by omega), e 15 n (show n < 8 by omega)]; exact h9 n hn
  · have := hL k hk
    unfold LR at this ⊢
    rw [e 16 k (show k < 3 by omega), e 17 k (show k < 3 by omega)]
    rcases this with h | ⟨p, q, hh, a1, a2, a3, a4, a5, a6, a7, a8, a9⟩
    · exact Or.inl h
    · exact Or.inr ⟨p, q, hh, a1, a2, a3, a4, a5, a6, a7, a8, fun i hp hq => by
        rw [e 18 i (show i < 64 by omega), e 19 i (show i < 64 by omega)]
        exact a9 i hp hq⟩
theorem zwd {t : Nat} {hi : Int32} {T : TV} {V : CV} {S : SB} {U : UV} {N : NV} {E : EV} {R : Nat → Int32} {I : CV} {K : TK} {G : GV} {X : TV} {s : Nat → Int32} {A : Nat → Nat → Int32} {LL1 : LL} {M : Nat → MR} {f : Nat → Int64} : (ZW t hi T V S U N E R I K G X s A LL1 M f).drop 90 = (modW s A LL1 M).map (rcF (fun k => 90 + k)) ++ [lA 1 f] := rfl
theorem tcS_l {tl hi : Int32} {T : TV} {V : CV} {S : SB} {U : UV} {N : NV} {E : EV} {R : Nat → Int32} {I : CV} {K : TK} {G : GV} {X : TV} : (tcS tl hi T V S U N E R I K G X).length = 90 := rfl
theorem cs_1N {L : Nat} {xs : Nat → Int32} {i k n : Nat} (hL : L ≤ 3072) (hi6 : i + 6 ≤ L) (hk : k ≤ 601024) (hn : n ≤ 7293034) (ok : LOK L xs i k n) {t np nb nn : Nat} {hi : Int32} {T : TV} {V : CV} {S : SB} {U : UV} {N : NV} {E : EV} {R : Nat → Int32} {I : CV} {K : TK} {G : GV} {X : TV} {s : Nat → Int32} {A : Nat → Nat → Int32} {LL1 : LL} {M : Nat → MR} {f : Nat → Int64} (h : REL t np nb nn hi T V U N I K G s A M) (hx : ixB (t + 1) (xs (i + 1)) = false) : JL L xs 273 (lsL i) [] (ZW t hi T V S U N E R I K G X s A LL1 M f) k n := by
  refine L_aload_n (pc := 273) DL_273 rfl ?_
  refine L_aloadS (pc := 274) DL_274 rfl ?_
  refine L_iload (pc := 275) DL_275 rfl ?_
  refine L_iconst (pc := 277) (v := nI 1) DL_277 (by decide) ?_
  refine L_iadd (pc := 278) DL_278 ?_
  refine L_sld (pc := 279) (i := i + 1) DL_279 (nI_addN i 1) (by omega) (by omega) ?_
  refine L_cR (pc := 280) (wc := tcZ (nI t) hi T V S U N E R I K G X) (ws := ((ZW t hi T V S U N E R I K G X s A LL1 M f)).drop 90) (ac := [.int (xs (i + 1))]) (rest := []) DL_280 m9_text_v t482 (c9_textN (d := 0) h.t7 hx) (by omega) rfl rfl rfl rfl rfl rfl hk hn ?_
  refine L_aload_n (pc := 283) DL_283 rfl ?_
  refine L_aloadS (pc := 284) DL_284 rfl ?_
  refine L_iload (pc := 285) DL_285 rfl ?_
  refine L_iconst (pc := 287) (v := nI 1) DL_287 (by decide) ?_
  refine L_iadd (pc := 288) DL_288 ?_
  refine L_sld (pc := 289) (i := i + 1) DL_289 (nI_addN i 1) (by omega) (by omega) ?_
  refine L_m (pc := 290) (ac := [.int (xs (i + 1))]) DL_290 m10_text_v t1427 (c10_textN (d := 0) h.t7 h.e2 hx) (by omega) rfl rfl (fun _ => rfl) rfl rfl rfl hk hn (fun r w' hq => ?_)
  obtain ⟨rfl, rfl⟩ := hq
  have hR : REL t np nb nn hi T V U N I K G (updI s 0 (nI 0)) A M := h.px PX.s0
  exact L_icmp_eq (pc := 293) (tgt := 1413) DL_293 (by decide) (fun _ => ok _ _ _ _ _ _ _ _ _ _ _ _ _ _ _ _ _ _ _ _ _ (hR)) (fun hne => absurd rfl hne)
theorem cs_1T {L : Nat} {xs : Nat → Int32} {i k n : Nat} (hL : L ≤ 3072) (hi6 : i + 6 ≤ L) (hk : k ≤ 601024) (hn : n ≤ 7293034) (ok : LOK L xs i k n) {t np nb nn : Nat} {hi : Int32} {T : TV} {V : CV} {S : SB} {U : UV} {N : NV} {E : EV} {R : Nat → Int32} {I : CV} {K : TK} {G : GV} {X : TV} {s : Nat → Int32} {A : Nat → Nat → Int32} {LL1 : LL} {M : Nat → MR} {f : Nat → Int64} (h : REL t np nb nn hi T V U N I K G s A M) {l9 : Nat} (hx : xs (i + 1) = nI l9) (hl9 : l9 ≤ t) : JL L xs 273 (lsL i) [] (ZW t hi T V S U N E R I K G X s A LL1 M f) k n := by
  refine L_aload_n (pc := 273) DL_273 rfl ?_
  refine L_aloadS (pc := 274) DL_274 rfl ?_
  refine L_iload (pc := 275) DL_275 rfl ?_
  refine L_iconst (pc := 277) (v := nI 1) DL_277 (by decide) ?_
  refine L_iadd (pc := 278) DL_278 ?_
  refine L_sld (pc := 279) (i := i + 1) DL_279 (nI_addN i 1) (by omega) (by omega) ?_
  refine L_st [.int (nI l9), .ref 0] (by rw [hx]) ?_
  refine L_c (pc := 280) (wc := tcZ (nI t) hi T V S U N E R I K G X) (ws := (ZW t hi T V S U N E R I K G X s A LL1 M f).drop 90) (ac := [.int (nI l9)]) (rest := []) DL_280 m9_text_v t482 (c9_text (d := 0) h.t7 hl9 (fun h0 => txX_w h0)) (by omega) rfl rfl rfl rfl rfl rfl hk hn (fun r w' hq hl => ?_)
  have hT := c10_text (d := 0) (L0 := LL1) (M := M) (X := X) (V := V) h.t7 hl9 h.e2 h.tp
  have hW0 := txX_w (K := K) (X := X) (L := l9)
  unfold txQ at hq
  unfold txM at hT
  generalize txX K X l9 = Y at hq hT hW0
  by_cases h0 : Y.2.1.2.1 = 0
  · rw [if_pos h0] at hq
    obtain ⟨rfl, rfl⟩ := hq
    rw [zwd]
    refine L_aload_n (pc := 283) DL_283 rfl ?_
    refine L_aloadS (pc := 284) DL_284 rfl ?_
    refine L_iload (pc := 285) DL_285 rfl ?_
    refine L_iconst (pc := 287) (v := nI 1) DL_287 (by decide) ?_
    refine L_iadd (pc := 288) DL_288 ?_
    refine L_sld (pc := 289) (i := i + 1) DL_289 (nI_addN i 1) (by omega) (by omega) ?_
    refine L_st [.int (nI l9), .ref 90, .int (nI Y.1)] (by rw [hx]; rfl) ?_
    refine L_m (pc := 290) (ac := [.int (nI l9)]) (rest := [.int (nI Y.1)]) DL_290 m10_text_v t1427 hT (by omega) rfl tcS_l (fun _ => rfl) rfl rfl rfl hk hn (fun r w' hq => ?_)
    rw [if_pos h0] at hq
    obtain ⟨rfl, s', A', M', rfl, hrt, hcr, hv, eA, eM, ⟨e57, e58, e46, e47, e29, e30, e2⟩, es⟩ := hq
    refine L_icmp_eq (pc := 293) (tgt := 1413) DL_293 (by decide) (fun _ => L_swap (t := 0) (fun S' E' G' hG => ok _ (npR Y.2) (nbR Y.2) (nnR Y.2) _ _ _ _ _ _ _ _ _ _ _ _ _ _ _ _ _ ?_)) (fun hne => absurd rfl hne)
    exact ⟨hrt, hW0 h0, hcr, UR.clear (s := s) (M := M) (U := U) (V := V) U.2 e47, ⟨e57, e58, Nat.zero_le _, Or.inl rfl, fun i hi => absurd hi (Nat.not_lt_zero i)⟩, (es 48 (by omega)).trans h.e48, e46, fun hh => absurd nI_0 hh, YI.lay hv, fun hh => absurd nI_0 hh, e2, Nat.zero_le _, fun i hi => absurd hi (Nat.not_lt_zero i), by rw [hG]; exact e29, by rw [hG]; exact e30⟩
  · rw [if_neg h0] at hq
    obtain ⟨rfl, rfl⟩ := hq
    refine L_w (w2 := ZW 0 hi T V S U N E R I (txK K l9) (txG Y.2) (tvR Y.2) s A LL1 M f) zwZ ?_
    refine L_aload_n (pc := 283) DL_283 rfl ?_
    refine L_aloadS (pc := 284) DL_284 rfl ?_
    refine L_iload (pc := 285) DL_285 rfl ?_
    refine L_iconst (pc := 287) (v := nI 1) DL_287 (by decide) ?_
    refine L_iadd (pc := 288) DL_288 ?_
    refine L_sld (pc := 289) (i := i + 1) DL_289 (nI_addN i 1) (by omega) (by omega) ?_
    refine L_st [.int (nI l9), .ref 90, .int (-1)] (by rw [hx]; rfl) ?_
    refine L_m (pc := 290) (ac := [.int (nI l9)]) (rest := [.int (-1)]) DL_290 m10_text_v t1427 hT (by omega) rfl rfl (fun _ => rfl) rfl rfl rfl hk hn (fun r w' hq => ?_)
    rw [if_neg h0] at hq
    obtain ⟨rfl, s', A', rfl, eA, eH, ⟨e29, e30, e2⟩, es⟩ := hq
    refine L_icmp_eq (pc := 293) (tgt := 1413) DL_293 (by decide) (fun _ => ok _ np nb nn _ _ _ _ _ _ _ _ _ _ _ _ _ _ _ _ _ ?_) (fun hne => absurd rfl hne)
    exact ⟨h.rt.hv h.wt eH, h.wt, h.cr, ⟨(es 47 (by omega)).trans h.ur.1, h.ur.2⟩, h.nr.c (es 57 (by omega)) (es 58 (by omega)) (fun k hk => eA k (by omega)), (es 48 (by omega)).trans h.e48, (es 46 (by omega)).trans h.e46, h.ci, h.yi, h.yj, e2, Nat.zero_le _, fun i hi => absurd hi (Nat.not_lt_zero i), e29, e30⟩
theorem cs_1 {L : Nat} {xs : Nat → Int32} {i k n : Nat} (hL : L ≤ 3072) (hi6 : i + 6 ≤ L) (hk : k ≤ 601024) (hn : n ≤ 7293034) (ok : LOK L xs i k n) {t np nb nn : Nat} {hi : Int32} {T : TV} {V : CV} {S : SB} {U : UV} {N : NV} {E : EV} {R : Nat → Int32} {I : CV} {K : TK} {G : GV} {X : TV} {s : Nat → Int32} {A : Nat → Nat → Int32} {LL1 : LL} {M : Nat → MR} {f : Nat → Int64} (h : REL t np nb nn hi T V U N I K G s A M) : JL L xs 273 (lsL i) [] (ZW t hi T V S U N E R I K G X s A LL1 M f) k n := by
  by_cases hx : ixB (t + 1) (xs (i + 1)) = true
  · obtain ⟨l9, h1, h2⟩ := ixB_t hx (by have := h.t7; omega)
    exact cs_1T hL hi6 hk hn ok h h2 (by omega)
  · exact cs_1N hL hi6 hk hn ok h (by simpa using hx)
