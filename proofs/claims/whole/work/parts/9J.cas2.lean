/-! MORE CASES OF THE LAW'S SWITCH (own program mod_r6.py) -/
section RD
variable {t np nb nn : Nat} {hi : Int32} {T : TV} {V V' : CV} {U U' : UV} {N N' : NV} {I : CV} {K : TK} {G : GV} {s s' : Nat → Int32} {A A' : Nat → Nat → Int32} {M M' : Nat → MR}
theorem REL.dg (h : REL t np nb nn hi T V U N I K G s A M) (es : ∀ k, k ≠ 0 → k ≠ 35 → k ≠ 47 → s' k = s k) (eA : ∀ k, k ≠ 49 → A' k = A k) (e2 : M' 2 = M 2) (hC : CR False np nb nn (M' 0) V') (hU : UR s' M' U' V' np nb nn) (hY : YI T V' nn) : REL t np nb nn hi T V' U' N I K G s' A' M' :=
  ⟨h.rt.a20 (fun k hk => eA k (by omega)), h.wt, hC, hU, h.nr.c (es 57 (by omega) (by omega) (by omega)) (es 58 (by omega) (by omega) (by omega)) (fun k hk => eA k (by omega)), (es 48 (by omega) (by omega) (by omega)).trans h.e48, (es 46 (by omega) (by omega) (by omega)).trans h.e46, fun hh => by rw [e2]; exact h.ci hh, hY, h.yj, (es 2 (by omega) (by omega) (by omega)).trans h.e2, h.t7, by rw [eA 1 (by omega)]; exact h.tp, (es 29 (by omega) (by omega) (by omega)).trans h.e29, (es 30 (by omega) (by omega) (by omega)).trans h.e30⟩
theorem REL.nt (h : REL t np nb nn hi T V U N I K G s A M) (es : ∀ k, k ≠ 0 → k ≠ 57 → k ≠ 58 → s' k = s k) (eA : ∀ k, k ≠ 59 → k ≠ 60 → k ≠ 61 → k ≠ 62 → A' k = A k) (hN : NR s' A' N' nb) : REL t np nb nn hi T V U N' I K G s' A' M :=
  ⟨h.rt.a20 (fun k hk => eA k (by omega) (by omega) (by omega) (by omega)), h.wt, h.cr, ⟨(es 47 (by omega) (by omega) (by omega)).trans h.ur.1, h.ur.2⟩, hN, (es 48 (by omega) (by omega) (by omega)).trans h.e48, (es 46 (by omega) (by omega) (by omega)).trans h.e46, h.ci, h.yi, h.yj, (es 2 (by omega) (by omega) (by omega)).trans h.e2, h.t7, by rw [eA 1 (by omega) (by omega) (by omega) (by omega)]; exact h.tp, (es 29 (by omega) (by omega) (by omega)).trans h.e29, (es 30 (by omega) (by omega) (by omega)).trans h.e30⟩
theorem REL.kp (h : REL t np nb nn hi T V U N I K G s A M) (hM : ∀ i, i ≠ 2 → M' i = M i) (hC : CR False np nb nn (M' 2) V) : REL t np nb nn (nI 1) T V U N V K G (updI (updI s 0 (nI 0)) 46 (nI 1)) A M' :=
  ⟨h.rt, h.wt, by rw [hM 0 (by omega)]; exact h.cr, ⟨h.ur.1, h.ur.2.1, fun k hk => by rw [hM (3 + k) (by omega)]; exact h.ur.2.2 k hk⟩, h.nr.c rfl rfl (fun _ _ => rfl), h.e48, rfl, fun _ => hC, h.yi, fun _ => h.yi, h.e2, h.t7, h.tp, h.e29, h.e30⟩
theorem REL.bk (h : REL t np nb nn hi T V U N I K G s A M) : YI T (bkV hi V I) nn := by
  unfold bkV
  by_cases h0 : hi = 0
  · rw [if_pos h0]; exact h.yi
  · rw [if_neg h0]; exact h.yj h0
theorem see_r {LL1 : LL} {x b z : Int32} {w' : List EC} (h : REL t np nb nn hi T V U N I K G s A M) (hz : z = 0 ∨ z = nI 1) (hq : (¬ seOk nb N x b = true ∧ w' = modW (updI s 0 (nI 0)) A LL1 M) ∨ (seOk nb N x b = true ∧ w' = modW (updI (updI s 0 (nI 0)) 57 (nI (N.1 + 1))) (upA (upA (upA (upA A 59 (upd (A 59) N.1 x)) 60 (upd (A 60) N.1 b)) 61 (upd (A 61) N.1 z)) 62 (upd (A 62) N.1 (-1))) LL1 M)) : ∃ s' A', w' = modW s' A' LL1 M ∧ REL t np nb nn hi T V U (seN nb N x b z) I K G s' A' M := by
  rcases hq with ⟨hno, rfl⟩ | ⟨hok, rfl⟩
  · exact ⟨_, _, rfl, by rw [show seN nb N x b z = N from if_neg hno]; exact h.px PX.s0⟩
  · exact ⟨_, _, rfl, h.nt (fun k a b _ => by rw [updI_n b, updI_n a]) (fun k a b c d => by rw [upA_n d, upA_n c, upA_n b, upA_n a]) (h.nr.see hok h.wt.2.2.2.2.1 hz rfl rfl)⟩
theorem out_r {LL1 : LL} {x : Int32} {w' : List EC} (h : REL t np nb nn hi T V U N I K G s A M) (hq : (¬ ouOk N x = true ∧ w' = modW (updI s 0 (nI 0)) A LL1 M) ∨ (ouOk N x = true ∧ w' = modW (updI (updI s 0 (nI 0)) 57 (nI (N.1 + 1))) (upA A 62 (upd (A 62) N.1 x)) LL1 M)) : ∃ s' A', w' = modW s' A' LL1 M ∧ REL t np nb nn hi T V U (ouN N x) I K G s' A' M := by
  rcases hq with ⟨hno, rfl⟩ | ⟨hok, rfl⟩
  · exact ⟨_, _, rfl, by rw [show ouN N x = N from if_neg hno]; exact h.px PX.s0⟩
  · exact ⟨_, _, rfl, h.nt (fun k a b _ => by rw [updI_n b, updI_n a]) (fun k a b c d => by rw [upA_n d]) (h.nr.out hok rfl rfl)⟩
theorem known_r {LL1 : LL} {x : Int32} {w' : List EC} (h : REL t np nb nn hi T V U N I K G s A M) (hq : (¬ knOk N x = true ∧ w' = modW (updI s 0 (nI 0)) A LL1 M) ∨ (knOk N x = true ∧ w' = modW (updI (updI s 0 (nI 0)) 58 x) A LL1 M)) : ∃ s' A', w' = modW s' A' LL1 M ∧ REL t np nb nn hi T V U (knN N x) I K G s' A' M := by
  rcases hq with ⟨hno, rfl⟩ | ⟨hok, rfl⟩
  · exact ⟨_, _, rfl, by rw [show knN N x = N from if_neg hno]; exact h.px PX.s0⟩
  · exact ⟨_, _, rfl, h.nt (fun k a _ b => by rw [updI_n b, updI_n a]) (fun k a b c d => rfl) (h.nr.known hok rfl rfl)⟩
end RD
section RZ
variable {t : Nat} {hi hi1 : Int32} {T : TV} {V V1 : CV} {S S1 : SB} {U U1 : UV} {N N1 : NV} {E E1 : EV} {R R1 : Nat → Int32} {I I1 : CV} {K : TK} {G : GV} {X : TV} {s : Nat → Int32} {A : Nat → Nat → Int32} {LL1 : LL} {M : Nat → MR} {f : Nat → Int64}
theorem zwC : tcC (nI t) hi T V1 S1 U1 ++ (ZW t hi T V S U N E R I K G X s A LL1 M f).drop 46 = ZW t hi T V1 S1 U1 N E R I K G X s A LL1 M f := rfl
theorem zwD : tcD (nI t) hi T V1 S1 U1 N1 ++ (ZW t hi T V S U N E R I K G X s A LL1 M f).drop 53 = ZW t hi T V1 S1 U1 N1 E R I K G X s A LL1 M f := rfl
theorem zwY : tcY (nI t) hi1 T V1 S1 U1 N1 E1 R1 I1 [] ++ (ZW t hi T V S U N E R I K G X s A LL1 M f).drop 66 = ZW t hi1 T V1 S1 U1 N1 E1 R1 I1 K G X s A LL1 M f := rfl
end RZ
theorem cs_16 {L : Nat} {xs : Nat → Int32} {i k n : Nat} (hL : L ≤ 3072) (hi6 : i + 6 ≤ L) (hk : k ≤ 601024) (hn : n ≤ 7293034) (ok : LOK L xs i k n) {t np nb nn : Nat} {hi : Int32} {T : TV} {V : CV} {S : SB} {U : UV} {N : NV} {E : EV} {R : Nat → Int32} {I : CV} {K : TK} {G : GV} {X : TV} {s : Nat → Int32} {A : Nat → Nat → Int32} {LL1 : LL} {M : Nat → MR} {f : Nat → Int64} (h : REL t np nb nn hi T V U N I K G s A M) : JL L xs 776 (lsL i) [] (ZW t hi T V S U N E R I K G X s A LL1 M f) k n := by
  refine L_aload_n (pc := 776) DL_776 rfl ?_
  refine L_aloadS (pc := 777) DL_777 rfl ?_
  refine L_iload (pc := 778) DL_778 rfl ?_
  refine L_iconst (pc := 780) (v := nI 1) DL_780 (by decide) ?_
  refine L_iadd (pc := 781) DL_781 ?_
  refine L_sld (pc := 782) (i := i + 1) DL_782 (nI_addN i 1) (by omega) (by omega) ?_
  refine L_aloadS (pc := 783) DL_783 rfl ?_
  refine L_iload (pc := 784) DL_784 rfl ?_
  refine L_iconst (pc := 786) (v := nI 2) DL_786 (by decide) ?_
  refine L_iadd (pc := 787) DL_787 ?_
  refine L_sld (pc := 788) (i := i + 2) DL_788 (nI_addN i 2) (by omega) (by omega) ?_
  refine L_c (pc := 789) (wc := tcY (nI t) hi T V S U N E R I []) (ws := ((ZW t hi T V S U N E R I K G X s A LL1 M f)).drop 66) (ac := [.int (xs (i + 1)), .int (xs (i + 2))]) (rest := []) DL_789 m9_racking_v t932 (c9_racking (d := 0) h.wt h.wv) (by omega) rfl rfl rfl rfl rfl rfl hk hn (fun r w' hq hl => ?_)
  obtain ⟨rfl, S', R', rfl⟩ := hq
  refine L_w (w2 := ZW t hi T V S' U N E R' I K G X s A LL1 M f) rfl ?_
  refine L_aload_n (pc := 792) DL_792 rfl ?_
  refine L_aloadS (pc := 793) DL_793 rfl ?_
  refine L_iload (pc := 794) DL_794 rfl ?_
  refine L_iconst (pc := 796) (v := nI 1) DL_796 (by decide) ?_
  refine L_iadd (pc := 797) DL_797 ?_
  refine L_sld (pc := 798) (i := i + 1) DL_798 (nI_addN i 1) (by omega) (by omega) ?_
  refine L_aloadS (pc := 799) DL_799 rfl ?_
  refine L_iload (pc := 800) DL_800 rfl ?_
  refine L_iconst (pc := 802) (v := nI 2) DL_802 (by decide) ?_
  refine L_iadd (pc := 803) DL_803 ?_
  refine L_sld (pc := 804) (i := i + 2) DL_804 (nI_addN i 2) (by omega) (by omega) ?_
  refine L_m (pc := 805) (ac := [.int (xs (i + 1)), .int (xs (i + 2))]) DL_805 m10_racking_v t1746 (c10_racking (d := 0) h.rt h.wt h.cr h.e48 (R := R)) (by omega) rfl rfl (fun _ => rfl) rfl rfl rfl hk hn (fun r w' hq => ?_)
  obtain ⟨rfl, s', A', L', M', rfl, px⟩ := hq
  exact L_icmp_eq (pc := 808) (tgt := 1413) DL_808 (by decide) (fun _ => ok _ _ _ _ _ _ _ _ _ _ _ _ _ _ _ _ _ _ _ _ _ (h.px px)) (fun hne => absurd rfl hne)
theorem cs_17 {L : Nat} {xs : Nat → Int32} {i k n : Nat} (hL : L ≤ 3072) (hi6 : i + 6 ≤ L) (hk : k ≤ 601024) (hn : n ≤ 7293034) (ok : LOK L xs i k n) {t np nb nn : Nat} {hi : Int32} {T : TV} {V : CV} {S : SB} {U : UV} {N : NV} {E : EV} {R : Nat → Int32} {I : CV} {K : TK} {G : GV} {X : TV} {s : Nat → Int32} {A : Nat → Nat → Int32} {LL1 : LL} {M : Nat → MR} {f : Nat → Int64} (h : REL t np nb nn hi T V U N I K G s A M) : JL L xs 813 (lsL i) [] (ZW t hi T V S U N E R I K G X s A LL1 M f) k n := by
  refine L_aload_n (pc := 813) DL_813 rfl ?_
  refine L_aloadS (pc := 814) DL_814 rfl ?_
  refine L_iload (pc := 815) DL_815 rfl ?_
  refine L_iconst (pc := 817) (v := nI 1) DL_817 (by decide) ?_
  refine L_iadd (pc := 818) DL_818 ?_
  refine L_sld (pc := 819) (i := i + 1) DL_819 (nI_addN i 1) (by omega) (by omega) ?_
  refine L_c (pc := 820) (wc := tcY (nI t) hi T V S U N E R I []) (ws := ((ZW t hi T V S U N E R I K G X s A LL1 M f)).drop 66) (ac := [.int (xs (i + 1))]) (rest := []) DL_820 m9_serve_v t947 (c9_serve (d := 0) h.wt) (by omega) rfl rfl rfl rfl rfl rfl hk hn (fun r w' hq hl => ?_)
  obtain ⟨rfl, E', rfl⟩ := hq
  refine L_w (w2 := ZW t hi T V S U N E' R I K G X s A LL1 M f) rfl ?_
  refine L_aload_n (pc := 823) DL_823 rfl ?_
  refine L_aloadS (pc := 824) DL_824 rfl ?_
  refine L_iload (pc := 825) DL_825 rfl ?_
  refine L_iconst (pc := 827) (v := nI 1) DL_827 (by decide) ?_
  refine L_iadd (pc := 828) DL_828 ?_
  refine L_sld (pc := 829) (i := i + 1) DL_829 (nI_addN i 1) (by omega) (by omega) ?_
  refine L_m (pc := 830) (ac := [.int (xs (i + 1))]) DL_830 m10_serve_v t1754 (c10_serve (d := 0) h.rt h.wt h.cr h.yi (bo := E.2.2.2)) (by omega) rfl rfl (fun _ => rfl) rfl rfl rfl hk hn (fun r w' hq => ?_)
  obtain ⟨rfl, s', A', L', M', rfl, px⟩ := hq
  exact L_icmp_eq (pc := 833) (tgt := 1413) DL_833 (by decide) (fun _ => ok _ _ _ _ _ _ _ _ _ _ _ _ _ _ _ _ _ _ _ _ _ (h.px px)) (fun hne => absurd rfl hne)
theorem cs_18 {L : Nat} {xs : Nat → Int32} {i k n : Nat} (hL : L ≤ 3072) (hi6 : i + 6 ≤ L) (hk : k ≤ 601024) (hn : n ≤ 7293034) (ok : LOK L xs i k n) {t np nb nn : Nat} {hi : Int32} {T : TV} {V : CV} {S : SB} {U : UV} {N : NV} {E : EV} {R : Nat → Int32} {I : CV} {K : TK} {G : GV} {X : TV} {s : Nat → Int32} {A : Nat → Nat → Int32} {LL1 : LL} {M : Nat → MR} {f : Nat → Int64} (h : REL t np nb nn hi T V U N I K G s A M) : JL L xs 838 (lsL i) [] (ZW t hi T V S U N E R I K G X s A LL1 M f) k n := by
  refine L_aload_n (pc := 838) DL_838 rfl ?_
  refine L_c (pc := 839) (wc := tcY (nI t) hi T V S U N E R I []) (ws := ((ZW t hi T V S U N E R I K G X s A LL1 M f)).drop 66) (ac := []) (rest := []) DL_839 m9_served_v t977 (c9_served (d := 0) h.wt) (by omega) rfl rfl rfl rfl rfl rfl hk hn (fun r w' hq hl => ?_)
  obtain ⟨rfl, E', rfl⟩ := hq
  refine L_w (w2 := ZW t hi T V S U N E' R I K G X s A LL1 M f) rfl ?_
  refine L_aload_n (pc := 842) DL_842 rfl ?_
  refine L_m (pc := 843) (ac := []) DL_843 m10_served_v t1770 (c10_served (d := 0) h.rt h.wt h.cr h.yi) (by omega) rfl rfl (fun _ => rfl) rfl rfl rfl hk hn (fun r w' hq => ?_)
  obtain ⟨rfl, s', A', L', M', rfl, px⟩ := hq
  exact L_icmp_eq (pc := 846) (tgt := 1413) DL_846 (by decide) (fun _ => ok _ _ _ _ _ _ _ _ _ _ _ _ _ _ _ _ _ _ _ _ _ (h.px px)) (fun hne => absurd rfl hne)
