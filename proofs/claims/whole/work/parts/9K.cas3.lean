/-! MORE CASES (own program mod_r6.py) -/
theorem cs_9 {L : Nat} {xs : Nat → Int32} {i k n : Nat} (hL : L ≤ 3072) (hi6 : i + 6 ≤ L) (hk : k ≤ 601024) (hn : n ≤ 7293034) (ok : LOK L xs i k n) {t np nb nn : Nat} {hi : Int32} {T : TV} {V : CV} {S : SB} {U : UV} {N : NV} {E : EV} {R : Nat → Int32} {I : CV} {K : TK} {G : GV} {X : TV} {s : Nat → Int32} {A : Nat → Nat → Int32} {LL1 : LL} {M : Nat → MR} {f : Nat → Int64} (h : REL t np nb nn hi T V U N I K G s A M) : JL L xs 565 (lsL i) [] (ZW t hi T V S U N E R I K G X s A LL1 M f) k n := by
  refine L_aload_n (pc := 565) DL_565 rfl ?_
  refine L_aloadS (pc := 566) DL_566 rfl ?_
  refine L_iload (pc := 567) DL_567 rfl ?_
  refine L_iconst (pc := 569) (v := nI 1) DL_569 (by decide) ?_
  refine L_iadd (pc := 570) DL_570 ?_
  refine L_sld (pc := 571) (i := i + 1) DL_571 (nI_addN i 1) (by omega) (by omega) ?_
  refine L_aloadS (pc := 572) DL_572 rfl ?_
  refine L_iload (pc := 573) DL_573 rfl ?_
  refine L_iconst (pc := 575) (v := nI 2) DL_575 (by decide) ?_
  refine L_iadd (pc := 576) DL_576 ?_
  refine L_sld (pc := 577) (i := i + 2) DL_577 (nI_addN i 2) (by omega) (by omega) ?_
  refine L_c (pc := 578) (wc := tcC (nI t) hi T V S U) (ws := ((ZW t hi T V S U N E R I K G X s A LL1 M f)).drop 46) (ac := [.int (xs (i + 1)), .int (xs (i + 2))]) (rest := []) DL_578 m9_rack_v t780 (c9_rack (d := 0) h.wt h.wv h.ur.2.1.1) (by omega) rfl rfl rfl rfl rfl rfl hk hn (fun r w' hq hl => ?_)
  obtain ⟨rfl, S', rfl⟩ := hq
  refine L_w (w2 := ZW t hi T (rkV V nb (xs (i + 1)) (xs (i + 2))) S' (rkU V U nb (xs (i + 1)) (xs (i + 2))) N E R I K G X s A LL1 M f) zwC ?_
  refine L_aload_n (pc := 581) DL_581 rfl ?_
  refine L_aloadS (pc := 582) DL_582 rfl ?_
  refine L_iload (pc := 583) DL_583 rfl ?_
  refine L_iconst (pc := 585) (v := nI 1) DL_585 (by decide) ?_
  refine L_iadd (pc := 586) DL_586 ?_
  refine L_sld (pc := 587) (i := i + 1) DL_587 (nI_addN i 1) (by omega) (by omega) ?_
  refine L_aloadS (pc := 588) DL_588 rfl ?_
  refine L_iload (pc := 589) DL_589 rfl ?_
  refine L_iconst (pc := 591) (v := nI 2) DL_591 (by decide) ?_
  refine L_iadd (pc := 592) DL_592 ?_
  refine L_sld (pc := 593) (i := i + 2) DL_593 (nI_addN i 2) (by omega) (by omega) ?_
  refine L_m (pc := 594) (ac := [.int (xs (i + 1)), .int (xs (i + 2))]) DL_594 m10_rack_v t1647 (c10_rack (d := 0) h.rt h.wt h.cr h.ur) (by omega) rfl rfl (fun _ => rfl) rfl rfl rfl hk hn (fun r w' hq => ?_)
  obtain ⟨rfl, s', L', M', rfl, es, e2, hC, hU⟩ := hq
  have hR := h.dg (fun k a _ b => es k a b) (fun _ _ => rfl) e2 hC hU (h.yi.rk)
  exact L_icmp_eq (pc := 597) (tgt := 1413) DL_597 (by decide) (fun _ => ok _ _ _ _ _ _ _ _ _ _ _ _ _ _ _ _ _ _ _ _ _ (hR)) (fun hne => absurd rfl hne)
theorem cs_10 {L : Nat} {xs : Nat → Int32} {i k n : Nat} (hL : L ≤ 3072) (hi6 : i + 6 ≤ L) (hk : k ≤ 601024) (hn : n ≤ 7293034) (ok : LOK L xs i k n) {t np nb nn : Nat} {hi : Int32} {T : TV} {V : CV} {S : SB} {U : UV} {N : NV} {E : EV} {R : Nat → Int32} {I : CV} {K : TK} {G : GV} {X : TV} {s : Nat → Int32} {A : Nat → Nat → Int32} {LL1 : LL} {M : Nat → MR} {f : Nat → Int64} (h : REL t np nb nn hi T V U N I K G s A M) : JL L xs 602 (lsL i) [] (ZW t hi T V S U N E R I K G X s A LL1 M f) k n := by
  refine L_aload_n (pc := 602) DL_602 rfl ?_
  refine L_aloadS (pc := 603) DL_603 rfl ?_
  refine L_iload (pc := 604) DL_604 rfl ?_
  refine L_iconst (pc := 606) (v := nI 1) DL_606 (by decide) ?_
  refine L_iadd (pc := 607) DL_607 ?_
  refine L_sld (pc := 608) (i := i + 1) DL_608 (nI_addN i 1) (by omega) (by omega) ?_
  refine L_c (pc := 609) (wc := tcC (nI t) hi T V S U) (ws := ((ZW t hi T V S U N E R I K G X s A LL1 M f)).drop 46) (ac := [.int (xs (i + 1))]) (rest := []) DL_609 m9_seal_v t799 (c9_seal (d := 0) h.wt h.wv h.ur.2.1.1) (by omega) rfl rfl rfl rfl rfl rfl hk hn (fun r w' hq hl => ?_)
  obtain ⟨rfl, S', rfl⟩ := hq
  refine L_w (w2 := ZW t hi T (slV T V nb (xs (i + 1))) S' (slU T V U nb (xs (i + 1))) N E R I K G X s A LL1 M f) zwC ?_
  refine L_aload_n (pc := 612) DL_612 rfl ?_
  refine L_aloadS (pc := 613) DL_613 rfl ?_
  refine L_iload (pc := 614) DL_614 rfl ?_
  refine L_iconst (pc := 616) (v := nI 1) DL_616 (by decide) ?_
  refine L_iadd (pc := 617) DL_617 ?_
  refine L_sld (pc := 618) (i := i + 1) DL_618 (nI_addN i 1) (by omega) (by omega) ?_
  refine L_m (pc := 619) (ac := [.int (xs (i + 1))]) DL_619 m10_seal_v t1659 (c10_seal (d := 0) h.rt h.wt h.cr h.ur) (by omega) rfl rfl (fun _ => rfl) rfl rfl rfl hk hn (fun r w' hq => ?_)
  obtain ⟨rfl, s', L', M', rfl, es, e2, hC, hU⟩ := hq
  have hR := h.dg (fun k a _ b => es k a b) (fun _ _ => rfl) e2 hC hU (h.yi.sl)
  exact L_icmp_eq (pc := 622) (tgt := 1413) DL_622 (by decide) (fun _ => ok _ _ _ _ _ _ _ _ _ _ _ _ _ _ _ _ _ _ _ _ _ (hR)) (fun hne => absurd rfl hne)
theorem cs_11 {L : Nat} {xs : Nat → Int32} {i k n : Nat} (hL : L ≤ 3072) (hi6 : i + 6 ≤ L) (hk : k ≤ 601024) (hn : n ≤ 7293034) (ok : LOK L xs i k n) {t np nb nn : Nat} {hi : Int32} {T : TV} {V : CV} {S : SB} {U : UV} {N : NV} {E : EV} {R : Nat → Int32} {I : CV} {K : TK} {G : GV} {X : TV} {s : Nat → Int32} {A : Nat → Nat → Int32} {LL1 : LL} {M : Nat → MR} {f : Nat → Int64} (h : REL t np nb nn hi T V U N I K G s A M) : JL L xs 627 (lsL i) [] (ZW t hi T V S U N E R I K G X s A LL1 M f) k n := by
  refine L_aload_n (pc := 627) DL_627 rfl ?_
  refine L_aloadS (pc := 628) DL_628 rfl ?_
  refine L_iload (pc := 629) DL_629 rfl ?_
  refine L_iconst (pc := 631) (v := nI 1) DL_631 (by decide) ?_
  refine L_iadd (pc := 632) DL_632 ?_
  refine L_sld (pc := 633) (i := i + 1) DL_633 (nI_addN i 1) (by omega) (by omega) ?_
  refine L_c (pc := 634) (wc := tcC (nI t) hi T V S U) (ws := ((ZW t hi T V S U N E R I K G X s A LL1 M f)).drop 46) (ac := [.int (xs (i + 1))]) (rest := []) DL_634 m9_open_v t803 (c9_open (d := 0) h.wt h.wv h.ur.2.1.1) (by omega) rfl rfl rfl rfl rfl rfl hk hn (fun r w' hq hl => ?_)
  obtain ⟨rfl, S', rfl⟩ := hq
  refine L_w (w2 := ZW t hi T (opV V nb (xs (i + 1))) S' (opU V U nb (xs (i + 1))) N E R I K G X s A LL1 M f) zwC ?_
  refine L_aload_n (pc := 637) DL_637 rfl ?_
  refine L_aloadS (pc := 638) DL_638 rfl ?_
  refine L_iload (pc := 639) DL_639 rfl ?_
  refine L_iconst (pc := 641) (v := nI 1) DL_641 (by decide) ?_
  refine L_iadd (pc := 642) DL_642 ?_
  refine L_sld (pc := 643) (i := i + 1) DL_643 (nI_addN i 1) (by omega) (by omega) ?_
  refine L_m (pc := 644) (ac := [.int (xs (i + 1))]) DL_644 m10_open_v t1663 (c10_open (d := 0) h.rt h.wt h.cr h.ur) (by omega) rfl rfl (fun _ => rfl) rfl rfl rfl hk hn (fun r w' hq => ?_)
  obtain ⟨rfl, s', L', M', rfl, es, e2, hC, hU⟩ := hq
  have hR := h.dg (fun k a _ b => es k a b) (fun _ _ => rfl) e2 hC hU (h.yi.op)
  exact L_icmp_eq (pc := 647) (tgt := 1413) DL_647 (by decide) (fun _ => ok _ _ _ _ _ _ _ _ _ _ _ _ _ _ _ _ _ _ _ _ _ (hR)) (fun hne => absurd rfl hne)
theorem cs_12 {L : Nat} {xs : Nat → Int32} {i k n : Nat} (hL : L ≤ 3072) (hi6 : i + 6 ≤ L) (hk : k ≤ 601024) (hn : n ≤ 7293034) (ok : LOK L xs i k n) {t np nb nn : Nat} {hi : Int32} {T : TV} {V : CV} {S : SB} {U : UV} {N : NV} {E : EV} {R : Nat → Int32} {I : CV} {K : TK} {G : GV} {X : TV} {s : Nat → Int32} {A : Nat → Nat → Int32} {LL1 : LL} {M : Nat → MR} {f : Nat → Int64} (h : REL t np nb nn hi T V U N I K G s A M) : JL L xs 652 (lsL i) [] (ZW t hi T V S U N E R I K G X s A LL1 M f) k n := by
  refine L_aload_n (pc := 652) DL_652 rfl ?_
  refine L_aloadS (pc := 653) DL_653 rfl ?_
  refine L_iload (pc := 654) DL_654 rfl ?_
  refine L_iconst (pc := 656) (v := nI 1) DL_656 (by decide) ?_
  refine L_iadd (pc := 657) DL_657 ?_
  refine L_sld (pc := 658) (i := i + 1) DL_658 (nI_addN i 1) (by omega) (by omega) ?_
  refine L_c (pc := 659) (wc := tcC (nI t) hi T V S U) (ws := ((ZW t hi T V S U N E R I K G X s A LL1 M f)).drop 46) (ac := [.int (xs (i + 1))]) (rest := []) DL_659 m9_go_v t811 (c9_go (d := 0) h.wt h.wv) (by omega) rfl rfl rfl rfl rfl rfl hk hn (fun r w' hq hl => ?_)
  obtain ⟨rfl, S', rfl⟩ := hq
  refine L_w (w2 := ZW t hi T (goV T V nb nn (xs (i + 1))) S' (goU V U (xs (i + 1))) N E R I K G X s A LL1 M f) zwC ?_
  refine L_aload_n (pc := 662) DL_662 rfl ?_
  refine L_aloadS (pc := 663) DL_663 rfl ?_
  refine L_iload (pc := 664) DL_664 rfl ?_
  refine L_iconst (pc := 666) (v := nI 1) DL_666 (by decide) ?_
  refine L_iadd (pc := 667) DL_667 ?_
  refine L_sld (pc := 668) (i := i + 1) DL_668 (nI_addN i 1) (by omega) (by omega) ?_
  refine L_m (pc := 669) (ac := [.int (xs (i + 1))]) DL_669 m10_go_v t1667 (c10_go (d := 0) h.rt h.wt h.cr h.ur h.e48) (by omega) rfl rfl (fun _ => rfl) rfl rfl rfl hk hn (fun r w' hq => ?_)
  obtain ⟨rfl, s', A', L', M', rfl, es, eA, e2, hC, hU⟩ := hq
  have hR := h.dg es eA e2 hC hU (h.yi.go)
  exact L_icmp_eq (pc := 672) (tgt := 1413) DL_672 (by decide) (fun _ => ok _ _ _ _ _ _ _ _ _ _ _ _ _ _ _ _ _ _ _ _ _ (hR)) (fun hne => absurd rfl hne)
theorem cs_32 {L : Nat} {xs : Nat → Int32} {i k n : Nat} (hL : L ≤ 3072) (hi6 : i + 6 ≤ L) (hk : k ≤ 601024) (hn : n ≤ 7293034) (ok : LOK L xs i k n) {t np nb nn : Nat} {hi : Int32} {T : TV} {V : CV} {S : SB} {U : UV} {N : NV} {E : EV} {R : Nat → Int32} {I : CV} {K : TK} {G : GV} {X : TV} {s : Nat → Int32} {A : Nat → Nat → Int32} {LL1 : LL} {M : Nat → MR} {f : Nat → Int64} (h : REL t np nb nn hi T V U N I K G s A M) : JL L xs 1349 (lsL i) [] (ZW t hi T V S U N E R I K G X s A LL1 M f) k n := by
  refine L_aload_n (pc := 1349) DL_1349 rfl ?_
  refine L_c (pc := 1350) (wc := tcC (nI t) hi T V S U) (ws := ((ZW t hi T V S U N E R I K G X s A LL1 M f)).drop 46) (ac := []) (rest := []) DL_1350 m9_undo_v t1098 (c9_undo (d := 0) h.wt h.wv h.ur.2.1) (by omega) rfl rfl rfl rfl rfl rfl hk hn (fun r w' hq hl => ?_)
  obtain ⟨rfl, S', rfl⟩ := hq
  refine L_w (w2 := ZW t hi T (unV V U) S' (unU U) N E R I K G X s A LL1 M f) zwC ?_
  refine L_aload_n (pc := 1353) DL_1353 rfl ?_
  refine L_m (pc := 1354) (ac := []) DL_1354 m10_undo_v t1876 (c10_undo (d := 0) h.rt h.wt h.cr h.ur) (by omega) rfl rfl (fun _ => rfl) rfl rfl rfl hk hn (fun r w' hq => ?_)
  obtain ⟨rfl, s', L', M', rfl, es, e2, hC, hU⟩ := hq
  have hR := h.dg (fun k a _ b => es k a b) (fun _ _ => rfl) e2 hC hU (h.yi.un)
  exact L_icmp_eq (pc := 1357) (tgt := 1413) DL_1357 (by decide) (fun _ => ok _ _ _ _ _ _ _ _ _ _ _ _ _ _ _ _ _ _ _ _ _ (hR)) (fun hne => absurd rfl hne)
theorem cs_33 {L : Nat} {xs : Nat → Int32} {i k n : Nat} (hL : L ≤ 3072) (hi6 : i + 6 ≤ L) (hk : k ≤ 601024) (hn : n ≤ 7293034) (ok : LOK L xs i k n) {t np nb nn : Nat} {hi : Int32} {T : TV} {V : CV} {S : SB} {U : UV} {N : NV} {E : EV} {R : Nat → Int32} {I : CV} {K : TK} {G : GV} {X : TV} {s : Nat → Int32} {A : Nat → Nat → Int32} {LL1 : LL} {M : Nat → MR} {f : Nat → Int64} (h : REL t np nb nn hi T V U N I K G s A M) : JL L xs 1362 (lsL i) [] (ZW t hi T V S U N E R I K G X s A LL1 M f) k n := by
  refine L_aload_n (pc := 1362) DL_1362 rfl ?_
  refine L_c (pc := 1363) (wc := tcY (nI t) hi T V S U N E R I []) (ws := ((ZW t hi T V S U N E R I K G X s A LL1 M f)).drop 66) (ac := []) (rest := []) DL_1363 m9_keep_v t1108 (c9_keep (d := 0) (np := np) (nb := nb) (nn := nn)) (by omega) rfl rfl rfl rfl rfl rfl hk hn (fun r w' hq hl => ?_)
  obtain ⟨rfl, rfl⟩ := hq
  refine L_w (w2 := ZW t (nI 1) T V S U N E R V K G X s A LL1 M f) zwY ?_
  refine L_aload_n (pc := 1366) DL_1366 rfl ?_
  refine L_m (pc := 1367) (ac := []) DL_1367 m10_keep_v t1880 (c10_keep (d := 0) h.rt h.wt h.cr) (by omega) rfl rfl (fun _ => rfl) rfl rfl rfl hk hn (fun r w' hq => ?_)
  obtain ⟨rfl, M', rfl, hM, hC⟩ := hq
  have hR := h.kp hM hC
  exact L_icmp_eq (pc := 1370) (tgt := 1413) DL_1370 (by decide) (fun _ => ok _ _ _ _ _ _ _ _ _ _ _ _ _ _ _ _ _ _ _ _ _ (hR)) (fun hne => absurd rfl hne)
theorem cs_34 {L : Nat} {xs : Nat → Int32} {i k n : Nat} (hL : L ≤ 3072) (hi6 : i + 6 ≤ L) (hk : k ≤ 601024) (hn : n ≤ 7293034) (ok : LOK L xs i k n) {t np nb nn : Nat} {hi : Int32} {T : TV} {V : CV} {S : SB} {U : UV} {N : NV} {E : EV} {R : Nat → Int32} {I : CV} {K : TK} {G : GV} {X : TV} {s : Nat → Int32} {A : Nat → Nat → Int32} {LL1 : LL} {M : Nat → MR} {f : Nat → Int64} (h : REL t np nb nn hi T V U N I K G s A M) : JL L xs 1375 (lsL i) [] (ZW t hi T V S U N E R I K G X s A LL1 M f) k n := by
  refine L_aload_n (pc := 1375) DL_1375 rfl ?_
  refine L_c (pc := 1376) (wc := tcY (nI t) hi T V S U N E R I []) (ws := ((ZW t hi T V S U N E R I K G X s A LL1 M f)).drop 66) (ac := []) (rest := []) DL_1376 m9_back_v t1112 (c9_back (d := 0) (np := np) (nb := nb) (nn := nn)) (by omega) rfl rfl rfl rfl rfl rfl hk hn (fun r w' hq hl => ?_)
  obtain ⟨rfl, rfl⟩ := hq
  refine L_w (w2 := ZW t hi T (bkV hi V I) S (bkU hi U) N E R I K G X s A LL1 M f) zwY ?_
  refine L_aload_n (pc := 1379) DL_1379 rfl ?_
  refine L_m (pc := 1380) (ac := []) DL_1380 m10_back_v t1884 (c10_back (d := 0) h.rt h.wt h.cr h.ur h.e46 h.ci) (by omega) rfl rfl (fun _ => rfl) rfl rfl rfl hk hn (fun r w' hq => ?_)
  obtain ⟨rfl, s', L', M', rfl, es, e2, hC, hU⟩ := hq
  have hR := h.dg (fun k a _ b => es k a b) (fun _ _ => rfl) e2 hC hU (h.bk)
  exact L_icmp_eq (pc := 1383) (tgt := 1413) DL_1383 (by decide) (fun _ => ok _ _ _ _ _ _ _ _ _ _ _ _ _ _ _ _ _ _ _ _ _ (hR)) (fun hne => absurd rfl hne)
theorem cs_27 {L : Nat} {xs : Nat → Int32} {i k n : Nat} (hL : L ≤ 3072) (hi6 : i + 6 ≤ L) (hk : k ≤ 601024) (hn : n ≤ 7293034) (ok : LOK L xs i k n) {t np nb nn : Nat} {hi : Int32} {T : TV} {V : CV} {S : SB} {U : UV} {N : NV} {E : EV} {R : Nat → Int32} {I : CV} {K : TK} {G : GV} {X : TV} {s : Nat → Int32} {A : Nat → Nat → Int32} {LL1 : LL} {M : Nat → MR} {f : Nat → Int64} (h : REL t np nb nn hi T V U N I K G s A M) : JL L xs 1176 (lsL i) [] (ZW t hi T V S U N E R I K G X s A LL1 M f) k n := by
  refine L_aload_n (pc := 1176) DL_1176 rfl ?_
  refine L_aloadS (pc := 1177) DL_1177 rfl ?_
  refine L_iload (pc := 1178) DL_1178 rfl ?_
  refine L_iconst (pc := 1180) (v := nI 1) DL_1180 (by decide) ?_
  refine L_iadd (pc := 1181) DL_1181 ?_
  refine L_sld (pc := 1182) (i := i + 1) DL_1182 (nI_addN i 1) (by omega) (by omega) ?_
  refine L_c (pc := 1183) (wc := tcD (nI t) hi T V S U N) (ws := ((ZW t hi T V S U N E R I K G X s A LL1 M f)).drop 53) (ac := [.int (xs (i + 1))]) (rest := []) DL_1183 m9_out_v t1050 (c9_out (d := 0) (np := np) (nb := nb) (nn := nn) h.nr.2.2.1) (by omega) rfl rfl rfl rfl rfl rfl hk hn (fun r w' hq hl => ?_)
  obtain ⟨rfl, rfl⟩ := hq
  refine L_w (w2 := ZW t hi T V S U (ouN N (xs (i + 1))) E R I K G X s A LL1 M f) zwD ?_
  refine L_aload_n (pc := 1186) DL_1186 rfl ?_
  refine L_aloadS (pc := 1187) DL_1187 rfl ?_
  refine L_iload (pc := 1188) DL_1188 rfl ?_
  refine L_iconst (pc := 1190) (v := nI 1) DL_1190 (by decide) ?_
  refine L_iadd (pc := 1191) DL_1191 ?_
  refine L_sld (pc := 1192) (i := i + 1) DL_1192 (nI_addN i 1) (by omega) (by omega) ?_
  refine L_m (pc := 1193) (ac := [.int (xs (i + 1))]) DL_1193 m10_out_v t1844 (c10_out (d := 0) h.nr) (by omega) rfl rfl (fun _ => rfl) rfl rfl rfl hk hn (fun r w' hq => ?_)
  obtain ⟨rfl, hq⟩ := hq
  obtain ⟨s', A', rfl, hR⟩ := out_r h hq
  exact L_icmp_eq (pc := 1196) (tgt := 1413) DL_1196 (by decide) (fun _ => ok _ _ _ _ _ _ _ _ _ _ _ _ _ _ _ _ _ _ _ _ _ (hR)) (fun hne => absurd rfl hne)
theorem cs_28 {L : Nat} {xs : Nat → Int32} {i k n : Nat} (hL : L ≤ 3072) (hi6 : i + 6 ≤ L) (hk : k ≤ 601024) (hn : n ≤ 7293034) (ok : LOK L xs i k n) {t np nb nn : Nat} {hi : Int32} {T : TV} {V : CV} {S : SB} {U : UV} {N : NV} {E : EV} {R : Nat → Int32} {I : CV} {K : TK} {G : GV} {X : TV} {s : Nat → Int32} {A : Nat → Nat → Int32} {LL1 : LL} {M : Nat → MR} {f : Nat → Int64} (h : REL t np nb nn hi T V U N I K G s A M) : JL L xs 1201 (lsL i) [] (ZW t hi T V S U N E R I K G X s A LL1 M f) k n := by
  refine L_aload_n (pc := 1201) DL_1201 rfl ?_
  refine L_aloadS (pc := 1202) DL_1202 rfl ?_
  refine L_iload (pc := 1203) DL_1203 rfl ?_
  refine L_iconst (pc := 1205) (v := nI 1) DL_1205 (by decide) ?_
  refine L_iadd (pc := 1206) DL_1206 ?_
  refine L_sld (pc := 1207) (i := i + 1) DL_1207 (nI_addN i 1) (by omega) (by omega) ?_
  refine L_c (pc := 1208) (wc := tcD (nI t) hi T V S U N) (ws := ((ZW t hi T V S U N E R I K G X s A LL1 M f)).drop 53) (ac := [.int (xs (i + 1))]) (rest := []) DL_1208 m9_known_v t1059 (c9_known (d := 0) (np := np) (nb := nb) (nn := nn)) (by omega) rfl rfl rfl rfl rfl rfl hk hn (fun r w' hq hl => ?_)
  obtain ⟨rfl, rfl⟩ := hq
  refine L_w (w2 := ZW t hi T V S U (knN N (xs (i + 1))) E R I K G X s A LL1 M f) zwD ?_
  refine L_aload_n (pc := 1211) DL_1211 rfl ?_
  refine L_aloadS (pc := 1212) DL_1212 rfl ?_
  refine L_iload (pc := 1213) DL_1213 rfl ?_
  refine L_iconst (pc := 1215) (v := nI 1) DL_1215 (by decide) ?_
  refine L_iadd (pc := 1216) DL_1216 ?_
  refine L_sld (pc := 1217) (i := i + 1) DL_1217 (nI_addN i 1) (by omega) (by omega) ?_
  refine L_m (pc := 1218) (ac := [.int (xs (i + 1))]) DL_1218 m10_known_v t1848 (c10_known (d := 0) h.nr) (by omega) rfl rfl (fun _ => rfl) rfl rfl rfl hk hn (fun r w' hq => ?_)
  obtain ⟨rfl, hq⟩ := hq
  obtain ⟨s', A', rfl, hR⟩ := known_r h hq
  exact L_icmp_eq (pc := 1221) (tgt := 1413) DL_1221 (by decide) (fun _ => ok _ _ _ _ _ _ _ _ _ _ _ _ _ _ _ _ _ _ _ _ _ (hR)) (fun hne => absurd rfl hne)
