/-! THE CASES OF THE LAW'S SWITCH (own program mod_r5.py) -/
theorem nI_addN (a b : Nat) : nI a + nI b = nI (a + b) := by first | exact (nI_add a b).symm | exact nI_add a b
theorem lg_cmp_rf (x : Int64) : lg_cmp x x = 0 := by simp [lg_cmp]
theorem cs_3 {L : Nat} {xs : Nat → Int32} {i k n : Nat} (hL : L ≤ 3072) (hi6 : i + 6 ≤ L) (hk : k ≤ 601024) (hn : n ≤ 7293034) (ok : LOK L xs i k n) {t np nb nn : Nat} {hi : Int32} {T : TV} {V : CV} {S : SB} {U : UV} {N : NV} {E : EV} {R : Nat → Int32} {I : CV} {K : TK} {G : GV} {X : TV} {s : Nat → Int32} {A : Nat → Nat → Int32} {LL1 : LL} {M : Nat → MR} {f : Nat → Int64} (h : REL t np nb nn hi T V U N I K G s A M) : JL L xs 323 (lsL i) [] (ZW t hi T V S U N E R I K G X s A LL1 M f) k n := by
  refine L_aload_n (pc := 323) DL_323 rfl ?_
  refine L_aloadS (pc := 324) DL_324 rfl ?_
  refine L_iload (pc := 325) DL_325 rfl ?_
  refine L_iconst (pc := 327) (v := nI 1) DL_327 (by decide) ?_
  refine L_iadd (pc := 328) DL_328 ?_
  refine L_sld (pc := 329) (i := i + 1) DL_329 (nI_addN i 1) (by omega) (by omega) ?_
  refine L_aloadS (pc := 330) DL_330 rfl ?_
  refine L_iload (pc := 331) DL_331 rfl ?_
  refine L_iconst (pc := 333) (v := nI 2) DL_333 (by decide) ?_
  refine L_iadd (pc := 334) DL_334 ?_
  refine L_sld (pc := 335) (i := i + 2) DL_335 (nI_addN i 2) (by omega) (by omega) ?_
  refine L_cR (pc := 336) (wc := tcA (nI t) hi T V) (ws := ((ZW t hi T V S U N E R I K G X s A LL1 M f)).drop 29) (ac := [.int (xs (i + 1)), .int (xs (i + 2))]) (rest := []) DL_336 m9_named_v t698 (c9_named (d := 0) h.wt) (by omega) rfl rfl rfl rfl rfl rfl hk hn ?_
  refine L_aload_n (pc := 339) DL_339 rfl ?_
  refine L_aloadS (pc := 340) DL_340 rfl ?_
  refine L_iload (pc := 341) DL_341 rfl ?_
  refine L_iconst (pc := 343) (v := nI 1) DL_343 (by decide) ?_
  refine L_iadd (pc := 344) DL_344 ?_
  refine L_sld (pc := 345) (i := i + 1) DL_345 (nI_addN i 1) (by omega) (by omega) ?_
  refine L_aloadS (pc := 346) DL_346 rfl ?_
  refine L_iload (pc := 347) DL_347 rfl ?_
  refine L_iconst (pc := 349) (v := nI 2) DL_349 (by decide) ?_
  refine L_iadd (pc := 350) DL_350 ?_
  refine L_sld (pc := 351) (i := i + 2) DL_351 (nI_addN i 2) (by omega) (by omega) ?_
  refine L_m (pc := 352) (ac := [.int (xs (i + 1)), .int (xs (i + 2))]) DL_352 m10_named_v t1559 (c10_named (d := 0) h.rt h.wt h.cr) (by omega) rfl rfl (fun _ => rfl) rfl rfl rfl hk hn (fun r w' hq => ?_)
  obtain ⟨rfl, s', A', L', M', rfl, px⟩ := hq
  exact L_icmp_eq (pc := 355) (tgt := 1413) DL_355 (by decide) (fun _ => ok _ _ _ _ _ _ _ _ _ _ _ _ _ _ _ _ _ _ _ _ _ (h.px px)) (fun hne => absurd rfl hne)
theorem cs_5 {L : Nat} {xs : Nat → Int32} {i k n : Nat} (hL : L ≤ 3072) (hi6 : i + 6 ≤ L) (hk : k ≤ 601024) (hn : n ≤ 7293034) (ok : LOK L xs i k n) {t np nb nn : Nat} {hi : Int32} {T : TV} {V : CV} {S : SB} {U : UV} {N : NV} {E : EV} {R : Nat → Int32} {I : CV} {K : TK} {G : GV} {X : TV} {s : Nat → Int32} {A : Nat → Nat → Int32} {LL1 : LL} {M : Nat → MR} {f : Nat → Int64} (h : REL t np nb nn hi T V U N I K G s A M) : JL L xs 428 (lsL i) [] (ZW t hi T V S U N E R I K G X s A LL1 M f) k n := by
  refine L_aload_n (pc := 428) DL_428 rfl ?_
  refine L_aloadS (pc := 429) DL_429 rfl ?_
  refine L_iload (pc := 430) DL_430 rfl ?_
  refine L_iconst (pc := 432) (v := nI 1) DL_432 (by decide) ?_
  refine L_iadd (pc := 433) DL_433 ?_
  refine L_sld (pc := 434) (i := i + 1) DL_434 (nI_addN i 1) (by omega) (by omega) ?_
  refine L_aloadS (pc := 435) DL_435 rfl ?_
  refine L_iload (pc := 436) DL_436 rfl ?_
  refine L_iconst (pc := 438) (v := nI 2) DL_438 (by decide) ?_
  refine L_iadd (pc := 439) DL_439 ?_
  refine L_sld (pc := 440) (i := i + 2) DL_440 (nI_addN i 2) (by omega) (by omega) ?_
  refine L_cR (pc := 441) (wc := tcA (nI t) hi T V) (ws := ((ZW t hi T V S U N E R I K G X s A LL1 M f)).drop 29) (ac := [.int (xs (i + 1)), .int (xs (i + 2))]) (rest := []) DL_441 m9_man_v t704 (c9_man (d := 0) h.wt) (by omega) rfl rfl rfl rfl rfl rfl hk hn ?_
  refine L_aload_n (pc := 444) DL_444 rfl ?_
  refine L_aloadS (pc := 445) DL_445 rfl ?_
  refine L_iload (pc := 446) DL_446 rfl ?_
  refine L_iconst (pc := 448) (v := nI 1) DL_448 (by decide) ?_
  refine L_iadd (pc := 449) DL_449 ?_
  refine L_sld (pc := 450) (i := i + 1) DL_450 (nI_addN i 1) (by omega) (by omega) ?_
  refine L_aloadS (pc := 451) DL_451 rfl ?_
  refine L_iload (pc := 452) DL_452 rfl ?_
  refine L_iconst (pc := 454) (v := nI 2) DL_454 (by decide) ?_
  refine L_iadd (pc := 455) DL_455 ?_
  refine L_sld (pc := 456) (i := i + 2) DL_456 (nI_addN i 2) (by omega) (by omega) ?_
  refine L_m (pc := 457) (ac := [.int (xs (i + 1)), .int (xs (i + 2))]) DL_457 m10_man_v t1571 (c10_man (d := 0) h.rt h.wt h.cr) (by omega) rfl rfl (fun _ => rfl) rfl rfl rfl hk hn (fun r w' hq => ?_)
  obtain ⟨rfl, s', A', L', M', rfl, px⟩ := hq
  exact L_icmp_eq (pc := 460) (tgt := 1413) DL_460 (by decide) (fun _ => ok _ _ _ _ _ _ _ _ _ _ _ _ _ _ _ _ _ _ _ _ _ (h.px px)) (fun hne => absurd rfl hne)
theorem cs_6 {L : Nat} {xs : Nat → Int32} {i k n : Nat} (hL : L ≤ 3072) (hi6 : i + 6 ≤ L) (hk : k ≤ 601024) (hn : n ≤ 7293034) (ok : LOK L xs i k n) {t np nb nn : Nat} {hi : Int32} {T : TV} {V : CV} {S : SB} {U : UV} {N : NV} {E : EV} {R : Nat → Int32} {I : CV} {K : TK} {G : GV} {X : TV} {s : Nat → Int32} {A : Nat → Nat → Int32} {LL1 : LL} {M : Nat → MR} {f : Nat → Int64} (h : REL t np nb nn hi T V U N I K G s A M) : JL L xs 465 (lsL i) [] (ZW t hi T V S U N E R I K G X s A LL1 M f) k n := by
  refine L_aload_n (pc := 465) DL_465 rfl ?_
  refine L_aloadS (pc := 466) DL_466 rfl ?_
  refine L_iload (pc := 467) DL_467 rfl ?_
  refine L_iconst (pc := 469) (v := nI 1) DL_469 (by decide) ?_
  refine L_iadd (pc := 470) DL_470 ?_
  refine L_sld (pc := 471) (i := i + 1) DL_471 (nI_addN i 1) (by omega) (by omega) ?_
  refine L_aloadS (pc := 472) DL_472 rfl ?_
  refine L_iload (pc := 473) DL_473 rfl ?_
  refine L_iconst (pc := 475) (v := nI 2) DL_475 (by decide) ?_
  refine L_iadd (pc := 476) DL_476 ?_
  refine L_sld (pc := 477) (i := i + 2) DL_477 (nI_addN i 2) (by omega) (by omega) ?_
  refine L_cR (pc := 478) (wc := tcA (nI t) hi T V) (ws := ((ZW t hi T V S U N E R I K G X s A LL1 M f)).drop 29) (ac := [.int (xs (i + 1)), .int (xs (i + 2))]) (rest := []) DL_478 m9_need_v t731 (c9_need (d := 0) h.wt) (by omega) rfl rfl rfl rfl rfl rfl hk hn ?_
  refine L_aload_n (pc := 481) DL_481 rfl ?_
  refine L_aloadS (pc := 482) DL_482 rfl ?_
  refine L_iload (pc := 483) DL_483 rfl ?_
  refine L_iconst (pc := 485) (v := nI 1) DL_485 (by decide) ?_
  refine L_iadd (pc := 486) DL_486 ?_
  refine L_sld (pc := 487) (i := i + 1) DL_487 (nI_addN i 1) (by omega) (by omega) ?_
  refine L_aloadS (pc := 488) DL_488 rfl ?_
  refine L_iload (pc := 489) DL_489 rfl ?_
  refine L_iconst (pc := 491) (v := nI 2) DL_491 (by decide) ?_
  refine L_iadd (pc := 492) DL_492 ?_
  refine L_sld (pc := 493) (i := i + 2) DL_493 (nI_addN i 2) (by omega) (by omega) ?_
  refine L_m (pc := 494) (ac := [.int (xs (i + 1)), .int (xs (i + 2))]) DL_494 m10_need_v t1594 (c10_need (d := 0) h.rt h.wt h.cr) (by omega) rfl rfl (fun _ => rfl) rfl rfl rfl hk hn (fun r w' hq => ?_)
  obtain ⟨rfl, s', A', L', M', rfl, px⟩ := hq
  exact L_icmp_eq (pc := 497) (tgt := 1413) DL_497 (by decide) (fun _ => ok _ _ _ _ _ _ _ _ _ _ _ _ _ _ _ _ _ _ _ _ _ (h.px px)) (fun hne => absurd rfl hne)
theorem cs_7 {L : Nat} {xs : Nat → Int32} {i k n : Nat} (hL : L ≤ 3072) (hi6 : i + 6 ≤ L) (hk : k ≤ 601024) (hn : n ≤ 7293034) (ok : LOK L xs i k n) {t np nb nn : Nat} {hi : Int32} {T : TV} {V : CV} {S : SB} {U : UV} {N : NV} {E : EV} {R : Nat → Int32} {I : CV} {K : TK} {G : GV} {X : TV} {s : Nat → Int32} {A : Nat → Nat → Int32} {LL1 : LL} {M : Nat → MR} {f : Nat → Int64} (h : REL t np nb nn hi T V U N I K G s A M) : JL L xs 502 (lsL i) [] (ZW t hi T V S U N E R I K G X s A LL1 M f) k n := by
  refine L_aload_n (pc := 502) DL_502 rfl ?_
  refine L_aloadS (pc := 503) DL_503 rfl ?_
  refine L_iload (pc := 504) DL_504 rfl ?_
  refine L_iconst (pc := 506) (v := nI 1) DL_506 (by decide) ?_
  refine L_iadd (pc := 507) DL_507 ?_
  refine L_sld (pc := 508) (i := i + 1) DL_508 (nI_addN i 1) (by omega) (by omega) ?_
  refine L_cR (pc := 509) (wc := tcA (nI t) hi T V) (ws := ((ZW t hi T V S U N E R I K G X s A LL1 M f)).drop 29) (ac := [.int (xs (i + 1))]) (rest := []) DL_509 m9_bin_v t739 (c9_bin (d := 0) h.wt) (by omega) rfl rfl rfl rfl rfl rfl hk hn ?_
  refine L_aload_n (pc := 512) DL_512 rfl ?_
  refine L_aloadS (pc := 513) DL_513 rfl ?_
  refine L_iload (pc := 514) DL_514 rfl ?_
  refine L_iconst (pc := 516) (v := nI 1) DL_516 (by decide) ?_
  refine L_iadd (pc := 517) DL_517 ?_
  refine L_sld (pc := 518) (i := i + 1) DL_518 (nI_addN i 1) (by omega) (by omega) ?_
  refine L_m (pc := 519) (ac := [.int (xs (i + 1))]) DL_519 m10_bin_v t1602 (c10_bin (d := 0) h.rt h.wt h.cr) (by omega) rfl rfl (fun _ => rfl) rfl rfl rfl hk hn (fun r w' hq => ?_)
  obtain ⟨rfl, s', A', L', M', rfl, px⟩ := hq
  exact L_icmp_eq (pc := 522) (tgt := 1413) DL_522 (by decide) (fun _ => ok _ _ _ _ _ _ _ _ _ _ _ _ _ _ _ _ _ _ _ _ _ (h.px px)) (fun hne => absurd rfl hne)
theorem cs_19 {L : Nat} {xs : Nat → Int32} {i k n : Nat} (hL : L ≤ 3072) (hi6 : i + 6 ≤ L) (hk : k ≤ 601024) (hn : n ≤ 7293034) (ok : LOK L xs i k n) {t np nb nn : Nat} {hi : Int32} {T : TV} {V : CV} {S : SB} {U : UV} {N : NV} {E : EV} {R : Nat → Int32} {I : CV} {K : TK} {G : GV} {X : TV} {s : Nat → Int32} {A : Nat → Nat → Int32} {LL1 : LL} {M : Nat → MR} {f : Nat → Int64} (h : REL t np nb nn hi T V U N I K G s A M) : JL L xs 851 (lsL i) [] (ZW t hi T V S U N E R I K G X s A LL1 M f) k n := by
  refine L_aload_n (pc := 851) DL_851 rfl ?_
  refine L_aloadS (pc := 852) DL_852 rfl ?_
  refine L_iload (pc := 853) DL_853 rfl ?_
  refine L_iconst (pc := 855) (v := nI 1) DL_855 (by decide) ?_
  refine L_iadd (pc := 856) DL_856 ?_
  refine L_sld (pc := 857) (i := i + 1) DL_857 (nI_addN i 1) (by omega) (by omega) ?_
  refine L_aloadS (pc := 858) DL_858 rfl ?_
  refine L_iload (pc := 859) DL_859 rfl ?_
  refine L_iconst (pc := 861) (v := nI 2) DL_861 (by decide) ?_
  refine L_iadd (pc := 862) DL_862 ?_
  refine L_sld (pc := 863) (i := i + 2) DL_863 (nI_addN i 2) (by omega) (by omega) ?_
  refine L_cR (pc := 864) (wc := tcA (nI t) hi T V) (ws := ((ZW t hi T V S U N E R I K G X s A LL1 M f)).drop 29) (ac := [.int (xs (i + 1)), .int (xs (i + 2))]) (rest := []) DL_864 m9_pour_v t981 (c9_pour (d := 0) h.wt) (by omega) rfl rfl rfl rfl rfl rfl hk hn ?_
  refine L_aload_n (pc := 867) DL_867 rfl ?_
  refine L_aloadS (pc := 868) DL_868 rfl ?_
  refine L_iload (pc := 869) DL_869 rfl ?_
  refine L_iconst (pc := 871) (v := nI 1) DL_871 (by decide) ?_
  refine L_iadd (pc := 872) DL_872 ?_
  refine L_sld (pc := 873) (i := i + 1) DL_873 (nI_addN i 1) (by omega) (by omega) ?_
  refine L_aloadS (pc := 874) DL_874 rfl ?_
  refine L_iload (pc := 875) DL_875 rfl ?_
  refine L_iconst (pc := 877) (v := nI 2) DL_877 (by decide) ?_
  refine L_iadd (pc := 878) DL_878 ?_
  refine L_sld (pc := 879) (i := i + 2) DL_879 (nI_addN i 2) (by omega) (by omega) ?_
  refine L_m (pc := 880) (ac := [.int (xs (i + 1)), .int (xs (i + 2))]) DL_880 m10_pour_v t1774 (c10_pour (d := 0) h.rt h.wt h.cr) (by omega) rfl rfl (fun _ => rfl) rfl rfl rfl hk hn (fun r w' hq => ?_)
  obtain ⟨rfl, s', A', L', M', rfl, px⟩ := hq
  exact L_icmp_eq (pc := 883) (tgt := 1413) DL_883 (by decide) (fun _ => ok _ _ _ _ _ _ _ _ _ _ _ _ _ _ _ _ _ _ _ _ _ (h.px px)) (fun hne => absurd rfl hne)
theorem cs_21 {L : Nat} {xs : Nat → Int32} {i k n : Nat} (hL : L ≤ 3072) (hi6 : i + 6 ≤ L) (hk : k ≤ 601024) (hn : n ≤ 7293034) (ok : LOK L xs i k n) {t np nb nn : Nat} {hi : Int32} {T : TV} {V : CV} {S : SB} {U : UV} {N : NV} {E : EV} {R : Nat → Int32} {I : CV} {K : TK} {G : GV} {X : TV} {s : Nat → Int32} {A : Nat → Nat → Int32} {LL1 : LL} {M : Nat → MR} {f : Nat → Int64} (h : REL t np nb nn hi T V U N I K G s A M) : JL L xs 925 (lsL i) [] (ZW t hi T V S U N E R I K G X s A LL1 M f) k n := by
  refine L_aload_n (pc := 925) DL_925 rfl ?_
  refine L_aloadS (pc := 926) DL_926 rfl ?_
  refine L_iload (pc := 927) DL_927 rfl ?_
  refine L_iconst (pc := 929) (v := nI 1) DL_929 (by decide) ?_
  refine L_iadd (pc := 930) DL_930 ?_
  refine L_sld (pc := 931) (i := i + 1) DL_931 (nI_addN i 1) (by omega) (by omega) ?_
  refine L_aloadS (pc := 932) DL_932 rfl ?_
  refine L_iload (pc := 933) DL_933 rfl ?_
  refine L_iconst (pc := 935) (v := nI 2) DL_935 (by decide) ?_
  refine L_iadd (pc := 936) DL_936 ?_
  refine L_sld (pc := 937) (i := i + 2) DL_937 (nI_addN i 2) (by omega) (by omega) ?_
  refine L_cR (pc := 938) (wc := tcA (nI t) hi T V) (ws := ((ZW t hi T V S U N E R I K G X s A LL1 M f)).drop 29) (ac := [.int (xs (i + 1)), .int (xs (i + 2))]) (rest := []) DL_938 m9_dowry_v t992 (c9_dowry (d := 0) h.wt) (by omega) rfl rfl rfl rfl rfl rfl hk hn ?_
  refine L_aload_n (pc := 941) DL_941 rfl ?_
  refine L_aloadS (pc := 942) DL_942 rfl ?_
  refine L_iload (pc := 943) DL_943 rfl ?_
  refine L_iconst (pc := 945) (v := nI 1) DL_945 (by decide) ?_
  refine L_iadd (pc := 946) DL_946 ?_
  refine L_sld (pc := 947) (i := i + 1) DL_947 (nI_addN i 1) (by omega) (by omega) ?_
  refine L_aloadS (pc := 948) DL_948 rfl ?_
  refine L_iload (pc := 949) DL_949 rfl ?_
  refine L_iconst (pc := 951) (v := nI 2) DL_951 (by decide) ?_
  refine L_iadd (pc := 952) DL_952 ?_
  refine L_sld (pc := 953) (i := i + 2) DL_953 (nI_addN i 2) (by omega) (by omega) ?_
  refine L_m (pc := 954) (ac := [.int (xs (i + 1)), .int (xs (i + 2))]) DL_954 m10_dowry_v t1782 (c10_dowry (d := 0) h.rt h.wt h.cr) (by omega) rfl rfl (fun _ => rfl) rfl rfl rfl hk hn (fun r w' hq => ?_)
  obtain ⟨rfl, s', A', L', M', rfl, px⟩ := hq
  exact L_icmp_eq (pc := 957) (tgt := 1413) DL_957 (by decide) (fun _ => ok _ _ _ _ _ _ _ _ _ _ _ _ _ _ _ _ _ _ _ _ _ (h.px px)) (fun hne => absurd rfl hne)
theorem cs_22 {L : Nat} {xs : Nat → Int32} {i k n : Nat} (hL : L ≤ 3072) (hi6 : i + 6 ≤ L) (hk : k ≤ 601024) (hn : n ≤ 7293034) (ok : LOK L xs i k n) {t np nb nn : Nat} {hi : Int32} {T : TV} {V : CV} {S : SB} {U : UV} {N : NV} {E : EV} {R : Nat → Int32} {I : CV} {K : TK} {G : GV} {X : TV} {s : Nat → Int32} {A : Nat → Nat → Int32} {LL1 : LL} {M : Nat → MR} {f : Nat → Int64} (h : REL t np nb nn hi T V U N I K G s A M) : JL L xs 962 (lsL i) [] (ZW t hi T V S U N E R I K G X s A LL1 M f) k n := by
  refine L_aload_n (pc := 962) DL_962 rfl ?_
  refine L_cR (pc := 963) (wc := tcA (nI t) hi T V) (ws := ((ZW t hi T V S U N E R I K G X s A LL1 M f)).drop 29) (ac := []) (rest := []) DL_963 m9_ring_v t999 (c9_ring (d := 0) h.wt) (by omega) rfl rfl rfl rfl rfl rfl hk hn ?_
  refine L_aload_n (pc := 966) DL_966 rfl ?_
  refine L_m (pc := 967) (ac := []) DL_967 m10_ring_v t1787 (c10_ring (d := 0) h.rt h.wt h.cr) (by omega) rfl rfl (fun _ => rfl) rfl rfl rfl hk hn (fun r w' hq => ?_)
  obtain ⟨rfl, s', A', L', M', rfl, px⟩ := hq
  exact L_icmp_eq (pc := 970) (tgt := 1413) DL_970 (by decide) (fun _ => ok _ _ _ _ _ _ _ _ _ _ _ _ _ _ _ _ _ _ _ _ _ (h.px px)) (fun hne => absurd rfl hne)
theorem cs_23 {L : Nat} {xs : Nat → Int32} {i k n : Nat} (hL : L ≤ 3072) (hi6 : i + 6 ≤ L) (hk : k ≤ 601024) (hn : n ≤ 7293034) (ok : LOK L xs i k n) {t np nb nn : Nat} {hi : Int32} {T : TV} {V : CV} {S : SB} {U : UV} {N : NV} {E : EV} {R : Nat → Int32} {I : CV} {K : TK} {G : GV} {X : TV} {s : Nat → Int32} {A : Nat → Nat → Int32} {LL1 : LL} {M : Nat → MR} {f : Nat → Int64} (h : REL t np nb nn hi T V U N I K G s A M) : JL L xs 975 (lsL i) [] (ZW t hi T V S U N E R I K G X s A LL1 M f) k n := by
  refine L_aload_n (pc := 975) DL_975 rfl ?_
  refine L_aloadS (pc := 976) DL_976 rfl ?_
  refine L_iload (pc := 977) DL_977 rfl ?_
  refine L_iconst (pc := 979) (v := nI 1) DL_979 (by decide) ?_
  refine L_iadd (pc := 980) DL_980 ?_
  refine L_sld (pc := 981) (i := i + 1) DL_981 (nI_addN i 1) (by omega) (by omega) ?_
  refine L_aloadS (pc := 982) DL_982 rfl ?_
  refine L_iload (pc := 983) DL_983 rfl ?_
  refine L_iconst (pc := 985) (v := nI 2) DL_985 (by decide) ?_
  refine L_iadd (pc := 986) DL_986 ?_
  refine L_sld (pc := 987) (i := i + 2) DL_987 (nI_addN i 2) (by omega) (by omega) ?_
  refine L_cR (pc := 988) (wc := tcA (nI t) hi T V) (ws := ((ZW t hi T V S U N E R I K G X s A LL1 M f)).drop 29) (ac := [.int (xs (i + 1)), .int (xs (i + 2))]) (rest := []) DL_988 m9_rests_v t1011 (c9_rests (d := 0) h.wt) (by omega) rfl rfl rfl rfl rfl rfl hk hn ?_
  refine L_aload_n (pc := 991) DL_991 rfl ?_
  refine L_aloadS (pc := 992) DL_992 rfl ?_
  refine L_iload (pc := 993) DL_993 rfl ?_
  refine L_iconst (pc := 995) (v := nI 1) DL_995 (by decide) ?_
  refine L_iadd (pc := 996) DL_996 ?_
  refine L_sld (pc := 997) (i := i + 1) DL_997 (nI_addN i 1) (by omega) (by omega) ?_
  refine L_aloadS (pc := 998) DL_998 rfl ?_
  refine L_iload (pc := 999) DL_999 rfl ?_
  refine L_iconst (pc := 1001) (v := nI 2) DL_1001 (by decide) ?_
  refine L_iadd (pc := 1002) DL_1002 ?_
  refine L_sld (pc := 1003) (i := i + 2) DL_1003 (nI_addN i 2) (by omega) (by omega) ?_
  refine L_m (pc := 1004) (ac := [.int (xs (i + 1)), .int (xs (i + 2))]) DL_1004 m10_rests_v t1799 (c10_rests (d := 0) h.rt h.wt h.cr) (by omega) rfl rfl (fun _ => rfl) rfl rfl rfl hk hn (fun r w' hq => ?_)
  obtain ⟨rfl, s', A', L', M', rfl, px⟩ := hq
  exact L_icmp_eq (pc := 1007) (tgt := 1413) DL_1007 (by decide) (fun _ => ok _ _ _ _ _ _ _ _ _ _ _ _ _ _ _ _ _ _ _ _ _ (h.px px)) (fun hne => absurd rfl hne)
theorem cs_24 {L : Nat} {xs : Nat → Int32} {i k n : Nat} (hL : L ≤ 3072) (hi6 : i + 6 ≤ L) (hk : k ≤ 601024) (hn : n ≤ 7293034) (ok : LOK L xs i k n) {t np nb nn : Nat} {hi : Int32} {T : TV} {V : CV} {S : SB} {U : UV} {N : NV} {E : EV} {R : Nat → Int32} {I : CV} {K : TK} {G : GV} {X : TV} {s : Nat → Int32} {A : Nat → Nat → Int32} {LL1 : LL} {M : Nat → MR} {f : Nat → Int64} (h : REL t np nb nn hi T V U N I K G s A M) : JL L xs 1012 (lsL i) [] (ZW t hi T V S U N E R I K G X s A LL1 M f) k n := by
  refine L_aload_n (pc := 1012) DL_1012 rfl ?_
  refine L_aloadS (pc := 1013) DL_1013 rfl ?_
  refine L_iload (pc := 1014) DL_1014 rfl ?_
  refine L_iconst (pc := 1016) (v := nI 1) DL_1016 (by decide) ?_
  refine L_iadd (pc := 1017) DL_1017 ?_
  refine L_sld (pc := 1018) (i := i + 1) DL_1018 (nI_addN i 1) (by omega) (by omega) ?_
  refine L_aloadS (pc := 1019) DL_1019 rfl ?_
  refine L_iload (pc := 1020) DL_1020 rfl ?_
  refine L_iconst (pc := 1022) (v := nI 2) DL_1022 (by decide) ?_
  refine L_iadd (pc := 1023) DL_1023 ?_
  refine L_sld (pc := 1024) (i := i + 2) DL_1024 (nI_addN i 2) (by omega) (by omega) ?_
  refine L_aloadS (pc := 1025) DL_1025 rfl ?_
  refine L_iload (pc := 1026) DL_1026 rfl ?_
  refine L_iconst (pc := 1028) (v := nI 3) DL_1028 (by decide) ?_
  refine L_iadd (pc := 1029) DL_1029 ?_
  refine L_sld (pc := 1030) (i := i + 3) DL_1030 (nI_addN i 3) (by omega) (by omega) ?_
  refine L_cR (pc := 1031) (wc := tcA (nI t) hi T V) (ws := ((ZW t hi T V S U N E R I K G X s A LL1 M f)).drop 29) (ac := [.int (xs (i + 1)), .int (xs (i + 2)), .int (xs (i + 3))]) (rest := []) DL_1031 m9_rest_v t1026 (c9_rest (d := 0) h.wt) (by omega) rfl rfl rfl rfl rfl rfl hk hn ?_
  refine L_aload_n (pc := 1034) DL_1034 rfl ?_
  refine L_aloadS (pc := 1035) DL_1035 rfl ?_
  refine L_iload (pc := 1036) DL_1036 rfl ?_
  refine L_iconst (pc := 1038) (v := nI 1) DL_1038 (by decide) ?_
  refine L_iadd (pc := 1039) DL_1039 ?_
  refine L_sld (pc := 1040) (i := i + 1) DL_1040 (nI_addN i 1) (by omega) (by omega) ?_
  refine L_aloadS (pc := 1041) DL_1041 rfl ?_
  refine L_iload (pc := 1042) DL_1042 rfl ?_
  refine L_iconst (pc := 1044) (v := nI 2) DL_1044 (by decide) ?_
  refine L_iadd (pc := 1045) DL_1045 ?_
  refine L_sld (pc := 1046) (i := i + 2) DL_1046 (nI_addN i 2) (by omega) (by omega) ?_
  refine L_aloadS (pc := 1047) DL_1047 rfl ?_
  refine L_iload (pc := 1048) DL_1048 rfl ?_
  refine L_iconst (pc := 1050) (v := nI 3) DL_1050 (by decide) ?_
  refine L_iadd (pc := 1051) DL_1051 ?_
  refine L_sld (pc := 1052) (i := i + 3) DL_1052 (nI_addN i 3) (by omega) (by omega) ?_
  refine L_m (pc := 1053) (ac := [.int (xs (i + 1)), .int (xs (i + 2)), .int (xs (i + 3))]) DL_1053 m10_rest_v t1823 (c10_rest (d := 0) h.rt h.wt h.cr) (by omega) rfl rfl (fun _ => rfl) rfl rfl rfl hk hn (fun r w' hq => ?_)
  obtain ⟨rfl, s', A', L', M', rfl, px⟩ := hq
  exact L_icmp_eq (pc := 1056) (tgt := 1413) DL_1056 (by decide) (fun _ => ok _ _ _ _ _ _ _ _ _ _ _ _ _ _ _ _ _ _ _ _ _ (h.px px)) (fun hne => absurd rfl hne)
theorem cs_25 {L : Nat} {xs : Nat → Int32} {i k n : Nat} (hL : L ≤ 3072) (hi6 : i + 6 ≤ L) (hk : k ≤ 601024) (hn : n ≤ 7293034) (ok : LOK L xs i k n) {t np nb nn : Nat} {hi : Int32} {T : TV} {V : CV} {S : SB} {U : UV} {N : NV} {E : EV} {R : Nat → Int32} {I : CV} {K : TK} {G : GV} {X : TV} {s : Nat → Int32} {A : Nat → Nat → Int32} {LL1 : LL} {M : Nat → MR} {f : Nat → Int64} (h : REL t np nb nn hi T V U N I K G s A M) : JL L xs 1061 (lsL i) [] (ZW t hi T V S U N E R I K G X s A LL1 M f) k n := by
  refine L_aload_n (pc := 1061) DL_1061 rfl ?_
  refine L_aloadS (pc := 1062) DL_1062 rfl ?_
  refine L_iload (pc := 1063) DL_1063 rfl ?_
  refine L_iconst (pc := 1065) (v := nI 1) DL_1065 (by decide) ?_
  refine L_iadd (pc := 1066) DL_1066 ?_
  refine L_sld (pc := 1067) (i := i + 1) DL_1067 (nI_addN i 1) (by omega) (by omega) ?_
  refine L_aloadS (pc := 1068) DL_1068 rfl ?_
  refine L_iload (pc := 1069) DL_1069 rfl ?_
  refine L_iconst (pc := 1071) (v := nI 2) DL_1071 (by decide) ?_
  refine L_iadd (pc := 1072) DL_1072 ?_
  refine L_sld (pc := 1073) (i := i + 2) DL_1073 (nI_addN i 2) (by omega) (by omega) ?_
  refine L_aloadS (pc := 1074) DL_1074 rfl ?_
  refine L_iload (pc := 1075) DL_1075 rfl ?_
  refine L_iconst (pc := 1077) (v := nI 3) DL_1077 (by decide) ?_
  refine L_iadd (pc := 1078) DL_1078 ?_
  refine L_sld (pc := 1079) (i := i + 3) DL_1079 (nI_addN i 3) (by omega) (by omega) ?_
  refine L_cR (pc := 1080) (wc := tcA (nI t) hi T V) (ws := ((ZW t hi T V S U N E R I K G X s A LL1 M f)).drop 29) (ac := [.int (xs (i + 1)), .int (xs (i + 2)), .int (xs (i + 3))]) (rest := []) DL_1080 m9_lasts_v t1030 (c9_lasts (d := 0) h.wt) (by omega) rfl rfl rfl rfl rfl rfl hk hn ?_
  refine L_aload_n (pc := 1083) DL_1083 rfl ?_
  refine L_aloadS (pc := 1084) DL_1084 rfl ?_
  refine L_iload (pc := 1085) DL_1085 rfl ?_
  refine L_iconst (pc := 1087) (v := nI 1) DL_1087 (by decide) ?_
  refine L_iadd (pc := 1088) DL_1088 ?_
  refine L_sld (pc := 1089) (i := i + 1) DL_1089 (nI_addN i 1) (by omega) (by omega) ?_
  refine L_aloadS (pc := 1090) DL_1090 rfl ?_
  refine L_iload (pc := 1091) DL_1091 rfl ?_
  refine L_iconst (pc := 1093) (v := nI 2) DL_1093 (by decide) ?_
  refine L_iadd (pc := 1094) DL_1094 ?_
  refine L_sld (pc := 1095) (i := i + 2) DL_1095 (nI_addN i 2) (by omega) (by omega) ?_
  refine L_aloadS (pc := 1096) DL_1096 rfl ?_
  refine L_iload (pc := 1097) DL_1097 rfl ?_
  refine L_iconst (pc := 1099) (v := nI 3) DL_1099 (by decide) ?_
  refine L_iadd (pc := 1100) DL_1100 ?_
  refine L_sld (pc := 1101) (i := i + 3) DL_1101 (nI_addN i 3) (by omega) (by omega) ?_
  refine L_m (pc := 1102) (ac := [.int (xs (i + 1)), .int (xs (i + 2)), .int (xs (i + 3))]) DL_1102 m10_lasts_v t1827 (c10_lasts (d := 0) h.rt h.wt h.cr) (by omega) rfl rfl (fun _ => rfl) rfl rfl rfl hk hn (fun r w' hq => ?_)
  obtain ⟨rfl, s', A', L', M', rfl, px⟩ := hq
  refine L_lcmp (pc := 1105) DL_1105 ?_
  exact L_if_eq (pc := 1106) (tgt := 1413) DL_1106 (by decide) (fun _ => ok _ _ _ _ _ _ _ _ _ _ _ _ _ _ _ _ _ _ _ _ _ (h.px px)) (fun hne => absurd (lg_cmp_rf _) hne)
theorem cs_8 {L : Nat} {xs : Nat → Int32} {i k n : Nat} (hL : L ≤ 3072) (hi6 : i + 6 ≤ L) (hk : k ≤ 601024) (hn : n ≤ 7293034) (ok : LOK L xs i k n) {t np nb nn : Nat} {hi : Int32} {T : TV} {V : CV} {S : SB} {U : UV} {N : NV} {E : EV} {R : Nat → Int32} {I : CV} {K : TK} {G : GV} {X : TV} {s : Nat → Int32} {A : Nat → Nat → Int32} {LL1 : LL} {M : Nat → MR} {f : Nat → Int64} (h : REL t np nb nn hi T V U N I K G s A M) : JL L xs 527 (lsL i) [] (ZW t hi T V S U N E R I K G X s A LL1 M f) k n := by
  refine L_aload_n (pc := 527) DL_527 rfl ?_
  refine L_aloadS (pc := 528) DL_528 rfl ?_
  refine L_iload (pc := 529) DL_529 rfl ?_
  refine L_iconst (pc := 531) (v := nI 1) DL_531 (by decide) ?_
  refine L_iadd (pc := 532) DL_532 ?_
  refine L_sld (pc := 533) (i := i + 1) DL_533 (nI_addN i 1) (by omega) (by omega) ?_
  refine L_aloadS (pc := 534) DL_534 rfl ?_
  refine L_iload (pc := 535) DL_535 rfl ?_
  refine L_iconst (pc := 537) (v := nI 2) DL_537 (by decide) ?_
  refine L_iadd (pc := 538) DL_538 ?_
  refine L_sld (pc := 539) (i := i + 2) DL_539 (nI_addN i 2) (by omega) (by omega) ?_
  refine L_c (pc := 540) (wc := tcB (nI t) hi T V S) (ws := ((ZW t hi T V S U N E R I K G X s A LL1 M f)).drop 42) (ac := [.int (xs (i + 1)), .int (xs (i + 2))]) (rest := []) DL_540 m9_law_v t746 (c9_law (d := 0) h.wt h.wv) (by omega) rfl rfl rfl rfl rfl rfl hk hn (fun r w' hq hl => ?_)
  obtain ⟨rfl, S', rfl⟩ := hq
  refine L_w (w2 := ZW t hi T V S' U N E R I K G X s A LL1 M f) rfl ?_
  refine L_aload_n (pc := 543) DL_543 rfl ?_
  refine L_aloadS (pc := 544) DL_544 rfl ?_
  refine L_iload (pc := 545) DL_545 rfl ?_
  refine L_iconst (pc := 547) (v := nI 1) DL_547 (by decide) ?_
  refine L_iadd (pc := 548) DL_548 ?_
  refine L_sld (pc := 549) (i := i + 1) DL_549 (nI_addN i 1) (by omega) (by omega) ?_
  refine L_aloadS (pc := 550) DL_550 rfl ?_
  refine L_iload (pc := 551) DL_551 rfl ?_
  refine L_iconst (pc := 553) (v := nI 2) DL_553 (by decide) ?_
  refine L_iadd (pc := 554) DL_554 ?_
  refine L_sld (pc := 555) (i := i + 2) DL_555 (nI_addN i 2) (by omega) (by omega) ?_
  refine L_m (pc := 556) (ac := [.int (xs (i + 1)), .int (xs (i + 2))]) DL_556 m10_law_v t1606 (c10_law (d := 0) h.rt h.wt h.cr) (by omega) rfl rfl (fun _ => rfl) rfl rfl rfl hk hn (fun r w' hq => ?_)
  obtain ⟨rfl, s', A', L', M', rfl, px⟩ := hq
  refine L_lcmp (pc := 559) DL_559 ?_
  exact L_if_eq (pc := 560) (tgt := 1413) DL_560 (by decide) (fun _ => ok _ _ _ _ _ _ _ _ _ _ _ _ _ _ _ _ _ _ _ _ _ (h.px px)) (fun hne => absurd (lg_cmp_rf _) hne)
theorem cs_13 {L : Nat} {xs : Nat → Int32} {i k n : Nat} (hL : L ≤ 3072) (hi6 : i + 6 ≤ L) (hk : k ≤ 601024) (hn : n ≤ 7293034) (ok : LOK L xs i k n) {t np nb nn : Nat} {hi : Int32} {T : TV} {V : CV} {S : SB} {U : UV} {N : NV} {E : EV} {R : Nat → Int32} {I : CV} {K : TK} {G : GV} {X : TV} {s : Nat → Int32} {A : Nat → Nat → Int32} {LL1 : LL} {M : Nat → MR} {f : Nat → Int64} (h : REL t np nb nn hi T V U N I K G s A M) : JL L xs 677 (lsL i) [] (ZW t hi T V S U N E R I K G X s A LL1 M f) k n := by
  refine L_aload_n (pc := 677) DL_677 rfl ?_
  refine L_aloadS (pc := 678) DL_678 rfl ?_
  refine L_iload (pc := 679) DL_679 rfl ?_
  refine L_iconst (pc := 681) (v := nI 1) DL_681 (by decide) ?_
  refine L_iadd (pc := 682) DL_682 ?_
  refine L_sld (pc := 683) (i := i + 1) DL_683 (nI_addN i 1) (by omega) (by omega) ?_
  refine L_aloadS (pc := 684) DL_684 rfl ?_
  refine L_iload (pc := 685) DL_685 rfl ?_
  refine L_iconst (pc := 687) (v := nI 2) DL_687 (by decide) ?_
  refine L_iadd (pc := 688) DL_688 ?_
  refine L_sld (pc := 689) (i := i + 2) DL_689 (nI_addN i 2) (by omega) (by omega) ?_
  refine L_aloadS (pc := 690) DL_690 rfl ?_
  refine L_iload (pc := 691) DL_691 rfl ?_
  refine L_iconst (pc := 693) (v := nI 3) DL_693 (by decide) ?_
  refine L_iadd (pc := 694) DL_694 ?_
  refine L_sld (pc := 695) (i := i + 3) DL_695 (nI_addN i 3) (by omega) (by omega) ?_
  refine L_c (pc := 696) (wc := tcB (nI t) hi T V S) (ws := ((ZW t hi T V S U N E R I K G X s A LL1 M f)).drop 42) (ac := [.int (xs (i + 1)), .int (xs (i + 2)), .int (xs (i + 3))]) (rest := []) DL_696 m9_ahead_v t879 (c9_ahead (d := 0) h.wt h.wv) (by omega) rfl rfl rfl rfl rfl rfl hk hn (fun r w' hq hl => ?_)
  obtain ⟨rfl, S', rfl⟩ := hq
  refine L_w (w2 := ZW t hi T V S' U N E R I K G X s A LL1 M f) rfl ?_
  refine L_aload_n (pc := 699) DL_699 rfl ?_
  refine L_aloadS (pc := 700) DL_700 rfl ?_
  refine L_iload (pc := 701) DL_701 rfl ?_
  refine L_iconst (pc := 703) (v := nI 1) DL_703 (by decide) ?_
  refine L_iadd (pc := 704) DL_704 ?_
  refine L_sld (pc := 705) (i := i + 1) DL_705 (nI_addN i 1) (by omega) (by omega) ?_
  refine L_aloadS (pc := 706) DL_706 rfl ?_
  refine L_iload (pc := 707) DL_707 rfl ?_
  refine L_iconst (pc := 709) (v := nI 2) DL_709 (by decide) ?_
  refine L_iadd (pc := 710) DL_710 ?_
  refine L_sld (pc := 711) (i := i + 2) DL_711 (nI_addN i 2) (by omega) (by omega) ?_
  refine L_aloadS (pc := 712) DL_712 rfl ?_
  refine L_iload (pc := 713) DL_713 rfl ?_
  refine L_iconst (pc := 715) (v := nI 3) DL_715 (by decide) ?_
  refine L_iadd (pc := 716) DL_716 ?_
  refine L_sld (pc := 717) (i := i + 3) DL_717 (nI_addN i 3) (by omega) (by omega) ?_
  refine L_m (pc := 718) (ac := [.int (xs (i + 1)), .int (xs (i + 2)), .int (xs (i + 3))]) DL_718 m10_ahead_v t1710 (c10_ahead (d := 0) h.rt h.wt h.cr h.e48) (by omega) rfl rfl (fun _ => rfl) rfl rfl rfl hk hn (fun r w' hq => ?_)
  obtain ⟨rfl, s', A', L', M', rfl, px⟩ := hq
  exact L_icmp_eq (pc := 721) (tgt := 1413) DL_721 (by decide) (fun _ => ok _ _ _ _ _ _ _ _ _ _ _ _ _ _ _ _ _ _ _ _ _ (h.px px)) (fun hne => absurd rfl hne)
theorem cs_14 {L : Nat} {xs : Nat → Int32} {i k n : Nat} (hL : L ≤ 3072) (hi6 : i + 6 ≤ L) (hk : k ≤ 601024) (hn : n ≤ 7293034) (ok : LOK L xs i k n) {t np nb nn : Nat} {hi : Int32} {T : TV} {V : CV} {S : SB} {U : UV} {N : NV} {E : EV} {R : Nat → Int32} {I : CV} {K : TK} {G : GV} {X : TV} {s : Nat → Int32} {A : Nat → Nat → Int32} {LL1 : LL} {M : Nat → MR} {f : Nat → Int64} (h : REL t np nb nn hi T V U N I K G s A M) : JL L xs 726 (lsL i) [] (ZW t hi T V S U N E R I K G X s A LL1 M f) k n := by
  refine L_aload_n (pc := 726) DL_726 rfl ?_
  refine L_aloadS (pc := 727) DL_727 rfl ?_
  refine L_iload (pc := 728) DL_728 rfl ?_
  refine L_iconst (pc := 730) (v := nI 1) DL_730 (by decide) ?_
  refine L_iadd (pc := 731) DL_731 ?_
  refine L_sld (pc := 732) (i := i + 1) DL_732 (nI_addN i 1) (by omega) (by omega) ?_
  refine L_c (pc := 733) (wc := tcB (nI t) hi T V S) (ws := ((ZW t hi T V S U N E R I K G X s A LL1 M f)).drop 42) (ac := [.int (xs (i + 1))]) (rest := []) DL_733 m9_firstOff_v t921 (c9_firstOff (d := 0) h.wt h.wv) (by omega) rfl rfl rfl rfl rfl rfl hk hn (fun r w' hq hl => ?_)
  obtain ⟨rfl, S', rfl⟩ := hq
  refine L_w (w2 := ZW t hi T V S' U N E R I K G X s A LL1 M f) rfl ?_
  refine L_aload_n (pc := 736) DL_736 rfl ?_
  refine L_aloadS (pc := 737) DL_737 rfl ?_
  refine L_iload (pc := 738) DL_738 rfl ?_
  refine L_iconst (pc := 740) (v := nI 1) DL_740 (by decide) ?_
  refine L_iadd (pc := 741) DL_741 ?_
  refine L_sld (pc := 742) (i := i + 1) DL_742 (nI_addN i 1) (by omega) (by omega) ?_
  refine L_m (pc := 743) (ac := [.int (xs (i + 1))]) DL_743 m10_firstOff_v t1734 (c10_firstOff (d := 0) h.rt h.wt h.cr h.e48) (by omega) rfl rfl (fun _ => rfl) rfl rfl rfl hk hn (fun r w' hq => ?_)
  obtain ⟨rfl, s', A', L', M', rfl, px⟩ := hq
  exact L_icmp_eq (pc := 746) (tgt := 1413) DL_746 (by decide) (fun _ => ok _ _ _ _ _ _ _ _ _ _ _ _ _ _ _ _ _ _ _ _ _ (h.px px)) (fun hne => absurd rfl hne)
theorem cs_15 {L : Nat} {xs : Nat → Int32} {i k n : Nat} (hL : L ≤ 3072) (hi6 : i + 6 ≤ L) (hk : k ≤ 601024) (hn : n ≤ 7293034) (ok : LOK L xs i k n) {t np nb nn : Nat} {hi : Int32} {T : TV} {V : CV} {S : SB} {U : UV} {N : NV} {E : EV} {R : Nat → Int32} {I : CV} {K : TK} {G : GV} {X : TV} {s : Nat → Int32} {A : Nat → Nat → Int32} {LL1 : LL} {M : Nat → MR} {f : Nat → Int64} (h : REL t np nb nn hi T V U N I K G s A M) : JL L xs 751 (lsL i) [] (ZW t hi T V S U N E R I K G X s A LL1 M f) k n := by
  refine L_aload_n (pc := 751) DL_751 rfl ?_
  refine L_aloadS (pc := 752) DL_752 rfl ?_
  refine L_iload (pc := 753) DL_753 rfl ?_
  refine L_iconst (pc := 755) (v := nI 1) DL_755 (by decide) ?_
  refine L_iadd (pc := 756) DL_756 ?_
  refine L_sld (pc := 757) (i := i + 1) DL_757 (nI_addN i 1) (by omega) (by omega) ?_
  refine L_c (pc := 758) (wc := tcB (nI t) hi T V S) (ws := ((ZW t hi T V S U N E R I K G X s A LL1 M f)).drop 42) (ac := [.int (xs (i + 1))]) (rest := []) DL_758 m9_chain_v t927 (c9_chain (d := 0) h.wt h.wv) (by omega) rfl rfl rfl rfl rfl rfl hk hn (fun r w' hq hl => ?_)
  obtain ⟨rfl, S', rfl⟩ := hq
  refine L_w (w2 := ZW t hi T V S' U N E R I K G X s A LL1 M f) rfl ?_
  refine L_aload_n (pc := 761) DL_761 rfl ?_
  refine L_aloadS (pc := 762) DL_762 rfl ?_
  refine L_iload (pc := 763) DL_763 rfl ?_
  refine L_iconst (pc := 765) (v := nI 1) DL_765 (by decide) ?_
  refine L_iadd (pc := 766) DL_766 ?_
  refine L_sld (pc := 767) (i := i + 1) DL_767 (nI_addN i 1) (by omega) (by omega) ?_
  refine L_m (pc := 768) (ac := [.int (xs (i + 1))]) DL_768 m10_chain_v t1742 (c10_chain (d := 0) h.rt h.wt h.cr h.e48) (by omega) rfl rfl (fun _ => rfl) rfl rfl rfl hk hn (fun r w' hq => ?_)
  obtain ⟨rfl, s', A', L', M', rfl, px⟩ := hq
  exact L_icmp_eq (pc := 771) (tgt := 1413) DL_771 (by decide) (fun _ => ok _ _ _ _ _ _ _ _ _ _ _ _ _ _ _ _ _ _ _ _ _ (h.px px)) (fun hne => absurd rfl hne)
theorem cs_20 {L : Nat} {xs : Nat → Int32} {i k n : Nat} (hL : L ≤ 3072) (hi6 : i + 6 ≤ L) (hk : k ≤ 601024) (hn : n ≤ 7293034) (ok : LOK L xs i k n) {t np nb nn : Nat} {hi : Int32} {T : TV} {V : CV} {S : SB} {U : UV} {N : NV} {E : EV} {R : Nat → Int32} {I : CV} {K : TK} {G : GV} {X : TV} {s : Nat → Int32} {A : Nat → Nat → Int32} {LL1 : LL} {M : Nat → MR} {f : Nat → Int64} (h : REL t np nb nn hi T V U N I K G s A M) : JL L xs 888 (lsL i) [] (ZW t hi T V S U N E R I K G X s A LL1 M f) k n := by
  refine L_aload_n (pc := 888) DL_888 rfl ?_
  refine L_aloadS (pc := 889) DL_889 rfl ?_
  refine L_iload (pc := 890) DL_890 rfl ?_
  refine L_iconst (pc := 892) (v := nI 1) DL_892 (by decide) ?_
  refine L_iadd (pc := 893) DL_893 ?_
  refine L_sld (pc := 894) (i := i + 1) DL_894 (nI_addN i 1) (by omega) (by omega) ?_
  refine L_aloadS (pc := 895) DL_895 rfl ?_
  refine L_iload (pc := 896) DL_896 rfl ?_
  refine L_iconst (pc := 898) (v := nI 2) DL_898 (by decide) ?_
  refine L_iadd (pc := 899) DL_899 ?_
  refine L_sld (pc := 900) (i := i + 2) DL_900 (nI_addN i 2) (by omega) (by omega) ?_
  refine L_c (pc := 901) (wc := tcB (nI t) hi T V S) (ws := ((ZW t hi T V S U N E R I K G X s A LL1 M f)).drop 42) (ac := [.int (xs (i + 1)), .int (xs (i + 2))]) (rest := []) DL_901 m9_ripe_v t988 (c9_ripe (d := 0) h.wt h.wv) (by omega) rfl rfl rfl rfl rfl rfl hk hn (fun r w' hq hl => ?_)
  obtain ⟨rfl, S', rfl⟩ := hq
  refine L_w (w2 := ZW t hi T V S' U N E R I K G X s A LL1 M f) rfl ?_
  refine L_aload_n (pc := 904) DL_904 rfl ?_
  refine L_aloadS (pc := 905) DL_905 rfl ?_
  refine L_iload (pc := 906) DL_906 rfl ?_
  refine L_iconst (pc := 908) (v := nI 1) DL_908 (by decide) ?_
  refine L_iadd (pc := 909) DL_909 ?_
  refine L_sld (pc := 910) (i := i + 1) DL_910 (nI_addN i 1) (by omega) (by omega) ?_
  refine L_aloadS (pc := 911) DL_911 rfl ?_
  refine L_iload (pc := 912) DL_912 rfl ?_
  refine L_iconst (pc := 914) (v := nI 2) DL_914 (by decide) ?_
  refine L_iadd (pc := 915) DL_915 ?_
  refine L_sld (pc := 916) (i := i + 2) DL_916 (nI_addN i 2) (by omega) (by omega) ?_
  refine L_m (pc := 917) (ac := [.int (xs (i + 1)), .int (xs (i + 2))]) DL_917 m10_ripe_v t1778 (c10_ripe (d := 0) h.rt h.wt h.cr h.e48) (by omega) rfl rfl (fun _ => rfl) rfl rfl rfl hk hn (fun r w' hq => ?_)
  obtain ⟨rfl, s', A', L', M', rfl, px⟩ := hq
  exact L_icmp_eq (pc := 920) (tgt := 1413) DL_920 (by decide) (fun _ => ok _ _ _ _ _ _ _ _ _ _ _ _ _ _ _ _ _ _ _ _ _ (h.px px)) (fun hne => absurd rfl hne)
theorem cs_30 {L : Nat} {xs : Nat → Int32} {i k n : Nat} (hL : L ≤ 3072) (hi6 : i + 6 ≤ L) (hk : k ≤ 601024) (hn : n ≤ 7293034) (ok : LOK L xs i k n) {t np nb nn : Nat} {hi : Int32} {T : TV} {V : CV} {S : SB} {U : UV} {N : NV} {E : EV} {R : Nat → Int32} {I : CV} {K : TK} {G : GV} {X : TV} {s : Nat → Int32} {A : Nat → Nat → Int32} {LL1 : LL} {M : Nat → MR} {f : Nat → Int64} (h : REL t np nb nn hi T V U N I K G s A M) : JL L xs 1251 (lsL i) [] (ZW t hi T V S U N E R I K G X s A LL1 M f) k n := by
  refine L_aload_n (pc := 1251) DL_1251 rfl ?_
  refine L_aloadS (pc := 1252) DL_1252 rfl ?_
  refine L_iload (pc := 1253) DL_1253 rfl ?_
  refine L_iconst (pc := 1255) (v := nI 1) DL_1255 (by decide) ?_
  refine L_iadd (pc := 1256) DL_1256 ?_
  refine L_sld (pc := 1257) (i := i + 1) DL_1257 (nI_addN i 1) (by omega) (by omega) ?_
  refine L_aloadS (pc := 1258) DL_1258 rfl ?_
  refine L_iload (pc := 1259) DL_1259 rfl ?_
  refine L_iconst (pc := 1261) (v := nI 2) DL_1261 (by decide) ?_
  refine L_iadd (pc := 1262) DL_1262 ?_
  refine L_sld (pc := 1263) (i := i + 2) DL_1263 (nI_addN i 2) (by omega) (by omega) ?_
  refine L_aloadS (pc := 1264) DL_1264 rfl ?_
  refine L_iload (pc := 1265) DL_1265 rfl ?_
  refine L_iconst (pc := 1267) (v := nI 3) DL_1267 (by decide) ?_
  refine L_iadd (pc := 1268) DL_1268 ?_
  refine L_sld (pc := 1269) (i := i + 3) DL_1269 (nI_addN i 3) (by omega) (by omega) ?_
  refine L_c (pc := 1270) (wc := tcB (nI t) hi T V S) (ws := ((ZW t hi T V S U N E R I K G X s A LL1 M f)).drop 42) (ac := [.int (xs (i + 1)), .int (xs (i + 2)), .int (xs (i + 3))]) (rest := []) DL_1270 m9_chance_v t1089 (c9_chance (d := 0) h.wt h.wv) (by omega) rfl rfl rfl rfl rfl rfl hk hn (fun r w' hq hl => ?_)
  obtain ⟨rfl, S', rfl⟩ := hq
  refine L_w (w2 := ZW t hi T V S' U N E R I K G X s A LL1 M f) rfl ?_
  refine L_aload_n (pc := 1273) DL_1273 rfl ?_
  refine L_aloadS (pc := 1274) DL_1274 rfl ?_
  refine L_iload (pc := 1275) DL_1275 rfl ?_
  refine L_iconst (pc := 1277) (v := nI 1) DL_1277 (by decide) ?_
  refine L_iadd (pc := 1278) DL_1278 ?_
  refine L_sld (pc := 1279) (i := i + 1) DL_1279 (nI_addN i 1) (by omega) (by omega) ?_
  refine L_aloadS (pc := 1280) DL_1280 rfl ?_
  refine L_iload (pc := 1281) DL_1281 rfl ?_
  refine L_iconst (pc := 1283) (v := nI 2) DL_1283 (by decide) ?_
  refine L_iadd (pc := 1284) DL_1284 ?_
  refine L_sld (pc := 1285) (i := i + 2) DL_1285 (nI_addN i 2) (by omega) (by omega) ?_
  refine L_aloadS (pc := 1286) DL_1286 rfl ?_
  refine L_iload (pc := 1287) DL_1287 rfl ?_
  refine L_iconst (pc := 1289) (v := nI 3) DL_1289 (by decide) ?_
  refine L_iadd (pc := 1290) DL_1290 ?_
  refine L_sld (pc := 1291) (i := i + 3) DL_1291 (nI_addN i 3) (by omega) (by omega) ?_
  refine L_m (pc := 1292) (ac := [.int (xs (i + 1)), .int (xs (i + 2)), .int (xs (i + 3))]) DL_1292 m10_chance_v t1868 (c10_chance (d := 0) h.rt h.wt h.cr h.e48) (by omega) rfl rfl (fun _ => rfl) rfl rfl rfl hk hn (fun r w' hq => ?_)
  obtain ⟨rfl, s', A', L', M', rfl, px⟩ := hq
  exact L_icmp_eq (pc := 1295) (tgt := 1413) DL_1295 (by decide) (fun _ => ok _ _ _ _ _ _ _ _ _ _ _ _ _ _ _ _ _ _ _ _ _ (h.px px)) (fun hne => absurd rfl hne)
theorem cs_31 {L : Nat} {xs : Nat → Int32} {i k n : Nat} (hL : L ≤ 3072) (hi6 : i + 6 ≤ L) (hk : k ≤ 601024) (hn : n ≤ 7293034) (ok : LOK L xs i k n) {t np nb nn : Nat} {hi : Int32} {T : TV} {V : CV} {S : SB} {U : UV} {N : NV} {E : EV} {R : Nat → Int32} {I : CV} {K : TK} {G : GV} {X : TV} {s : Nat → Int32} {A : Nat → Nat → Int32} {LL1 : LL} {M : Nat → MR} {f : Nat → Int64} (h : REL t np nb nn hi T V U N I K G s A M) : JL L xs 1300 (lsL i) [] (ZW t hi T V S U N E R I K G X s A LL1 M f) k n := by
  refine L_aload_n (pc := 1300) DL_1300 rfl ?_
  refine L_aloadS (pc := 1301) DL_1301 rfl ?_
  refine L_iload (pc := 1302) DL_1302 rfl ?_
  refine L_iconst (pc := 1304) (v := nI 1) DL_1304 (by decide) ?_
  refine L_iadd (pc := 1305) DL_1305 ?_
  refine L_sld (pc := 1306) (i := i + 1) DL_1306 (nI_addN i 1) (by omega) (by omega) ?_
  refine L_aloadS (pc := 1307) DL_1307 rfl ?_
  refine L_iload (pc := 1308) DL_1308 rfl ?_
  refine L_iconst (pc := 1310) (v := nI 2) DL_1310 (by decide) ?_
  refine L_iadd (pc := 1311) DL_1311 ?_
  refine L_sld (pc := 1312) (i := i + 2) DL_1312 (nI_addN i 2) (by omega) (by omega) ?_
  refine L_aloadS (pc := 1313) DL_1313 rfl ?_
  refine L_iload (pc := 1314) DL_1314 rfl ?_
  refine L_iconst (pc := 1316) (v := nI 3) DL_1316 (by decide) ?_
  refine L_iadd (pc := 1317) DL_1317 ?_
  refine L_sld (pc := 1318) (i := i + 3) DL_1318 (nI_addN i 3) (by omega) (by omega) ?_
  refine L_c (pc := 1319) (wc := tcB (nI t) hi T V S) (ws := ((ZW t hi T V S U N E R I K G X s A LL1 M f)).drop 42) (ac := [.int (xs (i + 1)), .int (xs (i + 2)), .int (xs (i + 3))]) (rest := []) DL_1319 m9_tried_v t1093 (c9_tried (d := 0) h.wt h.wv) (by omega) rfl rfl rfl rfl rfl rfl hk hn (fun r w' hq hl => ?_)
  obtain ⟨rfl, S', rfl⟩ := hq
  refine L_w (w2 := ZW t hi T V S' U N E R I K G X s A LL1 M f) rfl ?_
  refine L_aload_n (pc := 1322) DL_1322 rfl ?_
  refine L_aloadS (pc := 1323) DL_1323 rfl ?_
  refine L_iload (pc := 1324) DL_1324 rfl ?_
  refine L_iconst (pc := 1326) (v := nI 1) DL_1326 (by decide) ?_
  refine L_iadd (pc := 1327) DL_1327 ?_
  refine L_sld (pc := 1328) (i := i + 1) DL_1328 (nI_addN i 1) (by omega) (by omega) ?_
  refine L_aloadS (pc := 1329) DL_1329 rfl ?_
  refine L_iload (pc := 1330) DL_1330 rfl ?_
  refine L_iconst (pc := 1332) (v := nI 2) DL_1332 (by decide) ?_
  refine L_iadd (pc := 1333) DL_1333 ?_
  refine L_sld (pc := 1334) (i := i + 2) DL_1334 (nI_addN i 2) (by omega) (by omega) ?_
  refine L_aloadS (pc := 1335) DL_1335 rfl ?_
  refine L_iload (pc := 1336) DL_1336 rfl ?_
  refine L_iconst (pc := 1338) (v := nI 3) DL_1338 (by decide) ?_
  refine L_iadd (pc := 1339) DL_1339 ?_
  refine L_sld (pc := 1340) (i := i + 3) DL_1340 (nI_addN i 3) (by omega) (by omega) ?_
  refine L_m (pc := 1341) (ac := [.int (xs (i + 1)), .int (xs (i + 2)), .int (xs (i + 3))]) DL_1341 m10_tried_v t1872 (c10_tried (d := 0) h.rt h.wt h.cr h.e48) (by omega) rfl rfl (fun _ => rfl) rfl rfl rfl hk hn (fun r w' hq => ?_)
  obtain ⟨rfl, s', A', L', M', rfl, px⟩ := hq
  exact L_icmp_eq (pc := 1344) (tgt := 1413) DL_1344 (by decide) (fun _ => ok _ _ _ _ _ _ _ _ _ _ _ _ _ _ _ _ _ _ _ _ _ (h.px px)) (fun hne => absurd rfl hne)
theorem cs_2 {L : Nat} {xs : Nat → Int32} {i k n : Nat} (hL : L ≤ 3072) (hi6 : i + 6 ≤ L) (hk : k ≤ 601024) (hn : n ≤ 7293034) (ok : LOK L xs i k n) {t np nb nn : Nat} {hi : Int32} {T : TV} {V : CV} {S : SB} {U : UV} {N : NV} {E : EV} {R : Nat → Int32} {I : CV} {K : TK} {G : GV} {X : TV} {s : Nat → Int32} {A : Nat → Nat → Int32} {LL1 : LL} {M : Nat → MR} {f : Nat → Int64} (h : REL t np nb nn hi T V U N I K G s A M) : JL L xs 298 (lsL i) [] (ZW t hi T V S U N E R I K G X s A LL1 M f) k n := by
  refine L_aload_n (pc := 298) DL_298 rfl ?_
  refine L_aloadS (pc := 299) DL_299 rfl ?_
  refine L_iload (pc := 300) DL_300 rfl ?_
  refine L_iconst (pc := 302) (v := nI 1) DL_302 (by decide) ?_
  refine L_iadd (pc := 303) DL_303 ?_
  refine L_sld (pc := 304) (i := i + 1) DL_304 (nI_addN i 1) (by omega) (by omega) ?_
  refine L_cR (pc := 305) (wc := tcZ (nI t) hi T V S U N E R I K G X) (ws := ((ZW t hi T V S U N E R I K G X s A LL1 M f)).drop 90) (ac := [.int (xs (i + 1))]) (rest := []) DL_305 m9_fault_v t694 (c9_fault (d := 0)) (by omega) rfl rfl rfl rfl rfl rfl hk hn ?_
  refine L_aload_n (pc := 308) DL_308 rfl ?_
  refine L_aloadS (pc := 309) DL_309 rfl ?_
  refine L_iload (pc := 310) DL_310 rfl ?_
  refine L_iconst (pc := 312) (v := nI 1) DL_312 (by decide) ?_
  refine L_iadd (pc := 313) DL_313 ?_
  refine L_sld (pc := 314) (i := i + 1) DL_314 (nI_addN i 1) (by omega) (by omega) ?_
  refine L_m (pc := 315) (ac := [.int (xs (i + 1))]) DL_315 m10_fault_v t1555 (c10_fault (d := 0) h.e29 h.e30) (by omega) rfl rfl (fun _ => rfl) rfl rfl rfl hk hn (fun r w' hq => ?_)
  obtain ⟨rfl, s', A', L', M', rfl, px⟩ := hq
  exact L_icmp_eq (pc := 318) (tgt := 1413) DL_318 (by decide) (fun _ => ok _ _ _ _ _ _ _ _ _ _ _ _ _ _ _ _ _ _ _ _ _ (h.px px)) (fun hne => absurd rfl hne)
theorem cs_35 {L : Nat} {xs : Nat → Int32} {i k n : Nat} (hL : L ≤ 3072) (hi6 : i + 6 ≤ L) (hk : k ≤ 601024) (hn : n ≤ 7293034) (ok : LOK L xs i k n) {t np nb nn : Nat} {hi : Int32} {T : TV} {V : CV} {S : SB} {U : UV} {N : NV} {E : EV} {R : Nat → Int32} {I : CV} {K : TK} {G : GV} {X : TV} {s : Nat → Int32} {A : Nat → Nat → Int32} {LL1 : LL} {M : Nat → MR} {f : Nat → Int64} (h : REL t np nb nn hi T V U N I K G s A M) : JL L xs 1388 (lsL i) [] (ZW t hi T V S U N E R I K G X s A LL1 M f) k n := by
  refine L_aload_n (pc := 1388) DL_1388 rfl ?_
  refine L_aloadS (pc := 1389) DL_1389 rfl ?_
  refine L_iload (pc := 1390) DL_1390 rfl ?_
  refine L_iconst (pc := 1392) (v := nI 1) DL_1392 (by decide) ?_
  refine L_iadd (pc := 1393) DL_1393 ?_
  refine L_sld (pc := 1394) (i := i + 1) DL_1394 (nI_addN i 1) (by omega) (by omega) ?_
  refine L_cR (pc := 1395) (wc := tcD (nI t) hi T V S U N) (ws := ((ZW t hi T V S U N E R I K G X s A LL1 M f)).drop 53) (ac := [.int (xs (i + 1))]) (rest := []) DL_1395 m9_count_v t1116 (c9_count (d := 0)) (by omega) rfl rfl rfl rfl rfl rfl hk hn ?_
  refine L_aload_n (pc := 1398) DL_1398 rfl ?_
  refine L_aloadS (pc := 1399) DL_1399 rfl ?_
  refine L_iload (pc := 1400) DL_1400 rfl ?_
  refine L_iconst (pc := 1402) (v := nI 1) DL_1402 (by decide) ?_
  refine L_iadd (pc := 1403) DL_1403 ?_
  refine L_sld (pc := 1404) (i := i + 1) DL_1404 (nI_addN i 1) (by omega) (by omega) ?_
  refine L_m (pc := 1405) (ac := [.int (xs (i + 1))]) DL_1405 m10_count_v t1888 (c10_count (d := 0) h.rt h.wt h.cr h.nr h.ur.1) (by omega) rfl rfl (fun _ => rfl) rfl rfl rfl hk hn (fun r w' hq => ?_)
  obtain ⟨rfl, s', A', L', M', rfl, px⟩ := hq
  exact L_icmp_eq (pc := 1408) (tgt := 1413) DL_1408 (by decide) (fun _ => ok _ _ _ _ _ _ _ _ _ _ _ _ _ _ _ _ _ _ _ _ _ (h.px px)) (fun hne => absurd rfl hne)
