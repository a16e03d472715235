/-! the law's case of bottle (own) -/
/-- the long array's place first, then the others as they are -/
def r3 (M0 : Nat) : Nat → Nat
  | 0 => M0
  | k + 1 => k
theorem rcF_r3 {M0 : Nat} (c : EC) : rcF (r3 M0) (rcF (fun k => 1 + k) c) = c := by
  cases c with
  | inl a => rfl
  | inr o =>
    have h1 : (o.2.map (rvF (fun k => 1 + k))).map (rvF (r3 M0)) = o.2 := by
      rw [List.map_map]
      have h2 : o.2.map (rvF (r3 M0) ∘ rvF (fun k => 1 + k)) = o.2.map (fun v => v) := List.map_congr_left (fun v _ => by
        cases v with
        | ref k =>
          refine congrArg Value.ref ?_
          show r3 M0 (1 + k) = k
          rw [Nat.add_comm]
          rfl
        | _ => rfl)
      rw [h2, List.map_id']
    show (Sum.inr (o.1, (o.2.map (rvF (fun k => 1 + k))).map (rvF (r3 M0))) : EC) = _
    rw [h1]
theorem fst_at {P X : List EC} {f : Nat → Int64} {M0 : Nat} (hX : P.length + X.length = M0) {k : Nat} {c : EC} (h : (lbW P f)[k]? = some c) : (P ++ (X ++ [lA 1 f]))[r3 M0 k]? = some (rcF (r3 M0) c) := by
  cases k with
  | zero =>
    cases h
    show (P ++ (X ++ [lA 1 f]))[M0]? = _
    rw [List.getElem?_append_right (by omega), List.getElem?_append_right (by omega), show M0 - P.length - X.length = 0 by omega]
    rfl
  | succ k =>
    have h1 : (P.map (rcF (fun k => 1 + k)) ++ [])[k]? = some c := h
    rw [List.append_nil, List.getElem?_map] at h1
    cases hp : P[k]? with
    | none => rw [hp] at h1; cases h1
    | some c' =>
      rw [hp] at h1
      rw [← Option.some.inj h1, rcF_r3]
      show (P ++ (X ++ [lA 1 f]))[k]? = _
      rw [List.getElem?_append_left (List.getElem?_eq_some_iff.mp hp).1]
      exact hp
theorem lbW_len {P : List EC} {f : Nat → Int64} : (lbW P f).length = P.length + 1 := by simp
theorem SubF.fst {P X : List EC} {f : Nat → Int64} {M0 : Nat} (hX : P.length + X.length = M0) : SubF (P ++ (X ++ [lA 1 f])) (r3 M0) (lbW P f) := by
  refine ⟨fun k c h => fst_at hX h, fun i j hi hj e => ?_⟩
  rw [lbW_len] at hi hj
  cases i with
  | zero =>
    cases j with
    | zero => rfl
    | succ j =>
      have e' : M0 = j := e
      omega
  | succ i =>
    cases j with
    | zero =>
      have e' : i = M0 := e
      omega
    | succ j =>
      have e' : i = j := e
      omega
theorem PutF.fst {P X : List EC} {f f' : Nat → Int64} {M0 : Nat} (hX : P.length + X.length = M0) : PutF (P ++ (X ++ [lA 1 f])) (r3 M0) (lbW P f') (P ++ (X ++ [lA 1 f'])) := by
  refine ⟨by simp, fun k c h => fst_at hX h, fun i hi => ?_⟩
  rw [lbW_len] at hi
  have h2 : P.length ≤ i := Nat.not_lt.mp (fun q => hi (i + 1) (by omega) rfl)
  have h3 : i ≠ M0 := fun q => hi 0 (by omega) q.symm
  rw [List.getElem?_append_right (l₁ := P) (by omega), List.getElem?_append_right (l₁ := P) (by omega)]
  by_cases h4 : i - P.length < X.length
  · rw [List.getElem?_append_left h4, List.getElem?_append_left h4]
  · rw [List.getElem?_eq_none (by simp; omega), List.getElem?_eq_none (by simp; omega)]
theorem c10_thrown {d : Nat} {s : Nat → Int32} {A : Nat → Nat → Int32} {L : LL} {M : Nat → MR} : TR d m10_thrown [.ref 0] (modW s A L M) (.int (s 0)) := by
  refine Tr.intro (by decide) rfl ?_
  refine J_aload_n (pc := 0) D10_thrown_0 rfl ?_
  refine J_getf (pc := 1) D10_thrown_1 fl10_139 rfl rfl ?_
  refine J_iret (pc := 4) D10_thrown_4 rfl ?_
  exact ⟨rfl, rfl⟩
theorem cs_4 {L : Nat} {xs : Nat → Int32} : CS4 L xs := by
  intro i k n hL hi6 hk hn ok t np nb nn hi T V S U N E R I K G X s A LL1 M f h
  refine L_aload_n (pc := 360) DL_360 rfl ?_
  refine L_aloadS (pc := 361) DL_361 rfl ?_
  refine L_iload (pc := 362) DL_362 rfl ?_
  refine L_iconst (pc := 364) (v := nI 1) DL_364 (by decide) ?_
  refine L_iadd (pc := 365) DL_365 ?_
  refine L_sld (pc := 366) (i := i + 1) DL_366 (nI_addN i 1) (by omega) (by omega) ?_
  refine L_aloadS (pc := 367) DL_367 rfl ?_
  refine L_iload (pc := 368) DL_368 rfl ?_
  refine L_iconst (pc := 370) (v := nI 2) DL_370 (by decide) ?_
  refine L_iadd (pc := 371) DL_371 ?_
  refine L_sld (pc := 372) (i := i + 2) DL_372 (nI_addN i 2) (by omega) (by omega) ?_
  refine L_aload_n (pc := 373) DL_373 rfl ?_
  refine L_w (w2 := tcA (nI t) hi T V ++ (((tcZ (nI t) hi T V S U N E R I K G X).drop 29 ++ (modW s A LL1 M).map (rcF (fun k => 90 + k))) ++ [lA 1 f])) rfl ?_
  refine L_gSW (pc := 374) (ac := [.ref 1, .int (xs (i + 1)), .int (xs (i + 2)), .ref 0]) (rest := []) DL_374 (cL_bottle (d := 0) h.wt) (by omega) (SubF.fst (M0 := 130) rfl) rfl rfl rfl hk hn (fun r w' hq hl => ?_)
  obtain ⟨rfl, f', rfl, hf'⟩ := hq
  refine ⟨_, PutF.fst rfl, ?_⟩
  refine L_w (w2 := ZW t hi T V S U N E R I K G X s A LL1 M f') rfl ?_
  refine L_istore (pc := 377) DL_377 rfl ?_
  refine L_aload_n (pc := 379) DL_379 rfl ?_
  refine L_aloadS (pc := 380) DL_380 rfl ?_
  refine L_iload (pc := 381) DL_381 rfl ?_
  refine L_iconst (pc := 383) (v := nI 1) DL_383 (by decide) ?_
  refine L_iadd (pc := 384) DL_384 ?_
  refine L_sld (pc := 385) (i := i + 1) DL_385 (nI_addN i 1) (by omega) (by omega) ?_
  refine L_aloadS (pc := 386) DL_386 rfl ?_
  refine L_iload (pc := 387) DL_387 rfl ?_
  refine L_iconst (pc := 389) (v := nI 2) DL_389 (by decide) ?_
  refine L_iadd (pc := 390) DL_390 ?_
  refine L_sld (pc := 391) (i := i + 2) DL_391 (nI_addN i 2) (by omega) (by omega) ?_
  refine L_m (pc := 392) (ac := [.int (xs (i + 1)), .int (xs (i + 2))]) DL_392 m10_bottle_v t1563 (c10_bottle (d := 0) h.rt h.wt h.cr) (by omega) rfl rfl (fun _ => rfl) rfl rfl rfl hk hn (fun r w' hq => ?_)
  obtain ⟨rfl, rfl⟩ := hq
  refine L_istore (pc := 395) DL_395 rfl ?_
  refine L_aload_n (pc := 397) DL_397 rfl ?_
  refine L_m (pc := 398) (ac := []) DL_398 m10_thrown_v t1419 (c10_thrown (d := 0)) (by omega) rfl rfl (fun _ => rfl) rfl rfl rfl hk hn (fun r w' hq => ?_)
  obtain ⟨rfl, rfl⟩ := hq
  have px := PX.s0 (s := s) (A := A) (M := M) (x := boK nb (xs (i + 1)) (xs (i + 2)))
  refine L_iload (pc := 401) DL_401 rfl ?_
  refine L_icmp_eq (pc := 403) (tgt := 408) DL_403 (by decide) (fun _ => ?_) (fun hne => absurd rfl hne)
  refine L_iload (pc := 408) DL_408 rfl ?_
  refine L_if_ne (pc := 410) (tgt := 425) DL_410 (by decide) (fun h0 => ?_) (fun h0 => ?_)
  · refine L_goto (pc := 425) (tgt := 1413) DL_425 (by decide) ?_
    refine L_lk (lsL i) rfl ?_
    exact ok _ _ _ _ _ _ _ _ _ _ _ _ _ _ _ _ _ _ _ _ _ (h.px px)
  · refine L_aload_n (pc := 413) DL_413 rfl ?_
    refine L_iconst (pc := 414) (v := nI 0) DL_414 (by decide) ?_
    refine L_lald (pc := 415) (b0 := 0) DL_415 rfl rfl (by omega) rfl ?_
    refine L_iload (pc := 416) DL_416 rfl ?_
    refine L_i2l (pc := 418) DL_418 ?_
    refine L_lcmp (pc := 419) DL_419 ?_
    refine L_if_eq (pc := 420) (tgt := 425) DL_420 (by decide) (fun _ => ?_) (fun hne => absurd (by rw [hf' h0, if_pos h0]; exact lg_cmp_rf _) hne)
    refine L_goto (pc := 425) (tgt := 1413) DL_425 (by decide) ?_
    refine L_lk (lsL i) rfl ?_
    exact ok _ _ _ _ _ _ _ _ _ _ _ _ _ _ _ _ _ _ _ _ _ (h.px px)
