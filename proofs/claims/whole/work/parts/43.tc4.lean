/-! TEMPERCELLAR: years tried (own; walks by program wk.py) -/
section RA
variable {M : JM} {d mc ms n0 pc k n : Nat} {ls : List (Nat × Value)} {st : List Value} {w : List EC} {Q : Option Value → List EC → Prop} {Mc : JM} {idx ci na dc : Nat} {fs ac rest : List Value} {wc ws : List EC} {Qc : Option Value → List EC → Prop} {v : Value}
theorem SubF.pre (wc ws : List EC) : SubF (wc ++ ws) (fun k => k) wc := ⟨fun k c h => by
  rw [rcF_id, List.getElem?_append_left (List.getElem?_eq_some_iff.mp h).1]; exact h, fun _ _ _ _ h => h⟩
theorem PutF.pre {wc ws w' : List EC} (hl : w'.length = wc.length) : PutF (wc ++ ws) (fun k => k) w' (w' ++ ws) := ⟨by rw [List.length_append, List.length_append, hl], fun k c h => by
  rw [rcF_id, List.getElem?_append_left (List.getElem?_eq_some_iff.mp h).1]; exact h, fun i hi => by
  have : w'.length ≤ i := Nat.not_lt.mp (fun q => hi i q rfl)
  rw [List.getElem?_append_right this, List.getElem?_append_right (by omega), hl]⟩
theorem J_callVA (hd : decode M.2.1 pc = .ok (.invokevirtual idx, 3)) (hm : MV Mc na) (hk : Cond.methodLink M.1.cls idx Mc.1 ∈ T0) (hT : Tr dc 0 0 Mc (.ref 0 :: ac) wc Qc) (hdc : dc + 1 ≤ d) (hc : (cls0[ci]?).map (fun q => q.1) = some Mc.1.cls) (hw0 : wc[0]? = some (.inr (ci, fs))) (hw : w = wc ++ ws) (hna : ac.length = na) (hst : st = ac.reverse ++ .ref 0 :: rest) (hro : Nat.ble (rest.map (fun v => v.category)).sum 8 = true) (hkm : Nat.ble k mc = true) (hnm : Nat.ble n ms = true) (kk : ∀ r w', Qc r w' → w'.length = wc.length → J M d mc ms n0 (pc + 3) ls (r.toList ++ rest) (w' ++ ws) k n Q) : J M d mc ms n0 pc ls st w k n Q := by
  subst hw
  refine J_gV hd hm hk hT hdc hc hw0 (SubF.pre wc ws) hna (by rw [rvs_id]; exact hst) hro hkm hnm (fun r w' hq hl => ⟨w' ++ ws, PutF.pre hl, ?_⟩)
  rw [show r.map (rvF fun k => k) = r by cases r with | none => rfl | some x => exact congrArg some (rvF_id x)]
  exact kk r w' hq hl
theorem J_callVAR (hd : decode M.2.1 pc = .ok (.invokevirtual idx, 3)) (hm : MV Mc na) (hk : Cond.methodLink M.1.cls idx Mc.1 ∈ T0) (hT : TR dc Mc (.ref 0 :: ac) wc v) (hdc : dc + 1 ≤ d) (hc : (cls0[ci]?).map (fun q => q.1) = some Mc.1.cls) (hw0 : wc[0]? = some (.inr (ci, fs))) (hw : w = wc ++ ws) (hna : ac.length = na) (hst : st = ac.reverse ++ .ref 0 :: rest) (hv : ∀ ρ, rvF ρ v = v) (hro : Nat.ble (rest.map (fun v => v.category)).sum 8 = true) (hkm : Nat.ble k mc = true) (hnm : Nat.ble n ms = true) (kk : J M d mc ms n0 (pc + 3) ls (v :: rest) w k n Q) : J M d mc ms n0 pc ls st w k n Q := by
  subst hw
  refine J_gV hd hm hk hT hdc hc hw0 (SubF.pre wc ws) hna (by rw [rvs_id]; exact hst) hro hkm hnm (fun r w' hq hl => ?_)
  obtain ⟨rfl, rfl⟩ := hq
  refine ⟨w' ++ ws, PutF.same (SubF.pre _ _), ?_⟩
  show J M d mc ms n0 (pc + 3) ls (rvF (fun k => k) v :: rest) (w' ++ ws) k n Q
  rw [hv]
  exact kk
end RA
/-- what is tried: the cellar, the years' three, queue, stack, told, cellar -/
abbrev SB : Type := CV × (Int32 × Int32 × Int32) × (Nat → Int32) × (Nat → Int64) × Nat × Nat
def tcX (tl hi : Int32) (T : TV) (V : CV) (S : SB) (tail : List EC) : List EC := thC tl hi :: (toldC 1 T ++ (celC 19 V ++ (celC 29 S.1 ++ (.inr (8, [.ref S.2.2.2.2.1, .ref S.2.2.2.2.2, .int S.2.1.1, .int S.2.1.2.1, .int S.2.1.2.2, .ref 40, .ref 41]) :: iA 10 S.2.2.1 :: lA 64 S.2.2.2.1 :: tail))))
abbrev tcB (tl hi : Int32) (T : TV) (V : CV) (S : SB) : List EC := tcX tl hi T V S []
def offN (V : CV) : Int32 := bcnt (bitsF (V.2.2.2 3) (nI 2) 10)
def y1 : Int32 × Int32 × Int32 := (nI 1, nI 1, nI 1)
def y0 : Int32 × Int32 × Int32 := (nI 0, nI 1, nI 1)
theorem c9_startTrial {d : Nat} {tl hi x : Int32} {T : TV} {V : CV} {S : SB} : Tr (d + 2) 0 0 m9_startTrial [.ref 0, .int x] (tcB tl hi T V S) (fun r w' => r = none ∧ w' = tcB tl hi T V (V, (x, nI 1, nI 1), S.2.2.1, S.2.2.2.1, 1, 29)) := by
  refine Tr.intro (by decide) rfl ?_
  refine J_aload_n (pc := 0) D9_startTrial_0 rfl ?_
  refine J_getf (pc := 1) D9_startTrial_1 fl9_53 rfl rfl ?_
  refine J_aload_n (pc := 4) D9_startTrial_4 rfl ?_
  refine J_getf (pc := 5) D9_startTrial_5 fl9_46 rfl rfl ?_
  refine J_callVP (pc := 8) (ι := [29, 30, 31, 32, 33, 34, 35, 36, 37, 38, 19, 20, 21, 22, 23, 24, 25, 26, 27, 28]) (ac := [.ref 10]) D9_startTrial_8 m0_copyFrom_v t887 (c0_copyFrom (d := d) (V := S.1) (U := V)) (by omega) rfl rfl ⟨rfl, rfl⟩ rfl rfl rfl rfl rfl (fun r w' hq hl => ?_)
  obtain ⟨rfl, rfl⟩ := hq
  refine ⟨tcB tl hi T V (V, S.2), ⟨rfl, ⟨rfl, rfl⟩, rfl⟩, ?_⟩
  refine J_aload_n (pc := 11) D9_startTrial_11 rfl ?_
  refine J_getf (pc := 12) D9_startTrial_12 fl9_61 rfl rfl ?_
  refine J_aload_n (pc := 15) D9_startTrial_15 rfl ?_
  refine J_getf (pc := 16) D9_startTrial_16 fl9_18 rfl rfl ?_
  refine J_aload_n (pc := 19) D9_startTrial_19 rfl ?_
  refine J_getf (pc := 20) D9_startTrial_20 fl9_53 rfl rfl ?_
  refine J_iload_n (pc := 23) D9_startTrial_23 rfl ?_
  refine J_callVP (pc := 24) (ι := [39, 1, 29, 40, 41, S.2.2.2.2.1, S.2.2.2.2.2]) (ac := [.ref 1, .ref 2, .int x]) D9_startTrial_24 m8_start_v t759 (c8_start (d := d + 1) (t := .ref 5) (c := .ref 6) (q := .ref 3) (k := .ref 4) (a := .int S.2.1.1) (b := .int S.2.1.2.1) (e := .int S.2.1.2.2) (f := .null) (x := x) (i := 1) (j := 2)) (by omega) rfl rfl ⟨rfl, rfl⟩ rfl rfl rfl rfl rfl (fun r w' hq hl => ?_)
  obtain ⟨rfl, rfl⟩ := hq
  refine ⟨tcB tl hi T V (V, (x, nI 1, nI 1), S.2.2.1, S.2.2.2.1, 1, 29), ⟨rfl, ⟨rfl, rfl⟩, rfl⟩, ?_⟩
  refine J_vret (pc := 27) D9_startTrial_27 rfl ?_
  exact ⟨rfl, rfl⟩
theorem c9_moreOff {d : Nat} {tl hi : Int32} {T : TV} {V : CV} {S : SB} : TR (d + 2) m9_moreOff [.ref 0] (tcB tl hi T V S) (.int (offN S.1 - offN V)) := by
  refine Tr.intro (by decide) rfl ?_
  refine J_aload_n (pc := 0) D9_moreOff_0 rfl ?_
  refine J_getf (pc := 1) D9_moreOff_1 fl9_53 rfl rfl ?_
  refine J_iconst (pc := 4) (v := (nI 2)) D9_moreOff_4 (by decide) ?_
  refine J_callVR (pc := 5) (ι := [29, 30, 31, 32, 33, 34, 35, 36, 37, 38]) (ac := [.int _]) D9_moreOff_5 m0_howMany_v t896 (c0_howMany (d := d) (V := S.1)) (by omega) rfl rfl ⟨rfl, rfl⟩ rfl rfl (fun _ => rfl) rfl rfl rfl ?_
  refine J_aload_n (pc := 8) D9_moreOff_8 rfl ?_
  refine J_getf (pc := 9) D9_moreOff_9 fl9_46 rfl rfl ?_
  refine J_iconst (pc := 12) (v := (nI 2)) D9_moreOff_12 (by decide) ?_
  refine J_callVR (pc := 13) (ι := [19, 20, 21, 22, 23, 24, 25, 26, 27, 28]) (ac := [.int _]) D9_moreOff_13 m0_howMany_v t896 (c0_howMany (d := d) (V := V)) (by omega) rfl rfl ⟨rfl, rfl⟩ rfl rfl (fun _ => rfl) rfl rfl rfl ?_
  refine J_isub (pc := 16) D9_moreOff_16 ?_
  refine J_iret (pc := 17) D9_moreOff_17 rfl ?_
  exact ⟨rfl, rfl⟩
def lwF (T : TV) (V : CV) (nb : Nat) (x b : Int32) : Int64 := if ixB 3 x = true ∧ lyiB V nb b = true then worthF T V x.toNatClampNeg b.toNatClampNeg else LMIN
theorem ixB_0 {n : Nat} {x : Int32} (h : x < 0) : ¬ ixB n x = true := fun q => by
  unfold ixB at q
  exact absurd (of_decide_eq_true (Bool.and_eq_true_iff.mp q).1) (Int32.not_le.mpr h)
theorem ixB_hi {n : Nat} {x : Int32} (h : nI n ≤ x) : ¬ ixB n x = true := fun q => by
  unfold ixB at q
  exact absurd (of_decide_eq_true (Bool.and_eq_true_iff.mp q).2) (Int32.not_lt.mpr h)
theorem ixB_gt {n : Nat} {x : Int32} (hn : n < 2 ^ 31) (h : nI n < x) : ¬ ixB (n + 1) x = true := fun q => by
  by_cases hh : n + 1 < 2 ^ 31
  · obtain ⟨b, hb, rfl⟩ := ixB_t q hh
    have := (nI_ltI hn (by omega)).mp h
    omega
  · have e : n + 1 = 2 ^ 31 := by omega
    unfold ixB at q
    rw [e] at q
    have h1 := of_decide_eq_true (Bool.and_eq_true_iff.mp q).1
    have h2 := of_decide_eq_true (Bool.and_eq_true_iff.mp q).2
    have h3 := Int32.lt_of_le_of_lt h1 h2
    exact absurd h3 (by decide)
theorem ixB_in {n : Nat} {x : Int32} (hn : n < 500) (h0 : ¬ x < 0) (h1 : x ≤ nI n) : ixB (n + 1) x = true := by
  obtain ⟨b, hb, rfl⟩ := nI_of h0
  have := (nI_leI hb (by omega)).mp h1
  exact ixB_n (by omega) (by omega)
theorem c9_law {d np nb nn : Nat} {tl hi : Int32} {T : TV} {V : CV} {S : SB} (hT : WT T np nb nn) (hV : WV V nb) {x b : Int32} : Tr (d + 3) 0 0 m9_law [.ref 0, .int x, .int b] (tcB tl hi T V S) (fun r w' => r = some (.long (lwF T V nb x b)) ∧ ∃ S', w' = tcB tl hi T V S') := by
  have hnb := hT.2.2.2.2.1
  refine Tr.intro (by decide) rfl ?_
  refine J_iload_n (pc := 0) D9_law_0 rfl ?_
  refine J_if_lt (pc := 1) (tgt := 17) D9_law_1 (by decide) (fun h1 => ?_) (fun h1 => ?_)
  · have h1' := Int32.not_le.mpr h1
    refine J_ldc2_w (pc := 17) (v := LMIN) D9_law_17 t758 ?_
    refine J_lret (pc := 20) D9_law_20 rfl ?_
    exact ⟨by rw [lwF, if_neg (fun q => ixB_0 h1 q.1)], S, rfl⟩
  · have h1' := Int32.not_lt.mp h1
    refine J_iload_n (pc := 4) D9_law_4 rfl ?_
    refine J_iconst (pc := 5) (v := (nI 2)) D9_law_5 (by decide) ?_
    refine J_icmp_gt (pc := 6) (tgt := 17) D9_law_6 (by decide) (fun h6 => ?_) (fun h6 => ?_)
    · have h6' := Int32.not_le.mpr h6
      refine J_ldc2_w (pc := 17) (v := LMIN) D9_law_17 t758 ?_
      refine J_lret (pc := 20) D9_law_20 rfl ?_
      exact ⟨by rw [lwF, if_neg (fun q => ixB_gt (n := 2) (by decide) h6 q.1)], S, rfl⟩
    · have h6' := Int32.not_lt.mp h6
      refine J_aload_n (pc := 9) D9_law_9 rfl ?_
      refine J_iload_n (pc := 10) D9_law_10 rfl ?_
      refine J_callVAR (pc := 11) (ac := [.int _]) D9_law_11 m9_isLyingBottle_v t750 (c9_isLyingBottle (d := d) (V := V) hT) (by omega) rfl rfl rfl rfl rfl (fun _ => rfl) rfl rfl rfl ?_
      refine J_if_ne (pc := 14) (tgt := 21) D9_law_14 (by decide) (fun h14 => ?_) (fun h14 => ?_)
      · replace h14 := i01_nz h14
        obtain ⟨b9, hb9, rfl, hl9⟩ := lyiB_t h14 hnb
        have hx9 := ixB_in (n := 2) (by decide) h1 h6'
        obtain ⟨lw, hw9, rfl⟩ := ixB_t hx9 (by decide)
        refine J_aload_n (pc := 21) D9_law_21 rfl ?_
        refine J_getf (pc := 22) D9_law_22 fl9_61 rfl rfl ?_
        refine J_aload_n (pc := 25) D9_law_25 rfl ?_
        refine J_getf (pc := 26) D9_law_26 fl9_18 rfl rfl ?_
        refine J_aload_n (pc := 29) D9_law_29 rfl ?_
        refine J_getf (pc := 30) D9_law_30 fl9_46 rfl rfl ?_
        refine J_iconst (pc := 33) (v := (nI 1)) D9_law_33 (by decide) ?_
        refine J_callVP (pc := 34) (ι := [39, 1, 19, 40, 41, S.2.2.2.2.1, S.2.2.2.2.2]) (ac := [.ref 1, .ref 2, .int (nI 1)]) D9_law_34 m8_start_v t759 (c8_start (d := d + 1) (t := .ref 5) (c := .ref 6) (q := .ref 3) (k := .ref 4) (a := .int S.2.1.1) (b := .int S.2.1.2.1) (e := .int S.2.1.2.2) (f := .null) (x := nI 1) (i := 1) (j := 2)) (by omega) rfl rfl ⟨rfl, rfl⟩ rfl rfl rfl rfl rfl (fun r w' hq hl => ?_)
        obtain ⟨rfl, rfl⟩ := hq
        refine ⟨tcB tl hi T V (S.1, (nI 1, nI 1, nI 1), S.2.2.1, S.2.2.2.1, 1, 19), ⟨rfl, ⟨rfl, rfl⟩, rfl⟩, ?_⟩
        refine J_aload_n (pc := 37) D9_law_37 rfl ?_
        refine J_getf (pc := 38) D9_law_38 fl9_61 rfl rfl ?_
        refine J_iload_n (pc := 41) D9_law_41 rfl ?_
        refine J_iload_n (pc := 42) D9_law_42 rfl ?_
        refine J_callVP (pc := 43) (ι := [39, 40, 41, 1, 2, 3, 4, 5, 6, 7, 8, 9, 10, 11, 12, 13, 14, 15, 16, 17, 18, 19, 20, 21, 22, 23, 24, 25, 26, 27, 28]) (ac := [.int (nI lw), .int (nI b9)]) D9_law_43 m8_worth_v t763 (c8_worth (d := d) (y := (nI 1, nI 1, nI 1)) (q := S.2.2.1) (k := S.2.2.2.1) (T := T) (V := V) hT hV hb9 hw9) (by omega) rfl rfl ⟨rfl, rfl⟩ rfl rfl rfl rfl rfl (fun r w' hq hl => ?_)
        obtain ⟨rfl, k1, rfl⟩ := hq
        refine ⟨tcB tl hi T V (S.1, (nI 1, nI 1, nI 1), S.2.2.1, k1, 1, 19), ⟨rfl, ⟨rfl, rfl⟩, rfl⟩, ?_⟩
        refine J_lret (pc := 46) D9_law_46 rfl ?_
        exact ⟨by rw [lwF, if_pos ⟨hx9, h14⟩, nI_clamp (by omega), nI_clamp (by omega)], _, rfl⟩
      · have h14' := eq_true h14
        replace h14 := i01_z h14
        refine J_ldc2_w (pc := 17) (v := LMIN) D9_law_17 t758 ?_
        refine J_lret (pc := 20) D9_law_20 rfl ?_
        exact ⟨by rw [lwF, if_neg (fun q => h14 q.2)], S, rfl⟩
