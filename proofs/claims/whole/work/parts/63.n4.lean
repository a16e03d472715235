/-! THE MODEL: answers 3 (own program mod_n4.py) -/
/-- whom the strongest one of x's is at -/
def nxF (T : TV) (V : CV) (nb : Nat) (x : Nat) : Option Nat := (stO T V (nI x) nb).map (fun b => (T.2.1 6 b).toNatClampNeg)
theorem nxF_lt {T : TV} {V : CV} {np nb nn x y : Nat} (hT : WT T np nb nn) (h : nxF T V nb x = some y) : y < np := by
  unfold nxF at h
  cases e : stO T V (nI x) nb with
  | none => rw [e] at h; cases h
  | some b =>
    rw [e] at h
    obtain ⟨q, hq, eq⟩ := hT.2.2.2.2.2.2.2.1 b (stO_lt nb b e)
    have hnp := hT.2.2.2.1
    have : (T.2.1 6 b).toNatClampNeg = y := Option.some.inj h
    rw [eq, nI_clamp (by omega)] at this
    omega
theorem cbN_e {T : TV} {V : CV} {np nb nn : Nat} (hT : WT T np nb nn) (x : Nat) : cbN T V nb (nI x) = wkI (nxF T V nb x) := by
  unfold cbN nxF
  cases e : stO T V (nI x) nb with
  | none => rfl
  | some b =>
    obtain ⟨q, hq, eq⟩ := hT.2.2.2.2.2.2.2.1 b (stO_lt nb b e)
    have hnp := hT.2.2.2.1
    show T.2.1 6 b = nI (T.2.1 6 b).toNatClampNeg
    rw [eq, nI_clamp (by omega)]
theorem cbF_m1 {T : TV} {V : CV} {nb : Nat} {p : Int32} : ∀ g, cbF T V nb p g (-1) = false
  | 0 => rfl
  | g + 1 => by rw [cbF, decide_eq_true rfl]; rfl
theorem cbF_e {T : TV} {V : CV} {np nb nn a : Nat} (hT : WT T np nb nn) (ha : a < np) : ∀ (g x : Nat), x < np → cbF T V nb (nI a) g (nI x) = rgB (nxF T V nb) a g (some x)
  | 0, _, _ => rfl
  | g + 1, x, hx => by
    have hnp := hT.2.2.2.1
    rw [cbF, decide_eq_false (nI_nm (by omega)), cbN_e hT]
    show (bif decide (wkI (nxF T V nb x) = nI a) then true else cbF T V nb (nI a) g (wkI (nxF T V nb x))) = (match nxF T V nb x with | none => false | some y => bif Nat.beq y a then true else rgB (nxF T V nb) a g (some y))
    cases e : nxF T V nb x with
    | none =>
      rw [show wkI none = -1 from rfl, decide_eq_false (fun q => nI_nm (b := a) (by omega) q.symm)]
      exact cbF_m1 g
    | some y =>
      have hy := nxF_lt hT e
      show (bif decide (nI y = nI a) then true else cbF T V nb (nI a) g (nI y)) = _
      by_cases q : y = a
      · rw [q, decide_eq_true rfl]
        show true = (bif Nat.beq a a then true else _)
        rw [show Nat.beq a a = true from Nat.beq_refl a]; rfl
      · rw [decide_eq_false (fun z => q (nI_eqI (by omega) (by omega) z))]
        show cbF T V nb (nI a) g (nI y) = (bif Nat.beq y a then true else _)
        rw [show Nat.beq y a = false from nbf.mpr q]
        exact cbF_e hT ha g y hy
theorem cb_n {T : TV} {V : CV} {np nb nn a : Nat} (hT : WT T np nb nn) (ha : a < np) : cbF T V nb (nI a) np (nI a) = cbF T V nb (nI a) 5 (nI a) := by
  rw [cbF_e hT ha np a ha, cbF_e hT ha 5 a ha]
  exact ring_n ha (fun x y _ h => nxF_lt hT h) hT.2.2.2.1
theorem L10_comesBack {d : Nat} {s : Nat → Int32} {A : Nat → Nat → Int32} {L : LL} {M : Nat → MR} {T : TV} {np nb nn : Nat} (hR : RT A T np nb nn) (hT : WT T np nb nn) {V : CV} (hC : CR False np nb nn (M 0) V) {a : Nat} (ha : a < np) : ∀ (g x k : Nat), x < np → k + g = np → J m10_comesBack (d + 2) 0 0 40 4 [(0, .ref 0), (1, .int (nI a)), (2, .int (nI x)), (3, .int (nI k))] [] (modW s A L M) 0 0 (fun r w' => w' = modW s A L M ∧ r = some (.int (i01 (cbF T V nb (nI a) g (nI x) = true)))) := by
  have hnb := hT.2.2.2.2.1
  have hnp := hT.2.2.2.1
  have hnn := hT.2.2.2.2.2.1
  intro g
  induction g with
  | zero =>
    intro x k hx hk
    refine J_iload_n (pc := 4) D10_comesBack_4 rfl ?_
    refine J_aload_n (pc := 5) D10_comesBack_5 rfl ?_
    refine J_getf (pc := 6) D10_comesBack_6 fl10_13 rfl rfl ?_
    refine J_iconst (pc := 9) (v := (nI 0)) D10_comesBack_9 (by decide) ?_
    refine J_mald (pc := 10) D10_comesBack_10 ma_3 rfl (by omega) rfl ?_
    refine J_st [.int (nI np), .int (nI k)] (by rw [← hR.1]) ?_
    refine J_icmp_ge (pc := 11) (tgt := 50) D10_comesBack_11 (by decide) (fun h11 => ?_) (fun h11 => absurd (nI_le (by omega) (by omega)) h11)
    refine J_iconst (pc := 50) (v := (nI 0)) D10_comesBack_50 (by decide) ?_
    refine J_zret (pc := 51) D10_comesBack_51 rfl (by decide) ?_
    exact ⟨rfl, congrArg (fun q => some (Value.int q)) (i01_f (by rw [cbF]; simp)).symm⟩
  | succ g ih =>
    intro x k hx hk
    have e9 : cbF T V nb (nI a) (g + 1) (nI x) = (bif decide (cbN T V nb (nI x) = nI a) then true else cbF T V nb (nI a) g (cbN T V nb (nI x))) := by rw [cbF, decide_eq_false (nI_nm (by omega))]; rfl
    refine J_iload_n (pc := 4) D10_comesBack_4 rfl ?_
    refine J_aload_n (pc := 5) D10_comesBack_5 rfl ?_
    refine J_getf (pc := 6) D10_comesBack_6 fl10_13 rfl rfl ?_
    refine J_iconst (pc := 9) (v := (nI 0)) D10_comesBack_9 (by decide) ?_
    refine J_mald (pc := 10) D10_comesBack_10 ma_3 rfl (by omega) rfl ?_
    refine J_st [.int (nI np), .int (nI k)] (by rw [← hR.1]) ?_
    refine J_icmp_ge (pc := 11) (tgt := 50) D10_comesBack_11 (by decide) (fun h11 => absurd h11 (nI_ge (by omega) (by omega))) (fun h11 => ?_)
    refine J_aload_n (pc := 14) D10_comesBack_14 rfl ?_
    refine J_iload_n (pc := 15) D10_comesBack_15 rfl ?_
    refine J_callVTR (pc := 16) (ac := [.int _]) D10_comesBack_16 m10_strongest_v t1795 (c10_strongest (d := d) hR hT hC) (by omega) rfl rfl rfl rfl (fun _ => rfl) rfl rfl rfl ?_
    refine J_istore (pc := 19) D10_comesBack_19 rfl ?_
    refine J_iload (pc := 21) D10_comesBack_21 rfl ?_
    refine J_iconst (pc := 23) (v := (-1)) D10_comesBack_23 (by decide) ?_
    refine J_icmp_ne (pc := 24) (tgt := 29) D10_comesBack_24 (by decide) (fun h24 => ?_) (fun h24 => ?_)
    · obtain ⟨b1, hb1⟩ := wkI_some h24
      have hbl := stO_lt nb b1 hb1
      obtain ⟨y1, hy1, e69⟩ := hT.2.2.2.2.2.2.2.1 b1 hbl
      have e8 := (hR.2.2.2.2.2.2.2.1 b1 hbl).2.2.1
      have ec : cbN T V nb (nI x) = T.2.1 6 b1 := by unfold cbN; rw [hb1]
      rw [ec] at e9
      refine J_aload_n (pc := 29) D10_comesBack_29 rfl ?_
      refine J_getf (pc := 30) D10_comesBack_30 fl10_28 rfl rfl ?_
      refine J_iload (pc := 33) D10_comesBack_33 rfl ?_
      refine J_st (.int (nI b1) :: .ref 7 :: []) (by rw [hb1]; rfl) ?_
      refine J_mald (pc := 35) D10_comesBack_35 ma_8 rfl (by omega) rfl ?_
      rw [e8]
      refine J_istore_n (pc := 36) D10_comesBack_36 rfl ?_
      refine J_iload_n (pc := 37) D10_comesBack_37 rfl ?_
      refine J_iload_n (pc := 38) D10_comesBack_38 rfl ?_
      refine J_icmp_ne (pc := 39) (tgt := 44) D10_comesBack_39 (by decide) (fun h39 => ?_) (fun h39 => ?_)
      · refine J_iinc (pc := 44) D10_comesBack_44 rfl (nI_inc _) rfl ?_
        refine J_goto (pc := 47) (tgt := 4) D10_comesBack_47 (by decide) ?_
        rw [e9, decide_eq_false h39]
        refine J_lk [(0, .ref 0), (1, .int (nI a)), (2, .int (nI y1)), (3, .int (nI (k + 1)))] (by rw [← e69]; rfl) ?_
        rw [show T.2.1 6 b1 = nI y1 from e69]
        exact ih y1 (k + 1) hy1 (by omega)
      · have h39' := eq_true h39
        refine J_iconst (pc := 42) (v := (nI 1)) D10_comesBack_42 (by decide) ?_
        refine J_zret (pc := 43) D10_comesBack_43 rfl (by decide) ?_
        exact ⟨rfl, congrArg (fun q => some (Value.int q)) (i01_t (by rw [e9, decide_eq_true h39]; rfl)).symm⟩
    · have h24' := eq_true h24
      refine J_iconst (pc := 27) (v := (nI 0)) D10_comesBack_27 (by decide) ?_
      refine J_zret (pc := 28) D10_comesBack_28 rfl (by decide) ?_
      exact ⟨rfl, congrArg (fun q => some (Value.int q)) (i01_f (by have := wkI_nn (stO_lt nb) hnb h24; rw [e9, show cbN T V nb (nI x) = -1 by unfold cbN; rw [this], decide_eq_false (fun q => nI_nm (b := a) (by omega) q.symm)]; show ¬ cbF T V nb (nI a) g (-1) = true; rw [cbF_m1]; simp)).symm⟩
theorem c10_comesBack {d : Nat} {s : Nat → Int32} {A : Nat → Nat → Int32} {L : LL} {M : Nat → MR} {T : TV} {np nb nn : Nat} (hR : RT A T np nb nn) (hT : WT T np nb nn) {V : CV} (hC : CR False np nb nn (M 0) V) {a : Nat} (ha : a < np) : TR (d + 2) m10_comesBack [.ref 0, .int (nI a)] (modW s A L M) (.int (i01 (cbF T V nb (nI a) 5 (nI a) = true))) := by
  rw [← cb_n hT ha]
  refine Tr.intro (by decide) rfl ?_
  refine J_iload_n (pc := 0) D10_comesBack_0 rfl ?_
  refine J_istore_n (pc := 1) D10_comesBack_1 rfl ?_
  refine J_iconst (pc := 2) (v := (nI 0)) D10_comesBack_2 (by decide) ?_
  refine J_istore_n (pc := 3) D10_comesBack_3 rfl ?_
  exact L10_comesBack hR hT hC ha np a 0 ha (by omega)
theorem L10_ring {d : Nat} {s : Nat → Int32} {A : Nat → Nat → Int32} {L : LL} {M : Nat → MR} {T : TV} {np nb nn : Nat} (hR : RT A T np nb nn) (hT : WT T np nb nn) {V : CV} (hC : CR False np nb nn (M 0) V) : ∀ (g b : Nat), b + g = np → J m10_ring (d + 3) 0 0 40 9 [(0, .ref 0), (1, .int (riB T V nb b)), (2, .int (nI b))] [] (modW s A L M) 0 0 (fun r w' => w' = modW s A L M ∧ r = some (.int (riB T V nb np))) := by
  have hnb := hT.2.2.2.2.1
  have hnp := hT.2.2.2.1
  have hnn := hT.2.2.2.2.2.1
  intro g
  induction g with
  | zero =>
    intro b hb
    have e9 : b = np := by omega
    refine J_iload_n (pc := 9) D10_ring_9 rfl ?_
    refine J_aload_n (pc := 10) D10_ring_10 rfl ?_
    refine J_getf (pc := 11) D10_ring_11 fl10_13 rfl rfl ?_
    refine J_iconst (pc := 14) (v := (nI 0)) D10_ring_14 (by decide) ?_
    refine J_mald (pc := 15) D10_ring_15 ma_3 rfl (by omega) rfl ?_
    refine J_st [.int (nI np), .int (nI b)] (by rw [← hR.1]) ?_
    refine J_icmp_ge (pc := 16) (tgt := 43) D10_ring_16 (by decide) (fun h16 => ?_) (fun h16 => absurd (nI_le (by omega) (by omega)) h16)
    refine J_iload_n (pc := 43) D10_ring_43 rfl ?_
    refine J_iret (pc := 44) D10_ring_44 rfl ?_
    exact ⟨rfl, by rw [e9]⟩
  | succ g ih =>
    intro b hb
    refine J_iload_n (pc := 9) D10_ring_9 rfl ?_
    refine J_aload_n (pc := 10) D10_ring_10 rfl ?_
    refine J_getf (pc := 11) D10_ring_11 fl10_13 rfl rfl ?_
    refine J_iconst (pc := 14) (v := (nI 0)) D10_ring_14 (by decide) ?_
    refine J_mald (pc := 15) D10_ring_15 ma_3 rfl (by omega) rfl ?_
    refine J_st [.int (nI np), .int (nI b)] (by rw [← hR.1]) ?_
    refine J_icmp_ge (pc := 16) (tgt := 43) D10_ring_16 (by decide) (fun h16 => absurd h16 (nI_ge (by omega) (by omega))) (fun h16 => ?_)
    refine J_iload_n (pc := 19) D10_ring_19 rfl ?_
    refine J_aload_n (pc := 20) D10_ring_20 rfl ?_
    refine J_iload_n (pc := 21) D10_ring_21 rfl ?_
    refine J_callVTR (pc := 22) (ac := [.int _]) D10_ring_22 m10_comesBack_v t1791 (c10_comesBack (d := d) hR hT hC (a := b) (by omega)) (by omega) rfl rfl rfl rfl (fun _ => rfl) rfl rfl rfl ?_
    refine J_if_eq (pc := 25) (tgt := 34) D10_ring_25 (by decide) (fun h25 => ?_) (fun h25 => ?_)
    · have h25' := eq_true h25
      replace h25 := i01_z h25
      refine J_iconst (pc := 34) (v := (nI 0)) D10_ring_34 (by decide) ?_
      refine J_ior (pc := 35) D10_ring_35 ?_
      refine J_istore_n (pc := 36) D10_ring_36 rfl ?_
      refine J_iinc (pc := 37) D10_ring_37 rfl (nI_inc _) rfl ?_
      refine J_goto (pc := 40) (tgt := 9) D10_ring_40 (by decide) ?_
      refine J_lk [(0, .ref 0), (1, .int (riB T V nb (b + 1))), (2, .int (nI (b + 1)))] (by rw [riB, if_neg h25, or0]; rfl) ?_
      exact ih (b + 1) (by omega)
    · replace h25 := i01_nz h25
      refine J_iconst (pc := 28) (v := (nI 1)) D10_ring_28 (by decide) ?_
      refine J_iload_n (pc := 29) D10_ring_29 rfl ?_
      refine J_ishl (pc := 30) D10_ring_30 ?_
      refine J_goto (pc := 31) (tgt := 35) D10_ring_31 (by decide) ?_
      refine J_ior (pc := 35) D10_ring_35 ?_
      refine J_istore_n (pc := 36) D10_ring_36 rfl ?_
      refine J_iinc (pc := 37) D10_ring_37 rfl (nI_inc _) rfl ?_
      refine J_goto (pc := 40) (tgt := 9) D10_ring_40 (by decide) ?_
      refine J_lk [(0, .ref 0), (1, .int (riB T V nb (b + 1))), (2, .int (nI (b + 1)))] (by rw [riB, if_pos h25]; rfl) ?_
      exact ih (b + 1) (by omega)
theorem c10_ring {d : Nat} {s : Nat → Int32} {A : Nat → Nat → Int32} {L : LL} {M : Nat → MR} {T : TV} {np nb nn : Nat} (hR : RT A T np nb nn) (hT : WT T np nb nn) {V : CV} (hC : CR False np nb nn (M 0) V) : Tr (d + 3) 0 0 m10_ring [.ref 0] (modW s A L M) (mR s A M (.int (riB T V nb np))) := by
  refine Tr.intro (by decide) rfl ?_
  refine J_aload_n (pc := 0) D10_ring_0 rfl ?_
  refine J_iconst (pc := 1) (v := (nI 0)) D10_ring_1 (by decide) ?_
  refine J_mput (pc := 2) D10_ring_2 fp10_139 ms_0 ?_
  refine J_iconst (pc := 5) (v := (nI 0)) D10_ring_5 (by decide) ?_
  refine J_istore_n (pc := 6) D10_ring_6 rfl ?_
  refine J_iconst (pc := 7) (v := (nI 0)) D10_ring_7 (by decide) ?_
  refine J_istore_n (pc := 8) D10_ring_8 rfl ?_
  refine J_mono (L10_ring (s := updI s 0 (nI 0)) hR hT hC np 0 (by omega)) ?_
  rintro r w' ⟨rfl, rfl⟩
  exact ⟨congrArg (fun q => some (Value.int q)) rfl, _, _, _, _, rfl, PX.s0⟩
theorem c10_angerOf {d : Nat} {s : Nat → Int32} {A : Nat → Nat → Int32} {L : LL} {M : Nat → MR} {T : TV} {np nb nn : Nat} (hR : RT A T np nb nn) (hT : WT T np nb nn) {V : CV} (hC : CR False np nb nn (M 0) V) {p : Int32} : TR (d + 2) m10_angerOf [.ref 0, .int p] (modW s A L M) (.int (hiF T V nb p)) := by
  have hnb := hT.2.2.2.2.1
  have hnp := hT.2.2.2.1
  have hnn := hT.2.2.2.2.2.1
  refine Tr.intro (by decide) rfl ?_
  refine J_aload_n (pc := 0) D10_angerOf_0 rfl ?_
  refine J_iload_n (pc := 1) D10_angerOf_1 rfl ?_
  refine J_callVTR (pc := 2) (ac := [.int _]) D10_angerOf_2 m10_strongest_v t1795 (c10_strongest (d := d) hR hT hC) (by omega) rfl rfl rfl rfl (fun _ => rfl) rfl rfl rfl ?_
  refine J_istore_n (pc := 5) D10_angerOf_5 rfl ?_
  refine J_iload_n (pc := 6) D10_angerOf_6 rfl ?_
  refine J_iconst (pc := 7) (v := (-1)) D10_angerOf_7 (by decide) ?_
  refine J_icmp_ne (pc := 8) (tgt := 15) D10_angerOf_8 (by decide) (fun h8 => ?_) (fun h8 => ?_)
  · obtain ⟨b1, hb1⟩ := wkI_some h8
    have hbl := stO_lt nb b1 hb1
    have e1 := (hC.2.2.2.1 b1 hbl).2.1
    refine J_aload_n (pc := 15) D10_angerOf_15 rfl ?_
    refine J_getf (pc := 16) D10_angerOf_16 fl10_87 rfl rfl ?_
    refine J_iload_n (pc := 19) D10_angerOf_19 rfl ?_
    refine J_st (.int (nI b1) :: .ref 25 :: []) (by rw [hb1]; rfl) ?_
    refine J_mcld (pc := 20) (stp := 10) D10_angerOf_20 mc_1 (ix0 _ _) (by omega) (by omega) rfl ?_
    refine J_iret (pc := 21) D10_angerOf_21 rfl ?_
    exact ⟨rfl, congrArg (fun q => some (Value.int q)) (by rw [e1]; unfold hiF; rw [hb1])⟩
  · have h8' := eq_true h8
    have e8 := wkI_nn (stO_lt nb) hnb h8
    refine J_iconst (pc := 11) (v := (nI 0)) D10_angerOf_11 (by decide) ?_
    refine J_goto (pc := 12) (tgt := 21) D10_angerOf_12 (by decide) ?_
    refine J_iret (pc := 21) D10_angerOf_21 rfl ?_
    exact ⟨rfl, congrArg (fun q => some (Value.int q)) (by unfold hiF; rw [e8])⟩
theorem c10_hasOf {d : Nat} {s : Nat → Int32} {A : Nat → Nat → Int32} {L : LL} {M : Nat → MR} {T : TV} {np nb nn : Nat} (hR : RT A T np nb nn) (hT : WT T np nb nn) {V : CV} (hC : CR False np nb nn (M 0) V) {p q a b : Int32} (ha : a = 0 ∨ a = nI 1) (hb : b = 0 ∨ b = nI 1) : TR (d + 3) m10_hasOf [.ref 0, .int p, .int q, .int a, .int b] (modW s A L M) (.int (gaF (hiF T V nb p) (hiF T V nb q) a b)) := by
  refine Tr.intro (by decide) rfl ?_
  refine J_aload_n (pc := 0) D10_hasOf_0 rfl ?_
  refine J_iload_n (pc := 1) D10_hasOf_1 rfl ?_
  refine J_callVTR (pc := 2) (ac := [.int _]) D10_hasOf_2 m10_angerOf_v t1819 (c10_angerOf (d := d) hR hT hC) (by omega) rfl rfl rfl rfl (fun _ => rfl) rfl rfl rfl ?_
  refine J_istore (pc := 5) D10_hasOf_5 rfl ?_
  refine J_aload_n (pc := 7) D10_hasOf_7 rfl ?_
  refine J_iload_n (pc := 8) D10_hasOf_8 rfl ?_
  refine J_callVTR (pc := 9) (ac := [.int _]) D10_hasOf_9 m10_angerOf_v t1819 (c10_angerOf (d := d) hR hT hC) (by omega) rfl rfl rfl rfl (fun _ => rfl) rfl rfl rfl ?_
  refine J_istore (pc := 12) D10_hasOf_12 rfl ?_
  refine J_iload_n (pc := 14) D10_hasOf_14 rfl ?_
  refine J_iconst (pc := 15) (v := (nI 1)) D10_hasOf_15 (by decide) ?_
  refine J_icmp_ne (pc := 16) (tgt := 38) D10_hasOf_16 (by decide) (fun h16 => ?_) (fun h16 => ?_)
  · refine J_iload (pc := 38) D10_hasOf_38 rfl ?_
    refine J_iconst (pc := 40) (v := (nI 1)) D10_hasOf_40 (by decide) ?_
    refine J_icmp_ne (pc := 41) (tgt := 56) D10_hasOf_41 (by decide) (fun h41 => ?_) (fun h41 => ?_)
    · refine J_iload (pc := 56) D10_hasOf_56 rfl ?_
      refine J_iconst (pc := 58) (v := (nI 4)) D10_hasOf_58 (by decide) ?_
      refine J_idiv (pc := 59) D10_hasOf_59 (by decide) ?_
      refine J_iret (pc := 60) D10_hasOf_60 rfl ?_
      exact ⟨rfl, congrArg (fun q => some (Value.int q)) (by rw [gaF, if_pos (hb.resolve_right h41), gaW, if_pos (ha.resolve_right h16)])⟩
    · have h41' := eq_true h41
      refine J_iload (pc := 44) D10_hasOf_44 rfl ?_
      refine J_iconst (pc := 46) (v := (nI 4)) D10_hasOf_46 (by decide) ?_
      refine J_idiv (pc := 47) D10_hasOf_47 (by decide) ?_
      refine J_iload (pc := 48) D10_hasOf_48 rfl ?_
      refine J_iconst (pc := 50) (v := (nI 2)) D10_hasOf_50 (by decide) ?_
      refine J_idiv (pc := 51) D10_hasOf_51 (by decide) ?_
      refine J_isub (pc := 52) D10_hasOf_52 ?_
      refine J_goto (pc := 53) (tgt := 60) D10_hasOf_53 (by decide) ?_
      refine J_iret (pc := 60) D10_hasOf_60 rfl ?_
      exact ⟨rfl, congrArg (fun q => some (Value.int q)) (by rw [gaF, if_neg (by rw [h41]; decide), gaW, if_pos (ha.resolve_right h16)])⟩
  · have h16' := eq_true h16
    refine J_iload (pc := 19) D10_hasOf_19 rfl ?_
    refine J_iconst (pc := 21) (v := (nI 1)) D10_hasOf_21 (by decide) ?_
    refine J_icmp_ne (pc := 22) (tgt := 35) D10_hasOf_22 (by decide) (fun h22 => ?_) (fun h22 => ?_)
    · refine J_iload (pc := 35) D10_hasOf_35 rfl ?_
      refine J_iret (pc := 37) D10_hasOf_37 rfl ?_
      exact ⟨rfl, congrArg (fun q => some (Value.int q)) (by rw [gaF, if_pos (hb.resolve_right h22), gaW, if_neg (by rw [h16]; decide)])⟩
    · have h22' := eq_true h22
      refine J_iload (pc := 25) D10_hasOf_25 rfl ?_
      refine J_iload (pc := 27) D10_hasOf_27 rfl ?_
      refine J_iconst (pc := 29) (v := (nI 2)) D10_hasOf_29 (by decide) ?_
      refine J_idiv (pc := 30) D10_hasOf_30 (by decide) ?_
      refine J_isub (pc := 31) D10_hasOf_31 ?_
      refine J_goto (pc := 32) (tgt := 37) D10_hasOf_32 (by decide) ?_
      refine J_iret (pc := 37) D10_hasOf_37 rfl ?_
      exact ⟨rfl, congrArg (fun q => some (Value.int q)) (by rw [gaF, if_neg (by rw [h22]; decide), gaW, if_neg (by rw [h16]; decide)])⟩
theorem half2 : ∀ w, w < 4 → nI w / nI 2 = i01 (¬ nI w &&& nI 2 = 0) ∧ nI w - nI w / nI 2 * nI 2 = i01 (¬ nI w &&& nI 1 = 0) ∧ nI 1 - nI w / nI 2 = i01 (nI w &&& nI 2 = 0) ∧ nI 1 - (nI w - nI w / nI 2 * nI 2) = i01 (nI w &&& nI 1 = 0) ∧ nI 10 * (nI w / nI 2) + (nI w - nI w / nI 2 * nI 2) = nI 10 * (nI w >>> (nI 1 &&& 31)) + (nI w &&& nI 1) := by decide
theorem i01_o {c : Prop} [Decidable c] : i01 c = 0 ∨ i01 c = nI 1 := i01_b
theorem c10_isRest {d : Nat} {s : Nat → Int32} {A : Nat → Nat → Int32} {L : LL} {M : Nat → MR} {T : TV} {np nb nn : Nat} (hR : RT A T np nb nn) (hT : WT T np nb nn) {V : CV} (hC : CR False np nb nn (M 0) V) {one oth : Int32} {w : Nat} (hw : w < 4) : TR (d + 4) m10_isRest [.ref 0, .int one, .int oth, .int (nI w)] (modW s A L M) (.int (i01 (irF T V nb one oth (nI w) = true))) := by
  obtain ⟨w1, w2, w3, w4, -⟩ := half2 w hw
  refine Tr.intro (by decide) rfl ?_
  refine J_iload_n (pc := 0) D10_isRest_0 rfl ?_
  refine J_iconst (pc := 1) (v := (nI 2)) D10_isRest_1 (by decide) ?_
  refine J_idiv (pc := 2) D10_isRest_2 (by decide) ?_
  refine J_istore (pc := 3) D10_isRest_3 rfl ?_
  refine J_iload_n (pc := 5) D10_isRest_5 rfl ?_
  refine J_iconst (pc := 6) (v := (nI 2)) D10_isRest_6 (by decide) ?_
  refine J_irem (pc := 7) D10_isRest_7 (by decide) ?_
  refine J_istore (pc := 8) D10_isRest_8 rfl ?_
  refine J_aload_n (pc := 10) D10_isRest_10 rfl ?_
  refine J_iload_n (pc := 11) D10_isRest_11 rfl ?_
  refine J_iload_n (pc := 12) D10_isRest_12 rfl ?_
  refine J_iconst (pc := 13) (v := (nI 1)) D10_isRest_13 (by decide) ?_
  refine J_iload (pc := 14) D10_isRest_14 rfl ?_
  refine J_isub (pc := 16) D10_isRest_16 ?_
  refine J_iload (pc := 17) D10_isRest_17 rfl ?_
  refine J_callVTR (pc := 19) (ac := [.int _, .int _, .int _, .int _]) D10_isRest_19 m10_hasOf_v t1815 (c10_hasOf (d := d) hR hT hC (by rw [w3]; exact i01_o) (by rw [w2]; exact i01_o)) (by omega) rfl rfl rfl rfl (fun _ => rfl) rfl rfl rfl ?_
  refine J_aload_n (pc := 22) D10_isRest_22 rfl ?_
  refine J_iload_n (pc := 23) D10_isRest_23 rfl ?_
  refine J_iload_n (pc := 24) D10_isRest_24 rfl ?_
  refine J_iload (pc := 25) D10_isRest_25 rfl ?_
  refine J_iload (pc := 27) D10_isRest_27 rfl ?_
  refine J_callVTR (pc := 29) (ac := [.int _, .int _, .int _, .int _]) D10_isRest_29 m10_hasOf_v t1815 (c10_hasOf (d := d) hR hT hC (by rw [w1]; exact i01_o) (by rw [w2]; exact i01_o)) (by omega) rfl rfl rfl rfl (fun _ => rfl) rfl rfl rfl ?_
  refine J_icmp_gt (pc := 32) (tgt := 64) D10_isRest_32 (by decide) (fun h32 => ?_) (fun h32 => ?_)
  · have h32' := Int32.not_le.mpr h32
    rw [w3, w2, w1] at h32
    refine J_iconst (pc := 64) (v := (nI 0)) D10_isRest_64 (by decide) ?_
    refine J_zret (pc := 65) D10_isRest_65 rfl (by decide) ?_
    exact ⟨rfl, congrArg (fun q => some (Value.int q)) (i01_f (fun q => absurd (of_decide_eq_true (Bool.and_eq_true_iff.mp q).1) (Int32.not_le.mpr h32))).symm⟩
  · have h32' := Int32.not_lt.mp h32
    rw [w3, w2, w1] at h32
    refine J_aload_n (pc := 35) D10_isRest_35 rfl ?_
    refine J_iload_n (pc := 36) D10_isRest_36 rfl ?_
    refine J_iload_n (pc := 37) D10_isRest_37 rfl ?_
    refine J_iconst (pc := 38) (v := (nI 1)) D10_isRest_38 (by decide) ?_
    refine J_iload (pc := 39) D10_isRest_39 rfl ?_
    refine J_isub (pc := 41) D10_isRest_41 ?_
    refine J_iload (pc := 42) D10_isRest_42 rfl ?_
    refine J_callVTR (pc := 44) (ac := [.int _, .int _, .int _, .int _]) D10_isRest_44 m10_hasOf_v t1815 (c10_hasOf (d := d) hR hT hC (by rw [w4]; exact i01_o) (by rw [w1]; exact i01_o)) (by omega) rfl rfl rfl rfl (fun _ => rfl) rfl rfl rfl ?_
    refine J_aload_n (pc := 47) D10_isRest_47 rfl ?_
    refine J_iload_n (pc := 48) D10_isRest_48 rfl ?_
    refine J_iload_n (pc := 49) D10_isRest_49 rfl ?_
    refine J_iload (pc := 50) D10_isRest_50 rfl ?_
    refine J_iload (pc := 52) D10_isRest_52 rfl ?_
    refine J_callVTR (pc := 54) (ac := [.int _, .int _, .int _, .int _]) D10_isRest_54 m10_hasOf_v t1815 (c10_hasOf (d := d) hR hT hC (by rw [w2]; exact i01_o) (by rw [w1]; exact i01_o)) (by omega) rfl rfl rfl rfl (fun _ => rfl) rfl rfl rfl ?_
    refine J_icmp_gt (pc := 57) (tgt := 64) D10_isRest_57 (by decide) (fun h57 => ?_) (fun h57 => ?_)
    · have h57' := Int32.not_le.mpr h57
      rw [w4, w2, w1] at h57
      refine J_iconst (pc := 64) (v := (nI 0)) D10_isRest_64 (by decide) ?_
      refine J_zret (pc := 65) D10_isRest_65 rfl (by decide) ?_
      exact ⟨rfl, congrArg (fun q => some (Value.int q)) (i01_f (fun q => absurd (of_decide_eq_true (Bool.and_eq_true_iff.mp q).2) (Int32.not_le.mpr h57))).symm⟩
    · have h57' := Int32.not_lt.mp h57
      rw [w4, w2, w1] at h57
      refine J_iconst (pc := 60) (v := (nI 1)) D10_isRest_60 (by decide) ?_
      refine J_goto (pc := 61) (tgt := 65) D10_isRest_61 (by decide) ?_
      refine J_zret (pc := 65) D10_isRest_65 rfl (by decide) ?_
      exact ⟨rfl, congrArg (fun q => some (Value.int q)) (i01_t (by unfold irF irX; rw [decide_eq_true (Int32.not_lt.mp h32), decide_eq_true (Int32.not_lt.mp h57)]; rfl)).symm⟩
def rsO (T : TV) (V : CV) (nb : Nat) (one oth k : Int32) : Int32 := if k = -1 then nI (resN T V nb one oth 4) else reL T V nb one oth k 4 0
theorem L10_restOf {d : Nat} {s : Nat → Int32} {A : Nat → Nat → Int32} {L : LL} {M : Nat → MR} {T : TV} {np nb nn : Nat} (hR : RT A T np nb nn) (hT : WT T np nb nn) {V : CV} (hC : CR False np nb nn (M 0) V) {one oth k : Int32} : ∀ (g w : Nat), w + g = 4 → (¬ k = -1 → reL T V nb one oth k 4 0 = reL T V nb one oth k g w) → J m10_restOf (d + 5) 0 0 40 6 [(0, .ref 0), (1, .int one), (2, .int oth), (3, .int k), (4, .int (nI (resN T V nb one oth w))), (5, .int (nI w))] [] (modW s A L M) 0 0 (fun r w' => w' = modW s A L M ∧ r = some (.int (rsO T V nb one oth k))) := by
  intro g
  induction g with
  | zero =>
    intro w hw hk
    have e9 : w = 4 := by omega
    refine J_iload (pc := 6) D10_restOf_6 rfl ?_
    refine J_iconst (pc := 8) (v := (nI 4)) D10_restOf_8 (by decide) ?_
    refine J_icmp_ge (pc := 9) (tgt := 54) D10_restOf_9 (by decide) (fun h9 => ?_) (fun h9 => absurd (nI_le (by omega) (by omega)) h9)
    refine J_iload_n (pc := 54) D10_restOf_54 rfl ?_
    refine J_iconst (pc := 55) (v := (-1)) D10_restOf_55 (by decide) ?_
    refine J_icmp_ne (pc := 56) (tgt := 64) D10_restOf_56 (by decide) (fun h56 => ?_) (fun h56 => ?_)
    · refine J_bipush (pc := 64) (v := (-2)) D10_restOf_64 (by decide) ?_
      refine J_iret (pc := 66) D10_restOf_66 rfl ?_
      exact ⟨rfl, congrArg (fun q => some (Value.int q)) (by rw [rsO, if_neg h56, hk h56]; rfl)⟩
    · have h56' := eq_true h56
      refine J_iload (pc := 59) D10_restOf_59 rfl ?_
      refine J_goto (pc := 61) (tgt := 66) D10_restOf_61 (by decide) ?_
      refine J_iret (pc := 66) D10_restOf_66 rfl ?_
      exact ⟨rfl, congrArg (fun q => some (Value.int q)) (by rw [rsO, if_pos h56, e9])⟩
  | succ g ih =>
    intro w hw hk
    have hrl := resN_le (T := T) (V := V) (n := nb) (one := one) (oth := oth) w
    refine J_iload (pc := 6) D10_restOf_6 rfl ?_
    refine J_iconst (pc := 8) (v := (nI 4)) D10_restOf_8 (by decide) ?_
    refine J_icmp_ge (pc := 9) (tgt := 54) D10_restOf_9 (by decide) (fun h9 => absurd h9 (nI_ge (by omega) (by omega))) (fun h9 => ?_)
    refine J_aload_n (pc := 12) D10_restOf_12 rfl ?_
    refine J_iload_n (pc := 13) D10_restOf_13 rfl ?_
    refine J_iload_n (pc := 14) D10_restOf_14 rfl ?_
    refine J_iload (pc := 15) D10_restOf_15 rfl ?_
    refine J_callVTR (pc := 17) (ac := [.int _, .int _, .int _]) D10_restOf_17 m10_isRest_v t1811 (c10_isRest (d := d) hR hT hC (w := w) (by omega)) (by omega) rfl rfl rfl rfl (fun _ => rfl) rfl rfl rfl ?_
    refine J_if_ne (pc := 20) (tgt := 26) D10_restOf_20 (by decide) (fun h20 => ?_) (fun h20 => ?_)
    · replace h20 := i01_nz h20
      refine J_iload (pc := 26) D10_restOf_26 rfl ?_
      refine J_iload_n (pc := 28) D10_restOf_28 rfl ?_
      refine J_icmp_ne (pc := 29) (tgt := 45) D10_restOf_29 (by decide) (fun h29 => ?_) (fun h29 => ?_)
      · refine J_iinc (pc := 45) D10_restOf_45 rfl (nI_inc _) rfl ?_
        refine J_iinc (pc := 48) D10_restOf_48 rfl (nI_inc _) rfl ?_
        refine J_goto (pc := 51) (tgt := 6) D10_restOf_51 (by decide) ?_
        refine J_lk [(0, .ref 0), (1, .int one), (2, .int oth), (3, .int k), (4, .int (nI (resN T V nb one oth (w + 1)))), (5, .int (nI (w + 1)))] (by rw [resN, if_pos h20]; rfl) ?_
        refine ih (w + 1) (by omega) (fun q => ?_)
        rw [hk q, reL, if_neg (fun z => h29 z.2)]
      · have h29' := eq_true h29
        refine J_bipush (pc := 32) (v := (nI 10)) D10_restOf_32 (by decide) ?_
        refine J_iload (pc := 34) D10_restOf_34 rfl ?_
        refine J_iconst (pc := 36) (v := (nI 2)) D10_restOf_36 (by decide) ?_
        refine J_idiv (pc := 37) D10_restOf_37 (by decide) ?_
        refine J_imul (pc := 38) D10_restOf_38 ?_
        refine J_iload (pc := 39) D10_restOf_39 rfl ?_
        refine J_iconst (pc := 41) (v := (nI 2)) D10_restOf_41 (by decide) ?_
        refine J_irem (pc := 42) D10_restOf_42 (by decide) ?_
        refine J_iadd (pc := 43) D10_restOf_43 ?_
        refine J_iret (pc := 44) D10_restOf_44 rfl ?_
        have hk1 : ¬ k = -1 := fun q => nI_nm (b := resN T V nb one oth w) (by omega) (h29.trans q)
        exact ⟨rfl, congrArg (fun q => some (Value.int q)) (by rw [rsO, if_neg hk1, hk hk1, reL, if_pos ⟨h20, h29⟩]; exact (half2 w (by omega)).2.2.2.2)⟩
    · have h20' := eq_true h20
      replace h20 := i01_z h20
      refine J_goto (pc := 23) (tgt := 48) D10_restOf_23 (by decide) ?_
      refine J_iinc (pc := 48) D10_restOf_48 rfl (nI_inc _) rfl ?_
      refine J_goto (pc := 51) (tgt := 6) D10_restOf_51 (by decide) ?_
      refine J_lk [(0, .ref 0), (1, .int one), (2, .int oth), (3, .int k), (4, .int (nI (resN T V nb one oth (w + 1)))), (5, .int (nI (w + 1)))] (by rw [resN, if_neg h20]; rfl) ?_
      refine ih (w + 1) (by omega) (fun q => ?_)
      rw [hk q, reL, if_neg (fun z => h20 z.1)]
theorem c10_restOf {d : Nat} {s : Nat → Int32} {A : Nat → Nat → Int32} {L : LL} {M : Nat → MR} {T : TV} {np nb nn : Nat} (hR : RT A T np nb nn) (hT : WT T np nb nn) {V : CV} (hC : CR False np nb nn (M 0) V) {one oth k : Int32} : TR (d + 5) m10_restOf [.ref 0, .int one, .int oth, .int k] (modW s A L M) (.int (rsO T V nb one oth k)) := by
  refine Tr.intro (by decide) rfl ?_
  refine J_iconst (pc := 0) (v := (nI 0)) D10_restOf_0 (by decide) ?_
  refine J_istore (pc := 1) D10_restOf_1 rfl ?_
  refine J_iconst (pc := 3) (v := (nI 0)) D10_restOf_3 (by decide) ?_
  refine J_istore (pc := 4) D10_restOf_4 rfl ?_
  exact L10_restOf hR hT hC 4 0 (by omega) (fun _ => rfl)
theorem c10_areTwo {d : Nat} {s : Nat → Int32} {A : Nat → Nat → Int32} {L : LL} {M : Nat → MR} {T : TV} {np nb nn : Nat} (hR : RT A T np nb nn) (hT : WT T np nb nn) {V : CV} (hC : CR False np nb nn (M 0) V) {one oth : Int32} : TR (d + 1) m10_areTwo [.ref 0, .int one, .int oth] (modW s A L M) (.int (i01 (twoB np one oth = true))) := by
  refine Tr.intro (by decide) rfl ?_
  refine J_aload_n (pc := 0) D10_areTwo_0 rfl ?_
  refine J_iload_n (pc := 1) D10_areTwo_1 rfl ?_
  refine J_callVTR (pc := 2) (ac := [.int _]) D10_areTwo_2 m10_isMan_v t1575 (c10_isMan (d := d) hR) (by omega) rfl rfl rfl rfl (fun _ => rfl) rfl rfl rfl ?_
  refine J_if_eq (pc := 5) (tgt := 25) D10_areTwo_5 (by decide) (fun h5 => ?_) (fun h5 => ?_)
  · have h5' := eq_true h5
    replace h5 := i01_z h5
    refine J_iconst (pc := 25) (v := (nI 0)) D10_areTwo_25 (by decide) ?_
    refine J_zret (pc := 26) D10_areTwo_26 rfl (by decide) ?_
    exact ⟨rfl, congrArg (fun q => some (Value.int q)) (i01_f (fun q => h5 (twoB_t q).1)).symm⟩
  · replace h5 := i01_nz h5
    refine J_aload_n (pc := 8) D10_areTwo_8 rfl ?_
    refine J_iload_n (pc := 9) D10_areTwo_9 rfl ?_
    refine J_callVTR (pc := 10) (ac := [.int _]) D10_areTwo_10 m10_isMan_v t1575 (c10_isMan (d := d) hR) (by omega) rfl rfl rfl rfl (fun _ => rfl) rfl rfl rfl ?_
    refine J_if_eq (pc := 13) (tgt := 25) D10_areTwo_13 (by decide) (fun h13 => ?_) (fun h13 => ?_)
    · have h13' := eq_true h13
      replace h13 := i01_z h13
      refine J_iconst (pc := 25) (v := (nI 0)) D10_areTwo_25 (by decide) ?_
      refine J_zret (pc := 26) D10_areTwo_26 rfl (by decide) ?_
      exact ⟨rfl, congrArg (fun q => some (Value.int q)) (i01_f (fun q => h13 (twoB_t q).2.1)).symm⟩
    · replace h13 := i01_nz h13
      refine J_iload_n (pc := 16) D10_areTwo_16 rfl ?_
      refine J_iload_n (pc := 17) D10_areTwo_17 rfl ?_
      refine J_icmp_eq (pc := 18) (tgt := 25) D10_areTwo_18 (by decide) (fun h18 => ?_) (fun h18 => ?_)
      · have h18' := eq_true h18
        refine J_iconst (pc := 25) (v := (nI 0)) D10_areTwo_25 (by decide) ?_
        refine J_zret (pc := 26) D10_areTwo_26 rfl (by decide) ?_
        exact ⟨rfl, congrArg (fun q => some (Value.int q)) (i01_f (fun q => (twoB_t q).2.2 h18)).symm⟩
      · refine J_iconst (pc := 21) (v := (nI 1)) D10_areTwo_21 (by decide) ?_
        refine J_goto (pc := 22) (tgt := 26) D10_areTwo_22 (by decide) ?_
        refine J_zret (pc := 26) D10_areTwo_26 rfl (by decide) ?_
        exact ⟨rfl, congrArg (fun q => some (Value.int q)) (i01_t (by unfold twoB; rw [h5, h13, decide_eq_true h18]; rfl)).symm⟩
theorem c10_rests {d : Nat} {s : Nat → Int32} {A : Nat → Nat → Int32} {L : LL} {M : Nat → MR} {T : TV} {np nb nn : Nat} (hR : RT A T np nb nn) (hT : WT T np nb nn) {V : CV} (hC : CR False np nb nn (M 0) V) {one oth : Int32} : Tr (d + 6) 0 0 m10_rests [.ref 0, .int one, .int oth] (modW s A L M) (mR s A M (.int (rssF T V np nb one oth))) := by
  refine Tr.intro (by decide) rfl ?_
  refine J_aload_n (pc := 0) D10_rests_0 rfl ?_
  refine J_iconst (pc := 1) (v := (nI 0)) D10_rests_1 (by decide) ?_
  refine J_mput (pc := 2) D10_rests_2 fp10_139 ms_0 ?_
  refine J_aload_n (pc := 5) D10_rests_5 rfl ?_
  refine J_iload_n (pc := 6) D10_rests_6 rfl ?_
  refine J_iload_n (pc := 7) D10_rests_7 rfl ?_
  refine J_callVTR (pc := 8) (ac := [.int _, .int _]) D10_rests_8 m10_areTwo_v t1803 (c10_areTwo (d := d + 4) hR hT hC) (by omega) rfl rfl rfl rfl (fun _ => rfl) rfl rfl rfl ?_
  refine J_if_eq (pc := 11) (tgt := 24) D10_rests_11 (by decide) (fun h11 => ?_) (fun h11 => ?_)
  · have h11' := eq_true h11
    replace h11 := i01_z h11
    refine J_iconst (pc := 24) (v := (-1)) D10_rests_24 (by decide) ?_
    refine J_iret (pc := 25) D10_rests_25 rfl ?_
    exact ⟨congrArg (fun q => some (Value.int q)) (by rw [rssF, if_neg h11]), _, _, _, _, rfl, PX.s0⟩
  · replace h11 := i01_nz h11
    refine J_aload_n (pc := 14) D10_rests_14 rfl ?_
    refine J_iload_n (pc := 15) D10_rests_15 rfl ?_
    refine J_iload_n (pc := 16) D10_rests_16 rfl ?_
    refine J_iconst (pc := 17) (v := (-1)) D10_rests_17 (by decide) ?_
    refine J_callVTR (pc := 18) (ac := [.int _, .int _, .int _]) D10_rests_18 m10_restOf_v t1807 (c10_restOf (d := d) hR hT hC) (by omega) rfl rfl rfl rfl (fun _ => rfl) rfl rfl rfl ?_
    refine J_goto (pc := 21) (tgt := 25) D10_rests_21 (by decide) ?_
    refine J_iret (pc := 25) D10_rests_25 rfl ?_
    exact ⟨congrArg (fun q => some (Value.int q)) (by rw [rssF, if_pos h11]; exact if_pos rfl), _, _, _, _, rfl, PX.s0⟩
theorem c10_rest {d : Nat} {s : Nat → Int32} {A : Nat → Nat → Int32} {L : LL} {M : Nat → MR} {T : TV} {np nb nn : Nat} (hR : RT A T np nb nn) (hT : WT T np nb nn) {V : CV} (hC : CR False np nb nn (M 0) V) {one oth k : Int32} : Tr (d + 6) 0 0 m10_rest [.ref 0, .int one, .int oth, .int k] (modW s A L M) (mR s A M (.int (rstF T V np nb one oth k))) := by
  refine Tr.intro (by decide) rfl ?_
  refine J_aload_n (pc := 0) D10_rest_0 rfl ?_
  refine J_iconst (pc := 1) (v := (nI 0)) D10_rest_1 (by decide) ?_
  refine J_mput (pc := 2) D10_rest_2 fp10_139 ms_0 ?_
  refine J_aload_n (pc := 5) D10_rest_5 rfl ?_
  refine J_iload_n (pc := 6) D10_rest_6 rfl ?_
  refine J_iload_n (pc := 7) D10_rest_7 rfl ?_
  refine J_callVTR (pc := 8) (ac := [.int _, .int _]) D10_rest_8 m10_areTwo_v t1803 (c10_areTwo (d := d + 4) hR hT hC) (by omega) rfl rfl rfl rfl (fun _ => rfl) rfl rfl rfl ?_
  refine J_if_eq (pc := 11) (tgt := 28) D10_rest_11 (by decide) (fun h11 => ?_) (fun h11 => ?_)
  · have h11' := eq_true h11
    replace h11 := i01_z h11
    refine J_iconst (pc := 28) (v := (-1)) D10_rest_28 (by decide) ?_
    refine J_iret (pc := 29) D10_rest_29 rfl ?_
    exact ⟨congrArg (fun q => some (Value.int q)) (by rw [rstF, if_neg (fun q => h11 q.1)]), _, _, _, _, rfl, PX.s0⟩
  · replace h11 := i01_nz h11
    refine J_iload_n (pc := 14) D10_rest_14 rfl ?_
    refine J_if_lt (pc := 15) (tgt := 28) D10_rest_15 (by decide) (fun h15 => ?_) (fun h15 => ?_)
    · have h15' := Int32.not_le.mpr h15
      refine J_iconst (pc := 28) (v := (-1)) D10_rest_28 (by decide) ?_
      refine J_iret (pc := 29) D10_rest_29 rfl ?_
      exact ⟨congrArg (fun q => some (Value.int q)) (by rw [rstF, if_neg (fun q => absurd q.2 (Int32.not_le.mpr h15))]), _, _, _, _, rfl, PX.s0⟩
    · have h15' := Int32.not_lt.mp h15
      refine J_aload_n (pc := 18) D10_rest_18 rfl ?_
      refine J_iload_n (pc := 19) D10_rest_19 rfl ?_
      refine J_iload_n (pc := 20) D10_rest_20 rfl ?_
      refine J_iload_n (pc := 21) D10_rest_21 rfl ?_
      refine J_callVTR (pc := 22) (ac := [.int _, .int _, .int _]) D10_rest_22 m10_restOf_v t1807 (c10_restOf (d := d) hR hT hC) (by omega) rfl rfl rfl rfl (fun _ => rfl) rfl rfl rfl ?_
      refine J_goto (pc := 25) (tgt := 29) D10_rest_25 (by decide) ?_
      refine J_iret (pc := 29) D10_rest_29 rfl ?_
      exact ⟨congrArg (fun q => some (Value.int q)) (by rw [rstF, if_pos ⟨h11, Int32.not_lt.mp h15⟩]; exact if_neg (fun q => h15 (by rw [q]; decide))), _, _, _, _, rfl, PX.s0⟩
