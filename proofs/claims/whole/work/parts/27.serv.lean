/-! SERVICE (own; walks by program wk.py) -/
/-- Service: most, bottleOf; told at 2, cellar at 20 -/
def srvW (mo : Int32) (bo : Nat → Int32) (T : TV) (V : CV) : List EC := .inr (4, [.ref 2, .ref 20, .int mo, .ref 1]) :: iA 8 bo :: (toldC 2 T ++ celC 20 V)
def bt (b : Nat) : Int32 := nI 1 <<< (nI b &&& 31)
def hasB (x : Int32) (b : Nat) : Prop := ¬ (x >>> (nI b &&& 31)) &&& nI 1 = 0
def ftB (T : TV) (V : CV) (n b : Nat) (fr : Int32) : Bool := decide (V.2.2.2 5 n = -1) && (decide (¬ (fr >>> (nI b &&& 31)) &&& nI 1 = 0) && decide (T.2.1 13 n ≤ V.2.2.2 1 b ∧ V.2.2.2 1 b ≤ T.2.1 14 n))
theorem c4_fits {d n b : Nat} {mo fr : Int32} {bo : Nat → Int32} {T : TV} {V : CV} (hn : n < 8) (hb : b < 10) : TR (d + 1) m4_fits [.ref 0, .int (nI n), .int (nI b), .int fr] (srvW mo bo T V) (.int (i01 (ftB T V n b fr = true))) := by
  refine Tr.intro (by decide) rfl ?_
  refine J_aload_n (pc := 0) D4_fits_0 rfl ?_
  refine J_getf (pc := 1) D4_fits_1 fl4_19 rfl rfl ?_
  refine J_getf (pc := 4) D4_fits_4 fl4_53 rfl rfl ?_
  refine J_iload_n (pc := 7) D4_fits_7 rfl ?_
  refine J_iald (pc := 8) D4_fits_8 rfl rfl (by omega) rfl ?_
  refine J_iconst (pc := 9) (v := (-1)) D4_fits_9 (by decide) ?_
  refine J_icmp_ne (pc := 10) (tgt := 58) D4_fits_10 (by decide) (fun h10 => ?_) (fun h10 => ?_)
  · refine J_iconst (pc := 58) (v := (nI 0)) D4_fits_58 (by decide) ?_
    refine J_zret (pc := 59) D4_fits_59 rfl (by decide) ?_
    refine ⟨rfl, congrArg (fun q => some (Value.int q)) ?_⟩
    rw [i01_f (by unfold ftB; rw [decide_eq_false h10]; exact Bool.false_ne_true)]; rfl
  · have h10' := eq_true h10
    refine J_iload_n (pc := 13) D4_fits_13 rfl ?_
    refine J_iload_n (pc := 14) D4_fits_14 rfl ?_
    refine J_ishr (pc := 15) D4_fits_15 ?_
    refine J_iconst (pc := 16) (v := (nI 1)) D4_fits_16 (by decide) ?_
    refine J_iand (pc := 17) D4_fits_17 ?_
    refine J_if_eq (pc := 18) (tgt := 58) D4_fits_18 (by decide) (fun h18 => ?_) (fun h18 => ?_)
    · have h18' := eq_true h18
      refine J_iconst (pc := 58) (v := (nI 0)) D4_fits_58 (by decide) ?_
      refine J_zret (pc := 59) D4_fits_59 rfl (by decide) ?_
      refine ⟨rfl, congrArg (fun q => some (Value.int q)) ?_⟩
      rw [i01_f (by unfold ftB; rw [decide_eq_false (not_not_intro h18), Bool.false_and, Bool.and_false]; exact Bool.false_ne_true)]; rfl
    · refine J_aload_n (pc := 21) D4_fits_21 rfl ?_
      refine J_getf (pc := 22) D4_fits_22 fl4_19 rfl rfl ?_
      refine J_getf (pc := 25) D4_fits_25 fl4_56 rfl rfl ?_
      refine J_iload_n (pc := 28) D4_fits_28 rfl ?_
      refine J_iald (pc := 29) D4_fits_29 rfl rfl (by omega) rfl ?_
      refine J_aload_n (pc := 30) D4_fits_30 rfl ?_
      refine J_getf (pc := 31) D4_fits_31 fl4_15 rfl rfl ?_
      refine J_getf (pc := 34) D4_fits_34 fl4_59 rfl rfl ?_
      refine J_iload_n (pc := 37) D4_fits_37 rfl ?_
      refine J_iald (pc := 38) D4_fits_38 rfl rfl (by omega) rfl ?_
      refine J_aload_n (pc := 39) D4_fits_39 rfl ?_
      refine J_getf (pc := 40) D4_fits_40 fl4_15 rfl rfl ?_
      refine J_getf (pc := 43) D4_fits_43 fl4_62 rfl rfl ?_
      refine J_iload_n (pc := 46) D4_fits_46 rfl ?_
      refine J_iald (pc := 47) D4_fits_47 rfl rfl (by omega) rfl ?_
      refine J_callSNR (pc := 48) (ι := []) (ac := [.int _, .int _, .int _]) (host := "TemperCellar") D4_fits_48 m9_isAmong_s (by decide) (c9_isAmong (d := d)) (by omega) ⟨rfl, rfl⟩ rfl rfl (fun _ => rfl) rfl rfl rfl ?_
      refine J_if_eq (pc := 51) (tgt := 58) D4_fits_51 (by decide) (fun h51 => ?_) (fun h51 => ?_)
      · have h51' := eq_true h51
        replace h51 := i01_z h51
        refine J_iconst (pc := 58) (v := (nI 0)) D4_fits_58 (by decide) ?_
        refine J_zret (pc := 59) D4_fits_59 rfl (by decide) ?_
        refine ⟨rfl, congrArg (fun q => some (Value.int q)) ?_⟩
        rw [i01_f (by unfold ftB; rw [decide_eq_false h51, Bool.and_false, Bool.and_false]; exact Bool.false_ne_true)]; rfl
      · replace h51 := i01_nz h51
        refine J_iconst (pc := 54) (v := (nI 1)) D4_fits_54 (by decide) ?_
        refine J_goto (pc := 55) (tgt := 59) D4_fits_55 (by decide) ?_
        refine J_zret (pc := 59) D4_fits_59 rfl (by decide) ?_
        refine ⟨rfl, congrArg (fun q => some (Value.int q)) ?_⟩
        rw [i01_t (by unfold ftB; rw [decide_eq_true h10, decide_eq_true h18, decide_eq_true h51]; rfl)]; rfl
def enS (T : TV) (dn : Int32) (i : Nat) (ac : Option Nat) : Option Nat := if (dn >>> (nI i &&& 31)) &&& nI 1 = 0 ∧ (∀ w, ac = some w → T.2.1 14 i < T.2.1 14 w) then some i else ac
def enL (T : TV) (dn : Int32) : Nat → Nat → Option Nat → Option Nat
  | 0, _, ac => ac
  | g + 1, i, ac => enL T dn g (i + 1) (enS T dn i ac)
def wfS (T : TV) (V : CV) (n : Nat) (fr : Int32) (b : Nat) (ac : Option Nat) : Option Nat := if ftB T V n b fr = true ∧ (∀ w, ac = some w → V.2.2.2 1 b < V.2.2.2 1 w) then some b else ac
def wfL (T : TV) (V : CV) (n : Nat) (fr : Int32) : Nat → Nat → Option Nat → Option Nat
  | 0, _, ac => ac
  | g + 1, b, ac => wfL T V n fr g (b + 1) (wfS T V n fr b ac)
theorem L4_endingFirst {d np nb nn n : Nat} {mo fr : Int32} {bo : Nat → Int32} {T : TV} {V : CV} (hT : WT T np nb nn) : ∀ (g b : Nat) (ac : Option Nat), b + g = nn → (∀ w, ac = some w → w < nn) →
    J m4_endingFirst (d + 2) 0 0 30 5 [(0, .ref 0), (1, .int (nI n)), (2, .int fr), (3, .int (wkI ac)), (4, .int (nI b))] [] (srvW mo bo T V) 0 0 (fun r w' => w' = srvW mo bo T V ∧ r = some (.int (wkI (enL T fr g b ac)))) := by
  obtain ⟨-, eb, en, -, hnb, hnn, -⟩ := id hT
  intro g
  induction g with
  | zero =>
    intro b ac hb hac
    refine J_iload (pc := 5) D4_endingFirst_5 rfl ?_
    refine J_aload_n (pc := 7) D4_endingFirst_7 rfl ?_
    refine J_getf (pc := 8) D4_endingFirst_8 fl4_15 rfl rfl ?_
    refine J_getf (pc := 11) D4_endingFirst_11 fl4_37 rfl rfl ?_
    refine J_icmp_ge (pc := 14) (tgt := 62) D4_endingFirst_14 (by decide) (fun h14 => ?_) (fun h14 => absurd (by rw [en]; exact nI_le (by omega) (by omega)) h14)
    refine J_iload_n (pc := 62) D4_endingFirst_62 rfl ?_
    refine J_iret (pc := 63) D4_endingFirst_63 rfl ?_
    exact ⟨rfl, rfl⟩
  | succ g ih =>
    intro b ac hb hac
    refine J_iload (pc := 5) D4_endingFirst_5 rfl ?_
    refine J_aload_n (pc := 7) D4_endingFirst_7 rfl ?_
    refine J_getf (pc := 8) D4_endingFirst_8 fl4_15 rfl rfl ?_
    refine J_getf (pc := 11) D4_endingFirst_11 fl4_37 rfl rfl ?_
    refine J_icmp_ge (pc := 14) (tgt := 62) D4_endingFirst_14 (by decide) (fun h14 => absurd h14 (by rw [en]; exact nI_ge (by omega) (by omega))) (fun h14 => ?_)
    refine J_iload_n (pc := 17) D4_endingFirst_17 rfl ?_
    refine J_iload (pc := 18) D4_endingFirst_18 rfl ?_
    refine J_ishr (pc := 20) D4_endingFirst_20 ?_
    refine J_iconst (pc := 21) (v := (nI 1)) D4_endingFirst_21 (by decide) ?_
    refine J_iand (pc := 22) D4_endingFirst_22 ?_
    refine J_if_ne (pc := 23) (tgt := 56) D4_endingFirst_23 (by decide) (fun h23 => ?_) (fun h23 => ?_)
    · refine J_iinc (pc := 56) D4_endingFirst_56 rfl (nI_inc _) rfl ?_
      refine J_goto (pc := 59) (tgt := 5) D4_endingFirst_59 (by decide) ?_
      refine J_lk [(0, .ref 0), (1, .int (nI n)), (2, .int fr), (3, .int (wkI ac)), (4, .int (nI (b + 1)))] rfl ?_
      have e : enS T fr b ac = ac := by rw [enS, if_neg (fun z => h23 z.1)]
      rw [enL, e]
      exact ih (b + 1) ac (by omega) hac
    · have h23' := eq_true h23
      refine J_iload_n (pc := 26) D4_endingFirst_26 rfl ?_
      refine J_iconst (pc := 27) (v := (-1)) D4_endingFirst_27 (by decide) ?_
      refine J_icmp_eq (pc := 28) (tgt := 53) D4_endingFirst_28 (by decide) (fun h28 => ?_) (fun h28 => ?_)
      · have h28' := eq_true h28
        refine J_iload (pc := 53) D4_endingFirst_53 rfl ?_
        refine J_istore_n (pc := 55) D4_endingFirst_55 rfl ?_
        refine J_iinc (pc := 56) D4_endingFirst_56 rfl (nI_inc _) rfl ?_
        refine J_goto (pc := 59) (tgt := 5) D4_endingFirst_59 (by decide) ?_
        refine J_lk [(0, .ref 0), (1, .int (nI n)), (2, .int fr), (3, .int (wkI (some b))), (4, .int (nI (b + 1)))] rfl ?_
        have e : enS T fr b ac = some b := by rw [enS, if_pos ⟨h23, fun w hw => nomatch ((wkI_n h28 (fun w hw => by have := hac w hw; omega)).symm.trans hw)⟩]
        rw [enL, e]
        exact ih (b + 1) (some b) (by omega) (fun w hw => by cases hw; omega)
      · obtain ⟨w, rfl⟩ := wkI_s h28
        have hw9 := hac w rfl
        refine J_aload_n (pc := 31) D4_endingFirst_31 rfl ?_
        refine J_getf (pc := 32) D4_endingFirst_32 fl4_15 rfl rfl ?_
        refine J_getf (pc := 35) D4_endingFirst_35 fl4_62 rfl rfl ?_
        refine J_iload (pc := 38) D4_endingFirst_38 rfl ?_
        refine J_iald (pc := 40) D4_endingFirst_40 rfl rfl (by omega) rfl ?_
        refine J_aload_n (pc := 41) D4_endingFirst_41 rfl ?_
        refine J_getf (pc := 42) D4_endingFirst_42 fl4_15 rfl rfl ?_
        refine J_getf (pc := 45) D4_endingFirst_45 fl4_62 rfl rfl ?_
        refine J_iload_n (pc := 48) D4_endingFirst_48 rfl ?_
        refine J_iald (pc := 49) D4_endingFirst_49 rfl rfl (by omega) rfl ?_
        refine J_icmp_ge (pc := 50) (tgt := 56) D4_endingFirst_50 (by decide) (fun h50 => ?_) (fun h50 => ?_)
        · have h50' := Int32.not_lt.mpr h50
          refine J_iinc (pc := 56) D4_endingFirst_56 rfl (nI_inc _) rfl ?_
          refine J_goto (pc := 59) (tgt := 5) D4_endingFirst_59 (by decide) ?_
          refine J_lk [(0, .ref 0), (1, .int (nI n)), (2, .int fr), (3, .int (wkI (some w))), (4, .int (nI (b + 1)))] rfl ?_
          have e : enS T fr b (some w) = some w := by rw [enS, if_neg (fun z => h50' (z.2 w rfl))]
          rw [enL, e]
          exact ih (b + 1) (some w) (by omega) hac
        · have h50' := Int32.not_le.mp h50
          refine J_iload (pc := 53) D4_endingFirst_53 rfl ?_
          refine J_istore_n (pc := 55) D4_endingFirst_55 rfl ?_
          refine J_iinc (pc := 56) D4_endingFirst_56 rfl (nI_inc _) rfl ?_
          refine J_goto (pc := 59) (tgt := 5) D4_endingFirst_59 (by decide) ?_
          refine J_lk [(0, .ref 0), (1, .int (nI n)), (2, .int fr), (3, .int (wkI (some b))), (4, .int (nI (b + 1)))] rfl ?_
          have e : enS T fr b (some w) = some b := by rw [enS, if_pos ⟨h23, fun w1 hw => by cases hw; exact h50'⟩]
          rw [enL, e]
          exact ih (b + 1) (some b) (by omega) (fun w hw => by cases hw; omega)
theorem L4_weakestFor {d np nb nn n : Nat} {mo fr : Int32} {bo : Nat → Int32} {T : TV} {V : CV} (hT : WT T np nb nn) (hn : n < nn) : ∀ (g b : Nat) (ac : Option Nat), b + g = nb → (∀ w, ac = some w → w < nb) →
    J m4_weakestFor (d + 2) 0 0 30 5 [(0, .ref 0), (1, .int (nI n)), (2, .int fr), (3, .int (wkI ac)), (4, .int (nI b))] [] (srvW mo bo T V) 0 0 (fun r w' => w' = srvW mo bo T V ∧ r = some (.int (wkI (wfL T V n fr g b ac)))) := by
  obtain ⟨-, eb, en, -, hnb, hnn, -⟩ := id hT
  intro g
  induction g with
  | zero =>
    intro b ac hb hac
    refine J_iload (pc := 5) D4_weakestFor_5 rfl ?_
    refine J_aload_n (pc := 7) D4_weakestFor_7 rfl ?_
    refine J_getf (pc := 8) D4_weakestFor_8 fl4_15 rfl rfl ?_
    refine J_getf (pc := 11) D4_weakestFor_11 fl4_46 rfl rfl ?_
    refine J_icmp_ge (pc := 14) (tgt := 64) D4_weakestFor_14 (by decide) (fun h14 => ?_) (fun h14 => absurd (by rw [eb]; exact nI_le (by omega) (by omega)) h14)
    refine J_iload_n (pc := 64) D4_weakestFor_64 rfl ?_
    refine J_iret (pc := 65) D4_weakestFor_65 rfl ?_
    exact ⟨rfl, rfl⟩
  | succ g ih =>
    intro b ac hb hac
    refine J_iload (pc := 5) D4_weakestFor_5 rfl ?_
    refine J_aload_n (pc := 7) D4_weakestFor_7 rfl ?_
    refine J_getf (pc := 8) D4_weakestFor_8 fl4_15 rfl rfl ?_
    refine J_getf (pc := 11) D4_weakestFor_11 fl4_46 rfl rfl ?_
    refine J_icmp_ge (pc := 14) (tgt := 64) D4_weakestFor_14 (by decide) (fun h14 => absurd h14 (by rw [eb]; exact nI_ge (by omega) (by omega))) (fun h14 => ?_)
    refine J_aload_n (pc := 17) D4_weakestFor_17 rfl ?_
    refine J_iload_n (pc := 18) D4_weakestFor_18 rfl ?_
    refine J_iload (pc := 19) D4_weakestFor_19 rfl ?_
    refine J_iload_n (pc := 21) D4_weakestFor_21 rfl ?_
    refine J_callVTR (pc := 22) (ac := [.int _, .int _, .int _]) D4_weakestFor_22 m4_fits_v t968 (c4_fits (d := d) (n := n) (b := b) (fr := fr) (by omega) (by omega)) (by omega) rfl rfl rfl rfl (fun _ => rfl) rfl rfl rfl ?_
    refine J_if_eq (pc := 25) (tgt := 58) D4_weakestFor_25 (by decide) (fun h25 => ?_) (fun h25 => ?_)
    · have h25' := eq_true h25
      replace h25 := i01_z h25
      refine J_iinc (pc := 58) D4_weakestFor_58 rfl (nI_inc _) rfl ?_
      refine J_goto (pc := 61) (tgt := 5) D4_weakestFor_61 (by decide) ?_
      refine J_lk [(0, .ref 0), (1, .int (nI n)), (2, .int fr), (3, .int (wkI ac)), (4, .int (nI (b + 1)))] rfl ?_
      have e : wfS T V n fr b ac = ac := by rw [wfS, if_neg (fun z => h25 z.1)]
      rw [wfL, e]
      exact ih (b + 1) ac (by omega) hac
    · replace h25 := i01_nz h25
      refine J_iload_n (pc := 28) D4_weakestFor_28 rfl ?_
      refine J_iconst (pc := 29) (v := (-1)) D4_weakestFor_29 (by decide) ?_
      refine J_icmp_eq (pc := 30) (tgt := 55) D4_weakestFor_30 (by decide) (fun h30 => ?_) (fun h30 => ?_)
      · have h30' := eq_true h30
        refine J_iload (pc := 55) D4_weakestFor_55 rfl ?_
        refine J_istore_n (pc := 57) D4_weakestFor_57 rfl ?_
        refine J_iinc (pc := 58) D4_weakestFor_58 rfl (nI_inc _) rfl ?_
        refine J_goto (pc := 61) (tgt := 5) D4_weakestFor_61 (by decide) ?_
        refine J_lk [(0, .ref 0), (1, .int (nI n)), (2, .int fr), (3, .int (wkI (some b))), (4, .int (nI (b + 1)))] rfl ?_
        have e : wfS T V n fr b ac = some b := by rw [wfS, if_pos ⟨h25, fun w hw => nomatch ((wkI_n h30 (fun w hw => by have := hac w hw; omega)).symm.trans hw)⟩]
        rw [wfL, e]
        exact ih (b + 1) (some b) (by omega) (fun w hw => by cases hw; omega)
      · obtain ⟨w, rfl⟩ := wkI_s h30
        have hw9 := hac w rfl
        refine J_aload_n (pc := 33) D4_weakestFor_33 rfl ?_
        refine J_getf (pc := 34) D4_weakestFor_34 fl4_19 rfl rfl ?_
        refine J_getf (pc := 37) D4_weakestFor_37 fl4_56 rfl rfl ?_
        refine J_iload (pc := 40) D4_weakestFor_40 rfl ?_
        refine J_iald (pc := 42) D4_weakestFor_42 rfl rfl (by omega) rfl ?_
        refine J_aload_n (pc := 43) D4_weakestFor_43 rfl ?_
        refine J_getf (pc := 44) D4_weakestFor_44 fl4_19 rfl rfl ?_
        refine J_getf (pc := 47) D4_weakestFor_47 fl4_56 rfl rfl ?_
        refine J_iload_n (pc := 50) D4_weakestFor_50 rfl ?_
        refine J_iald (pc := 51) D4_weakestFor_51 rfl rfl (by omega) rfl ?_
        refine J_icmp_ge (pc := 52) (tgt := 58) D4_weakestFor_52 (by decide) (fun h52 => ?_) (fun h52 => ?_)
        · have h52' := Int32.not_lt.mpr h52
          refine J_iinc (pc := 58) D4_weakestFor_58 rfl (nI_inc _) rfl ?_
          refine J_goto (pc := 61) (tgt := 5) D4_weakestFor_61 (by decide) ?_
          refine J_lk [(0, .ref 0), (1, .int (nI n)), (2, .int fr), (3, .int (wkI (some w))), (4, .int (nI (b + 1)))] rfl ?_
          have e : wfS T V n fr b (some w) = some w := by rw [wfS, if_neg (fun z => h52' (z.2 w rfl))]
          rw [wfL, e]
          exact ih (b + 1) (some w) (by omega) hac
        · have h52' := Int32.not_le.mp h52
          refine J_iload (pc := 55) D4_weakestFor_55 rfl ?_
          refine J_istore_n (pc := 57) D4_weakestFor_57 rfl ?_
          refine J_iinc (pc := 58) D4_weakestFor_58 rfl (nI_inc _) rfl ?_
          refine J_goto (pc := 61) (tgt := 5) D4_weakestFor_61 (by decide) ?_
          refine J_lk [(0, .ref 0), (1, .int (nI n)), (2, .int fr), (3, .int (wkI (some b))), (4, .int (nI (b + 1)))] rfl ?_
          have e : wfS T V n fr b (some w) = some b := by rw [wfS, if_pos ⟨h25, fun w1 hw => by cases hw; exact h52'⟩]
          rw [wfL, e]
          exact ih (b + 1) (some b) (by omega) (fun w hw => by cases hw; omega)
theorem c4_endingFirst {d np nb nn n : Nat} {mo fr : Int32} {bo : Nat → Int32} {T : TV} {V : CV} (hT : WT T np nb nn) (hn : n ≤ nn) : TR (d + 2) m4_endingFirst [.ref 0, .int (nI n), .int fr] (srvW mo bo T V) (.int (wkI (enL T fr (nn - n) n none))) := by
  refine Tr.intro (by decide) rfl ?_
  refine J_iconst (pc := 0) (v := (-1)) D4_endingFirst_0 (by decide) ?_
  refine J_istore_n (pc := 1) D4_endingFirst_1 rfl ?_
  refine J_iload_n (pc := 2) D4_endingFirst_2 rfl ?_
  refine J_istore (pc := 3) D4_endingFirst_3 rfl ?_
  exact L4_endingFirst hT (nn - n) n none (by omega) (fun w hw => by cases hw)
theorem c4_weakestFor {d np nb nn n : Nat} {mo fr : Int32} {bo : Nat → Int32} {T : TV} {V : CV} (hT : WT T np nb nn) (hn : n < nn) : TR (d + 2) m4_weakestFor [.ref 0, .int (nI n), .int fr] (srvW mo bo T V) (.int (wkI (wfL T V n fr nb 0 none))) := by
  refine Tr.intro (by decide) rfl ?_
  refine J_iconst (pc := 0) (v := (-1)) D4_weakestFor_0 (by decide) ?_
  refine J_istore_n (pc := 1) D4_weakestFor_1 rfl ?_
  refine J_iconst (pc := 2) (v := (nI 0)) D4_weakestFor_2 (by decide) ?_
  refine J_istore (pc := 3) D4_weakestFor_3 rfl ?_
  exact L4_weakestFor hT hn nb 0 none (by omega) (fun w hw => by cases hw)
theorem enL_lt {T : TV} {dn : Int32} {nn : Nat} : ∀ (g b : Nat) (ac : Option Nat), b + g = nn → (∀ w, ac = some w → w < nn) → ∀ w, enL T dn g b ac = some w → w < nn
  | 0, _, ac, _, h => h
  | g + 1, b, ac, hb, h => enL_lt g (b + 1) _ (by omega) (fun w hw => by
    unfold enS at hw
    split at hw
    · cases hw; omega
    · exact h w hw)
theorem wfL_lt {T : TV} {V : CV} {n : Nat} {fr : Int32} {nb : Nat} : ∀ (g b : Nat) (ac : Option Nat), b + g = nb → (∀ w, ac = some w → w < nb) → ∀ w, wfL T V n fr g b ac = some w → w < nb
  | 0, _, ac, _, h => h
  | g + 1, b, ac, hb, h => wfL_lt g (b + 1) _ (by omega) (fun w hw => by
    unfold wfS at hw
    split at hw
    · cases hw; omega
    · exact h w hw)
abbrev MS3 : Type := Int32 × Int32 × Nat
def mfS (T : TV) (V : CV) (nb nn f : Nat) (S : MS3) : MS3 := match enL T S.1 (nn - f) f none with
  | none => S
  | some n => match wfL T V n S.2.1 nb 0 none with
    | none => (S.1 ||| bt n, S.2.1, S.2.2)
    | some b => (S.1 ||| bt n, S.2.1 &&& (bt b ^^^ -1), S.2.2 + 1)
def mfL (T : TV) (V : CV) (nb nn f : Nat) : Nat → MS3 → MS3
  | 0, S => S
  | g + 1, S => mfL T V nb nn f g (mfS T V nb nn f S)
def mostF (T : TV) (V : CV) (nb nn f : Nat) (fr : Int32) : Nat := (mfL T V nb nn f (nn - f) (nI 0, fr, 0)).2.2
theorem mfS_0 {T : TV} {V : CV} {nb nn f : Nat} {S : MS3} (h : enL T S.1 (nn - f) f none = none) : mfS T V nb nn f S = S := by unfold mfS; rw [h]
theorem mfS_1 {T : TV} {V : CV} {nb nn f n : Nat} {S : MS3} (h : enL T S.1 (nn - f) f none = some n) (h2 : wfL T V n S.2.1 nb 0 none = none) : mfS T V nb nn f S = (S.1 ||| bt n, S.2.1, S.2.2) := by unfold mfS; rw [h]; simp only []; rw [h2]
theorem mfS_2 {T : TV} {V : CV} {nb nn f n b : Nat} {S : MS3} (h : enL T S.1 (nn - f) f none = some n) (h2 : wfL T V n S.2.1 nb 0 none = some b) : mfS T V nb nn f S = (S.1 ||| bt n, S.2.1 &&& (bt b ^^^ -1), S.2.2 + 1) := by unfold mfS; rw [h]; simp only []; rw [h2]
theorem L4_most {d np nb nn f : Nat} {mo : Int32} {bo : Nat → Int32} {T : TV} {V : CV} (hT : WT T np nb nn) (hf : f ≤ nn) : ∀ (g i : Nat) (S : MS3), i + g = nn → J m4_mostFrom (d + 3) 0 0 30 8 [(0, .ref 0), (1, .int (nI f)), (2, .int S.2.1), (3, .int S.1), (4, .int (nI S.2.2)), (5, .int (nI i))] [] (srvW mo bo T V) 0 0 (fun r w' => w' = srvW mo bo T V ∧ r = some (.int (nI (mfL T V nb nn f g S).2.2))) := by
  obtain ⟨-, eb, en, -, hnb, hnn, -⟩ := id hT
  intro g
  induction g with
  | zero =>
    intro i S hi
    refine J_iload (pc := 8) D4_mostFrom_8 rfl ?_
    refine J_aload_n (pc := 10) D4_mostFrom_10 rfl ?_
    refine J_getf (pc := 11) D4_mostFrom_11 fl4_15 rfl rfl ?_
    refine J_getf (pc := 14) D4_mostFrom_14 fl4_37 rfl rfl ?_
    refine J_icmp_ge (pc := 17) (tgt := 74) D4_mostFrom_17 (by decide) (fun h17 => ?_) (fun h17 => absurd (by rw [en]; exact nI_le (by omega) (by omega)) h17)
    refine J_iload (pc := 74) D4_mostFrom_74 rfl ?_
    refine J_iret (pc := 76) D4_mostFrom_76 rfl ?_
    exact ⟨rfl, rfl⟩
  | succ g ih =>
    intro i S hi
    refine J_iload (pc := 8) D4_mostFrom_8 rfl ?_
    refine J_aload_n (pc := 10) D4_mostFrom_10 rfl ?_
    refine J_getf (pc := 11) D4_mostFrom_11 fl4_15 rfl rfl ?_
    refine J_getf (pc := 14) D4_mostFrom_14 fl4_37 rfl rfl ?_
    refine J_icmp_ge (pc := 17) (tgt := 74) D4_mostFrom_17 (by decide) (fun h17 => absurd h17 (by rw [en]; exact nI_ge (by omega) (by omega))) (fun h17 => ?_)
    refine J_aload_n (pc := 20) D4_mostFrom_20 rfl ?_
    refine J_iload_n (pc := 21) D4_mostFrom_21 rfl ?_
    refine J_iload_n (pc := 22) D4_mostFrom_22 rfl ?_
    refine J_callVTR (pc := 23) (ac := [.int _, .int _]) D4_mostFrom_23 m4_endingFirst_v t960 (c4_endingFirst (d := d) hT hf) (by omega) rfl rfl rfl rfl (fun _ => rfl) rfl rfl rfl ?_
    refine J_istore (pc := 26) D4_mostFrom_26 rfl ?_
    refine J_iload (pc := 28) D4_mostFrom_28 rfl ?_
    refine J_iconst (pc := 30) (v := (-1)) D4_mostFrom_30 (by decide) ?_
    refine J_icmp_eq (pc := 31) (tgt := 68) D4_mostFrom_31 (by decide) (fun h31 => ?_) (fun h31 => ?_)
    · have h31' := eq_true h31
      have e1 := wkI_n h31 (fun w hw => by have := enL_lt _ _ _ (show f + (nn - f) = nn by omega) (fun _ h => by cases h) w hw; omega)
      refine J_iinc (pc := 68) D4_mostFrom_68 rfl (nI_inc _) rfl ?_
      refine J_goto (pc := 71) (tgt := 8) D4_mostFrom_71 (by decide) ?_
      have z := ih (i + 1) S (by omega)
      rw [mfL, mfS_0 e1]
      exact J_lk [(0, .ref 0), (1, .int (nI f)), (2, .int S.2.1), (3, .int S.1), (4, .int (nI S.2.2)), (5, .int (nI (i + 1)))] rfl z
    · obtain ⟨n1, e1⟩ := wkI_s h31
      have hn1 := enL_lt _ _ _ (show f + (nn - f) = nn by omega) (fun _ h => by cases h) n1 e1
      rw [e1]
      refine J_iload_n (pc := 34) D4_mostFrom_34 rfl ?_
      refine J_iconst (pc := 35) (v := (nI 1)) D4_mostFrom_35 (by decide) ?_
      refine J_iload (pc := 36) D4_mostFrom_36 rfl ?_
      refine J_ishl (pc := 38) D4_mostFrom_38 ?_
      refine J_ior (pc := 39) D4_mostFrom_39 ?_
      refine J_istore_n (pc := 40) D4_mostFrom_40 rfl ?_
      refine J_aload_n (pc := 41) D4_mostFrom_41 rfl ?_
      refine J_iload (pc := 42) D4_mostFrom_42 rfl ?_
      refine J_iload_n (pc := 44) D4_mostFrom_44 rfl ?_
      refine J_callVTR (pc := 45) (ac := [.int _, .int _]) D4_mostFrom_45 m4_weakestFor_v t964 (c4_weakestFor (d := d) (n := n1) hT hn1) (by omega) rfl rfl rfl rfl (fun _ => rfl) rfl rfl rfl ?_
      refine J_istore (pc := 48) D4_mostFrom_48 rfl ?_
      refine J_iload (pc := 50) D4_mostFrom_50 rfl ?_
      refine J_iconst (pc := 52) (v := (-1)) D4_mostFrom_52 (by decide) ?_
      refine J_icmp_eq (pc := 53) (tgt := 68) D4_mostFrom_53 (by decide) (fun h53 => ?_) (fun h53 => ?_)
      · have h53' := eq_true h53
        have e2 := wkI_n h53 (fun w hw => by have := wfL_lt _ _ _ (show 0 + nb = nb by omega) (fun _ h => by cases h) w hw; omega)
        refine J_iinc (pc := 68) D4_mostFrom_68 rfl (nI_inc _) rfl ?_
        refine J_goto (pc := 71) (tgt := 8) D4_mostFrom_71 (by decide) ?_
        have z := ih (i + 1) (S.1 ||| bt n1, S.2.1, S.2.2) (by omega)
        rw [mfL, mfS_1 e1 e2]
        exact J_lk [(0, .ref 0), (1, .int (nI f)), (2, .int (S.1 ||| bt n1, S.2.1, S.2.2).2.1), (3, .int (S.1 ||| bt n1, S.2.1, S.2.2).1), (4, .int (nI (S.1 ||| bt n1, S.2.1, S.2.2).2.2)), (5, .int (nI (i + 1)))] rfl z
      · obtain ⟨b1, e2⟩ := wkI_s h53
        rw [e2]
        refine J_iload_n (pc := 56) D4_mostFrom_56 rfl ?_
        refine J_iconst (pc := 57) (v := (nI 1)) D4_mostFrom_57 (by decide) ?_
        refine J_iload (pc := 58) D4_mostFrom_58 rfl ?_
        refine J_ishl (pc := 60) D4_mostFrom_60 ?_
        refine J_iconst (pc := 61) (v := (-1)) D4_mostFrom_61 (by decide) ?_
        refine J_ixor (pc := 62) D4_mostFrom_62 ?_
        refine J_iand (pc := 63) D4_mostFrom_63 ?_
        refine J_istore_n (pc := 64) D4_mostFrom_64 rfl ?_
        refine J_iinc (pc := 65) D4_mostFrom_65 rfl (nI_inc _) rfl ?_
        refine J_iinc (pc := 68) D4_mostFrom_68 rfl (nI_inc _) rfl ?_
        refine J_goto (pc := 71) (tgt := 8) D4_mostFrom_71 (by decide) ?_
        have z := ih (i + 1) (S.1 ||| bt n1, S.2.1 &&& (bt b1 ^^^ -1), S.2.2 + 1) (by omega)
        rw [mfL, mfS_2 e1 e2]
        exact J_lk [(0, .ref 0), (1, .int (nI f)), (2, .int (S.1 ||| bt n1, S.2.1 &&& (bt b1 ^^^ -1), S.2.2 + 1).2.1), (3, .int (S.1 ||| bt n1, S.2.1 &&& (bt b1 ^^^ -1), S.2.2 + 1).1), (4, .int (nI (S.1 ||| bt n1, S.2.1 &&& (bt b1 ^^^ -1), S.2.2 + 1).2.2)), (5, .int (nI (i + 1)))] rfl z
theorem c4_mostFrom {d np nb nn f : Nat} {mo fr : Int32} {bo : Nat → Int32} {T : TV} {V : CV} (hT : WT T np nb nn) (hf : f ≤ nn) : TR (d + 3) m4_mostFrom [.ref 0, .int (nI f), .int fr] (srvW mo bo T V) (.int (nI (mostF T V nb nn f fr))) := by
  refine Tr.intro (by decide) rfl ?_
  refine J_iconst (pc := 0) (v := (nI 0)) D4_mostFrom_0 (by decide) ?_
  refine J_istore_n (pc := 1) D4_mostFrom_1 rfl ?_
  refine J_iconst (pc := 2) (v := (nI 0)) D4_mostFrom_2 (by decide) ?_
  refine J_istore (pc := 3) D4_mostFrom_3 rfl ?_
  refine J_iload_n (pc := 5) D4_mostFrom_5 rfl ?_
  refine J_istore (pc := 6) D4_mostFrom_6 rfl ?_
  refine J_lk [(0, .ref 0), (1, .int (nI f)), (2, .int fr), (3, .int (nI 0)), (4, .int (nI 0)), (5, .int (nI f))] rfl ?_
  exact L4_most hT hf (nn - f) f (nI 0, fr, 0) (by omega)
def chB (T : TV) (V : CV) (nb nn n : Nat) (fr : Int32) (l b : Nat) : Bool := ftB T V n b fr && Nat.beq (1 + mostF T V nb nn (n + 1) (fr &&& (bt b ^^^ -1))) l
def chL (T : TV) (V : CV) (nb nn n : Nat) (fr : Int32) (l : Nat) : Nat → Nat → Option Nat
  | 0, _ => none
  | g + 1, b => bif chB T V nb nn n fr l b then some b else chL T V nb nn n fr l g (b + 1)
theorem mfL_le {T : TV} {V : CV} {nb nn f : Nat} : ∀ (g : Nat) (S : MS3), (mfL T V nb nn f g S).2.2 ≤ S.2.2 + g
  | 0, _ => Nat.le_refl _
  | g + 1, S => by
    have h := mfL_le g (mfS T V nb nn f S) (T := T) (V := V) (nb := nb) (nn := nn) (f := f)
    have h2 : (mfS T V nb nn f S).2.2 ≤ S.2.2 + 1 := by
      unfold mfS
      split
      · omega
      · split
        · show S.2.2 ≤ S.2.2 + 1; omega
        · exact Nat.le_refl _
    show (mfL T V nb nn f g (mfS T V nb nn f S)).2.2 ≤ _
    omega
theorem mostF_le {T : TV} {V : CV} {nb nn f : Nat} {fr : Int32} : mostF T V nb nn f fr ≤ nn := by
  have := mfL_le (T := T) (V := V) (nb := nb) (nn := nn) (f := f) (nn - f) (nI 0, fr, 0)
  have h2 : (mfL T V nb nn f (nn - f) (nI 0, fr, 0)).2.2 ≤ 0 + (nn - f) := this
  unfold mostF
  omega
theorem L4_choose {d np nb nn n l : Nat} {mo fr : Int32} {bo : Nat → Int32} {T : TV} {V : CV} (hT : WT T np nb nn) (hn : n < nn) (hl9 : l ≤ 8) : ∀ (g b : Nat), b + g = nb → J m4_choose (d + 4) 0 0 30 3 [(0, .ref 0), (1, .int (nI n)), (2, .int fr), (3, .int (nI l)), (4, .int (nI b))] [] (srvW mo bo T V) 0 0 (fun r w' => w' = srvW mo bo T V ∧ r = some (.int (wkI (chL T V nb nn n fr l g b)))) := by
  obtain ⟨-, eb, en, -, hnb, hnn, -⟩ := id hT
  intro g
  induction g with
  | zero =>
    intro b hb
    refine J_iload (pc := 3) D4_choose_3 rfl ?_
    refine J_aload_n (pc := 5) D4_choose_5 rfl ?_
    refine J_getf (pc := 6) D4_choose_6 fl4_15 rfl rfl ?_
    refine J_getf (pc := 9) D4_choose_9 fl4_46 rfl rfl ?_
    refine J_icmp_ge (pc := 12) (tgt := 56) D4_choose_12 (by decide) (fun h12 => ?_) (fun h12 => absurd (by rw [eb]; exact nI_le (by omega) (by omega)) h12)
    refine J_iconst (pc := 56) (v := (-1)) D4_choose_56 (by decide) ?_
    refine J_iret (pc := 57) D4_choose_57 rfl ?_
    exact ⟨rfl, rfl⟩
  | succ g ih =>
    intro b hb
    have hml := mostF_le (T := T) (V := V) (nb := nb) (nn := nn) (f := n + 1) (fr := fr &&& (bt b ^^^ -1))
    refine J_iload (pc := 3) D4_choose_3 rfl ?_
    refine J_aload_n (pc := 5) D4_choose_5 rfl ?_
    refine J_getf (pc := 6) D4_choose_6 fl4_15 rfl rfl ?_
    refine J_getf (pc := 9) D4_choose_9 fl4_46 rfl rfl ?_
    refine J_icmp_ge (pc := 12) (tgt := 56) D4_choose_12 (by decide) (fun h12 => absurd h12 (by rw [eb]; exact nI_ge (by omega) (by omega))) (fun h12 => ?_)
    refine J_aload_n (pc := 15) D4_choose_15 rfl ?_
    refine J_iload_n (pc := 16) D4_choose_16 rfl ?_
    refine J_iload (pc := 17) D4_choose_17 rfl ?_
    refine J_iload_n (pc := 19) D4_choose_19 rfl ?_
    refine J_callVTR (pc := 20) (ac := [.int _, .int _, .int _]) D4_choose_20 m4_fits_v t968 (c4_fits (d := d + 2) (n := n) (b := b) (fr := fr) (by omega) (by omega)) (by omega) rfl rfl rfl rfl (fun _ => rfl) rfl rfl rfl ?_
    refine J_if_eq (pc := 23) (tgt := 50) D4_choose_23 (by decide) (fun h23 => ?_) (fun h23 => ?_)
    · have h23' := eq_true h23
      replace h23 := i01_z h23
      refine J_iinc (pc := 50) D4_choose_50 rfl (nI_inc _) rfl ?_
      refine J_goto (pc := 53) (tgt := 3) D4_choose_53 (by decide) ?_
      have e : chB T V nb nn n fr l b = false := by unfold chB; rw [Bool.eq_false_iff.mpr h23]; rfl
      rw [chL, e]
      exact ih (b + 1) (by omega)
    · replace h23 := i01_nz h23
      refine J_iconst (pc := 26) (v := (nI 1)) D4_choose_26 (by decide) ?_
      refine J_aload_n (pc := 27) D4_choose_27 rfl ?_
      refine J_iload_n (pc := 28) D4_choose_28 rfl ?_
      refine J_iconst (pc := 29) (v := (nI 1)) D4_choose_29 (by decide) ?_
      refine J_iadd (pc := 30) D4_choose_30 ?_
      refine J_st [.int (nI (n + 1)), .ref 0, .int (nI 1)] (by rw [show nI n + nI 1 = nI (n + 1) from nI_1 n]) ?_
      refine J_iload_n (pc := 31) D4_choose_31 rfl ?_
      refine J_iconst (pc := 32) (v := (nI 1)) D4_choose_32 (by decide) ?_
      refine J_iload (pc := 33) D4_choose_33 rfl ?_
      refine J_ishl (pc := 35) D4_choose_35 ?_
      refine J_iconst (pc := 36) (v := (-1)) D4_choose_36 (by decide) ?_
      refine J_ixor (pc := 37) D4_choose_37 ?_
      refine J_iand (pc := 38) D4_choose_38 ?_
      refine J_callVTR (pc := 39) (ac := [.int _, .int _]) (rest := [_]) D4_choose_39 m4_mostFrom_v t956 (c4_mostFrom (d := d) (f := n + 1) (fr := fr &&& (bt b ^^^ -1)) hT (by omega)) (by omega) rfl rfl rfl rfl (fun _ => rfl) rfl rfl rfl ?_
      refine J_iadd (pc := 42) D4_choose_42 ?_
      refine J_iload_n (pc := 43) D4_choose_43 rfl ?_
      refine J_icmp_ne (pc := 44) (tgt := 50) D4_choose_44 (by decide) (fun h44 => ?_) (fun h44 => ?_)
      · replace h44 := fun z => h44 (by rw [nI_add]; exact congrArg nI z)
        refine J_iinc (pc := 50) D4_choose_50 rfl (nI_inc _) rfl ?_
        refine J_goto (pc := 53) (tgt := 3) D4_choose_53 (by decide) ?_
        have e : chB T V nb nn n fr l b = false := by unfold chB; rw [nbf.mpr h44, Bool.and_false]
        rw [chL, e]
        exact ih (b + 1) (by omega)
      · have h44' := eq_true h44
        replace h44 := (nI_eq (by omega) (by omega)).mp ((nI_add _ _).symm.trans h44)
        refine J_iload (pc := 47) D4_choose_47 rfl ?_
        refine J_iret (pc := 49) D4_choose_49 rfl ?_
        have e : chB T V nb nn n fr l b = true := by unfold chB; rw [h23, h44]; exact Nat.beq_refl _
        refine ⟨rfl, ?_⟩
        rw [chL, e]
        rfl
theorem c4_choose {d np nb nn n l : Nat} {mo fr : Int32} {bo : Nat → Int32} {T : TV} {V : CV} (hT : WT T np nb nn) (hn : n < nn) (hl9 : l ≤ 8) : TR (d + 4) m4_choose [.ref 0, .int (nI n), .int fr, .int (nI l)] (srvW mo bo T V) (.int (wkI (chL T V nb nn n fr l nb 0))) := by
  refine Tr.intro (by decide) rfl ?_
  refine J_iconst (pc := 0) (v := (nI 0)) D4_choose_0 (by decide) ?_
  refine J_istore (pc := 1) D4_choose_1 rfl ?_
  exact L4_choose hT hn hl9 nb 0 (by omega)
theorem chL_lt {T : TV} {V : CV} {nb nn n : Nat} {fr : Int32} {l : Nat} : ∀ (g b w : Nat), b + g = nb → chL T V nb nn n fr l g b = some w → w < nb ∧ 0 < l
  | 0, _, _, _, h => by cases h
  | g + 1, b, w, hb, h => by
    unfold chL at h
    cases hc : chB T V nb nn n fr l b with
    | true =>
      rw [hc] at h
      cases h
      refine ⟨by omega, ?_⟩
      unfold chB at hc
      have := (Bool.and_eq_true _ _ ▸ hc : _ ∧ _).2
      have := Nat.eq_of_beq_eq_true this
      omega
    | false =>
      rw [hc] at h
      exact chL_lt g (b + 1) w (by omega) h
/-- free, left, bottleOf -/
abbrev AS3 : Type := Int32 × Nat × (Nat → Int32)
def arS (T : TV) (V : CV) (nb nn n : Nat) (S : AS3) : AS3 := match chL T V nb nn n S.1 S.2.1 nb 0 with
  | none => (S.1, S.2.1, upd S.2.2 n (-1))
  | some b => (S.1 &&& (bt b ^^^ -1), S.2.1 - 1, upd S.2.2 n (nI b))
def arL (T : TV) (V : CV) (nb nn : Nat) : Nat → Nat → AS3 → AS3
  | 0, _, S => S
  | g + 1, n, S => arL T V nb nn g (n + 1) (arS T V nb nn n S)
theorem arS_0 {T : TV} {V : CV} {nb nn n : Nat} {S : AS3} (h : chL T V nb nn n S.1 S.2.1 nb 0 = none) : arS T V nb nn n S = (S.1, S.2.1, upd S.2.2 n (-1)) := by unfold arS; rw [h]
theorem arS_1 {T : TV} {V : CV} {nb nn n b : Nat} {S : AS3} (h : chL T V nb nn n S.1 S.2.1 nb 0 = some b) : arS T V nb nn n S = (S.1 &&& (bt b ^^^ -1), S.2.1 - 1, upd S.2.2 n (nI b)) := by unfold arS; rw [h]
theorem L4_arr {d np nb nn : Nat} {mo : Int32} {T : TV} {V : CV} (hT : WT T np nb nn) : ∀ (g n : Nat) (S : AS3), n + g = nn → S.2.1 ≤ 8 → J m4_arrange (d + 5) 0 0 30 36 [(0, .ref 0), (1, .ref 2), (2, .ref 20), (3, .int S.1), (4, .int (nI S.2.1)), (5, .int (nI n))] [] (srvW mo S.2.2 T V) 0 0 (fun r w' => r = none ∧ w' = srvW mo (arL T V nb nn g n S).2.2 T V) := by
  obtain ⟨-, eb, en, -, hnb, hnn, -⟩ := id hT
  intro g
  induction g with
  | zero =>
    intro n S hn hS
    refine J_iload (pc := 36) D4_arrange_36 rfl ?_
    refine J_aload_n (pc := 38) D4_arrange_38 rfl ?_
    refine J_getf (pc := 39) D4_arrange_39 fl4_15 rfl rfl ?_
    refine J_getf (pc := 42) D4_arrange_42 fl4_37 rfl rfl ?_
    refine J_icmp_ge (pc := 45) (tgt := 92) D4_arrange_45 (by decide) (fun h45 => ?_) (fun h45 => absurd (by rw [en]; exact nI_le (by omega) (by omega)) h45)
    refine J_vret (pc := 92) D4_arrange_92 rfl ?_
    exact ⟨rfl, rfl⟩
  | succ g ih =>
    intro n S hn hS
    refine J_iload (pc := 36) D4_arrange_36 rfl ?_
    refine J_aload_n (pc := 38) D4_arrange_38 rfl ?_
    refine J_getf (pc := 39) D4_arrange_39 fl4_15 rfl rfl ?_
    refine J_getf (pc := 42) D4_arrange_42 fl4_37 rfl rfl ?_
    refine J_icmp_ge (pc := 45) (tgt := 92) D4_arrange_45 (by decide) (fun h45 => absurd h45 (by rw [en]; exact nI_ge (by omega) (by omega))) (fun h45 => ?_)
    refine J_aload_n (pc := 48) D4_arrange_48 rfl ?_
    refine J_iload (pc := 49) D4_arrange_49 rfl ?_
    refine J_iload_n (pc := 51) D4_arrange_51 rfl ?_
    refine J_iload (pc := 52) D4_arrange_52 rfl ?_
    refine J_callVTR (pc := 54) (ac := [.int _, .int _, .int _]) D4_arrange_54 m4_choose_v t973 (c4_choose (d := d) (n := n) (l := S.2.1) hT (by omega) hS) (by omega) rfl rfl rfl rfl (fun _ => rfl) rfl rfl rfl ?_
    refine J_istore (pc := 57) D4_arrange_57 rfl ?_
    refine J_aload_n (pc := 59) D4_arrange_59 rfl ?_
    refine J_getf (pc := 60) D4_arrange_60 fl4_9 rfl rfl ?_
    refine J_iload (pc := 63) D4_arrange_63 rfl ?_
    refine J_iload (pc := 65) D4_arrange_65 rfl ?_
    refine J_iast (pc := 67) D4_arrange_67 rfl rfl (by omega) rfl ?_
    refine J_iload (pc := 68) D4_arrange_68 rfl ?_
    refine J_iconst (pc := 70) (v := (-1)) D4_arrange_70 (by decide) ?_
    refine J_icmp_eq (pc := 71) (tgt := 86) D4_arrange_71 (by decide) (fun h71 => ?_) (fun h71 => ?_)
    · have h71' := eq_true h71
      have e1 := wkI_n h71 (fun w hw => by have := (chL_lt _ _ _ (show 0 + nb = nb by omega) hw).1; omega)
      refine J_iinc (pc := 86) D4_arrange_86 rfl (nI_inc _) rfl ?_
      refine J_goto (pc := 89) (tgt := 36) D4_arrange_89 (by decide) ?_
      rw [e1]
      have z := ih (n + 1) (S.1, S.2.1, upd S.2.2 n (-1)) (by omega) hS
      rw [arL, arS_0 e1]
      exact J_lk [(0, .ref 0), (1, .ref 2), (2, .ref 20), (3, .int S.1), (4, .int (nI S.2.1)), (5, .int (nI (n + 1)))] rfl (J_w (w2 := srvW mo (upd S.2.2 n (-1)) T V) rfl z)
    · obtain ⟨b1, e1⟩ := wkI_s h71
      have hb1 := chL_lt _ _ _ (show 0 + nb = nb by omega) e1
      rw [e1]
      refine J_iload_n (pc := 74) D4_arrange_74 rfl ?_
      refine J_iconst (pc := 75) (v := (nI 1)) D4_arrange_75 (by decide) ?_
      refine J_iload (pc := 76) D4_arrange_76 rfl ?_
      refine J_ishl (pc := 78) D4_arrange_78 ?_
      refine J_iconst (pc := 79) (v := (-1)) D4_arrange_79 (by decide) ?_
      refine J_ixor (pc := 80) D4_arrange_80 ?_
      refine J_iand (pc := 81) D4_arrange_81 ?_
      refine J_istore_n (pc := 82) D4_arrange_82 rfl ?_
      refine J_iinc (pc := 83) D4_arrange_83 rfl (nI_dec hb1.2) rfl ?_
      refine J_iinc (pc := 86) D4_arrange_86 rfl (nI_inc _) rfl ?_
      refine J_goto (pc := 89) (tgt := 36) D4_arrange_89 (by decide) ?_
      have z := ih (n + 1) (S.1 &&& (bt b1 ^^^ -1), S.2.1 - 1, upd S.2.2 n (nI b1)) (by omega) (by show S.2.1 - 1 ≤ 8; omega)
      rw [arL, arS_1 e1]
      exact J_lk [(0, .ref 0), (1, .ref 2), (2, .ref 20), (3, .int (S.1 &&& (bt b1 ^^^ -1))), (4, .int (nI (S.2.1 - 1))), (5, .int (nI (n + 1)))] rfl (J_w (w2 := srvW mo (upd S.2.2 n (nI b1)) T V) rfl z)
def arF (T : TV) (V : CV) (nb nn : Nat) (bo : Nat → Int32) : Nat → Int32 := (arL T V nb nn nn 0 (bitsF (V.2.2.2 3) (nI 0) 10, mostF T V nb nn 0 (bitsF (V.2.2.2 3) (nI 0) 10), bo)).2.2
theorem c4_arrange {d np nb nn : Nat} {t c : Value} {mo : Int32} {bo : Nat → Int32} {T : TV} {V : CV} (hT : WT T np nb nn) : Tr (d + 5) 0 0 m4_arrange [.ref 0, .ref 2, .ref 20] (.inr (4, [t, c, .int mo, .ref 1]) :: iA 8 bo :: (toldC 2 T ++ celC 20 V)) (fun r w' => r = none ∧ w' = srvW (nI (mostF T V nb nn 0 (bitsF (V.2.2.2 3) (nI 0) 10))) (arF T V nb nn bo) T V) := by
  have hnn := hT.2.2.2.2.2.1
  have hml := mostF_le (T := T) (V := V) (nb := nb) (nn := nn) (f := 0) (fr := bitsF (V.2.2.2 3) (nI 0) 10)
  refine Tr.intro (by decide) rfl ?_
  refine J_aload_n (pc := 0) D4_arrange_0 rfl ?_
  refine J_aload_n (pc := 1) D4_arrange_1 rfl ?_
  refine J_putf (pc := 2) D4_arrange_2 fp4_15 rfl Fit.obj rfl ?_
  refine J_aload_n (pc := 5) D4_arrange_5 rfl ?_
  refine J_aload_n (pc := 6) D4_arrange_6 rfl ?_
  refine J_putf (pc := 7) D4_arrange_7 fp4_19 rfl Fit.obj rfl ?_
  refine J_w (w2 := srvW mo bo T V) rfl ?_
  refine J_aload_n (pc := 10) D4_arrange_10 rfl ?_
  refine J_getf (pc := 11) D4_arrange_11 fl4_19 rfl rfl ?_
  refine J_iconst (pc := 14) (v := (nI 0)) D4_arrange_14 (by decide) ?_
  refine J_callVR (pc := 15) (ι := [20, 21, 22, 23, 24, 25, 26, 27, 28, 29]) (ac := [.int _]) D4_arrange_15 m0_bits_v t955 (c0_bits (d := d + 4) (V := V)) (by omega) rfl rfl ⟨rfl, rfl⟩ rfl rfl (fun _ => rfl) rfl rfl rfl ?_
  refine J_istore_n (pc := 18) D4_arrange_18 rfl ?_
  refine J_aload_n (pc := 19) D4_arrange_19 rfl ?_
  refine J_iconst (pc := 20) (v := (nI 0)) D4_arrange_20 (by decide) ?_
  refine J_iload_n (pc := 21) D4_arrange_21 rfl ?_
  refine J_callVTR (pc := 22) (ac := [.int _, .int _]) D4_arrange_22 m4_mostFrom_v t956 (c4_mostFrom (d := d + 1) (f := 0) hT (by omega)) (by omega) rfl rfl rfl rfl (fun _ => rfl) rfl rfl rfl ?_
  refine J_istore (pc := 25) D4_arrange_25 rfl ?_
  refine J_aload_n (pc := 27) D4_arrange_27 rfl ?_
  refine J_iload (pc := 28) D4_arrange_28 rfl ?_
  refine J_putf (pc := 30) D4_arrange_30 fp4_33 rfl Fit.int rfl ?_
  refine J_w (w2 := srvW (nI (mostF T V nb nn 0 (bitsF (V.2.2.2 3) (nI 0) 10))) bo T V) rfl ?_
  refine J_iconst (pc := 33) (v := (nI 0)) D4_arrange_33 (by decide) ?_
  refine J_istore (pc := 34) D4_arrange_34 rfl ?_
  exact L4_arr hT nn 0 (bitsF (V.2.2.2 3) (nI 0) 10, mostF T V nb nn 0 (bitsF (V.2.2.2 3) (nI 0) 10), bo) (by omega) (Nat.le_trans hml hnn)
