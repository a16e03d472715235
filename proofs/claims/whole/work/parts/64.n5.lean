/-! THE MODEL: answers 4 (own program mod_n5.py) -/
theorem L10_pourI {d : Nat} {s : Nat → Int32} {A : Nat → Nat → Int32} {L : LL} {M : Nat → MR} {T : TV} {np nb nn : Nat} (hR : RT A T np nb nn) (hT : WT T np nb nn) {V : CV} (hC : CR False np nb nn (M 0) V) {f t : Int32} {a : Nat} (ha : a < nb) {Q : Option Value → List EC → Prop} : ∀ (g b : Nat), b + g = nb → (poI V f t a g b = none → J m10_pour (d + 1) 0 0 40 117 [(0, .ref 0), (1, .int f), (2, .int t), (3, .int (nI a))] [] (modW s A L M) 0 0 Q) → (∀ c, poI V f t a g b = some c → Q (some (.int (nI 10 * nI a + nI c))) (modW s A L M)) → J m10_pour (d + 1) 0 0 40 40 [(0, .ref 0), (1, .int f), (2, .int t), (3, .int (nI a)), (4, .int (nI b))] [] (modW s A L M) 0 0 Q := by
  have hnb := hT.2.2.2.2.1
  have hnp := hT.2.2.2.1
  have hnn := hT.2.2.2.2.2.1
  have ela := hC.ly ha
  have e1a := (hC.2.2.2.1 a ha).2.1
  intro g
  induction g with
  | zero =>
    intro b hb K1 K2
    refine J_iload (pc := 40) D10_pour_40 rfl ?_
    refine J_aload_n (pc := 42) D10_pour_42 rfl ?_
    refine J_getf (pc := 43) D10_pour_43 fl10_13 rfl rfl ?_
    refine J_iconst (pc := 46) (v := (nI 1)) D10_pour_46 (by decide) ?_
    refine J_mald (pc := 47) D10_pour_47 ma_3 rfl (by omega) rfl ?_
    refine J_st [.int (nI nb), .int (nI b)] (by rw [← hR.2.1]) ?_
    refine J_icmp_ge (pc := 48) (tgt := 117) D10_pour_48 (by decide) (fun h48 => ?_) (fun h48 => absurd (nI_le (by omega) (by omega)) h48)
    refine J_lk [(0, .ref 0), (1, .int f), (2, .int t), (3, .int (nI a))] rfl ?_
    exact K1 rfl
  | succ g ih =>
    intro b hb K1 K2
    have elb := hC.ly (b := b) (by omega)
    have e1b := (hC.2.2.2.1 b (by omega)).2.1
    refine J_iload (pc := 40) D10_pour_40 rfl ?_
    refine J_aload_n (pc := 42) D10_pour_42 rfl ?_
    refine J_getf (pc := 43) D10_pour_43 fl10_13 rfl rfl ?_
    refine J_iconst (pc := 46) (v := (nI 1)) D10_pour_46 (by decide) ?_
    refine J_mald (pc := 47) D10_pour_47 ma_3 rfl (by omega) rfl ?_
    refine J_st [.int (nI nb), .int (nI b)] (by rw [← hR.2.1]) ?_
    refine J_icmp_ge (pc := 48) (tgt := 117) D10_pour_48 (by decide) (fun h48 => absurd h48 (nI_ge (by omega) (by omega))) (fun h48 => ?_)
    refine J_aload_n (pc := 51) D10_pour_51 rfl ?_
    refine J_iconst (pc := 52) (v := (nI 0)) D10_pour_52 (by decide) ?_
    refine J_iload_n (pc := 53) D10_pour_53 rfl ?_
    refine J_callVTR (pc := 54) (ac := [.int _, .int _]) D10_pour_54 m10_isLying_v t1583 (c10_isLying (d := d) (c := 0) (b := a) (by decide) (by omega)) (by omega) rfl rfl rfl rfl (fun _ => rfl) rfl rfl rfl ?_
    refine J_if_eq (pc := 57) (tgt := 111) D10_pour_57 (by decide) (fun h57 => ?_) (fun h57 => ?_)
    · have h57' := eq_true h57
      replace h57 := i01_z h57
      refine J_iinc (pc := 111) D10_pour_111 rfl (nI_inc _) rfl ?_
      refine J_goto (pc := 114) (tgt := 40) D10_pour_114 (by decide) ?_
      have e9 : poC V f t a b = false := by
        unfold poC
        rw [decide_eq_false (fun q => h57 (ela.mpr q))]; rfl
      refine J_lk [(0, .ref 0), (1, .int f), (2, .int t), (3, .int (nI a)), (4, .int (nI (b + 1)))] rfl ?_
      exact ih (b + 1) (by omega) (fun q => K1 (by rw [poI, e9]; exact q)) (fun c q => K2 c (by rw [poI, e9]; exact q))
    · replace h57 := i01_nz h57
      refine J_aload_n (pc := 60) D10_pour_60 rfl ?_
      refine J_iconst (pc := 61) (v := (nI 0)) D10_pour_61 (by decide) ?_
      refine J_iload (pc := 62) D10_pour_62 rfl ?_
      refine J_callVTR (pc := 64) (ac := [.int _, .int _]) D10_pour_64 m10_isLying_v t1583 (c10_isLying (d := d) (c := 0) (b := b) (by decide) (by omega)) (by omega) rfl rfl rfl rfl (fun _ => rfl) rfl rfl rfl ?_
      refine J_if_ne (pc := 67) (tgt := 73) D10_pour_67 (by decide) (fun h67 => ?_) (fun h67 => ?_)
      · replace h67 := i01_nz h67
        refine J_aload_n (pc := 73) D10_pour_73 rfl ?_
        refine J_getf (pc := 74) D10_pour_74 fl10_87 rfl rfl ?_
        refine J_iload_n (pc := 77) D10_pour_77 rfl ?_
        refine J_mcld (pc := 78) (stp := 10) D10_pour_78 mc_1 (ix0 _ _) (by omega) (by omega) rfl ?_
        refine J_aload_n (pc := 79) D10_pour_79 rfl ?_
        refine J_getf (pc := 80) D10_pour_80 fl10_87 rfl rfl ?_
        refine J_iload (pc := 83) D10_pour_83 rfl ?_
        refine J_mcld (pc := 85) (stp := 10) D10_pour_85 mc_1 (ix0 _ _) (by omega) (by omega) rfl ?_
        rw [e1a, e1b]
        refine J_iadd (pc := 86) D10_pour_86 ?_
        refine J_iconst (pc := 87) (v := (nI 2)) D10_pour_87 (by decide) ?_
        refine J_idiv (pc := 88) D10_pour_88 (by decide) ?_
        refine J_istore (pc := 89) D10_pour_89 rfl ?_
        refine J_iload (pc := 91) D10_pour_91 rfl ?_
        refine J_iload_n (pc := 93) D10_pour_93 rfl ?_
        refine J_icmp_lt (pc := 94) (tgt := 111) D10_pour_94 (by decide) (fun h94 => ?_) (fun h94 => ?_)
        · have h94' := Int32.not_le.mpr h94
          refine J_iinc (pc := 111) D10_pour_111 rfl (nI_inc _) rfl ?_
          refine J_goto (pc := 114) (tgt := 40) D10_pour_114 (by decide) ?_
          have e9 : poC V f t a b = false := by
            unfold poC
            rw [decide_eq_false (p := f ≤ _ ∧ _) (fun q => absurd q.1 (Int32.not_le.mpr h94))]; simp
          refine J_lk [(0, .ref 0), (1, .int f), (2, .int t), (3, .int (nI a)), (4, .int (nI (b + 1)))] rfl ?_
          exact ih (b + 1) (by omega) (fun q => K1 (by rw [poI, e9]; exact q)) (fun c q => K2 c (by rw [poI, e9]; exact q))
        · have h94' := Int32.not_lt.mp h94
          refine J_iload (pc := 97) D10_pour_97 rfl ?_
          refine J_iload_n (pc := 99) D10_pour_99 rfl ?_
          refine J_icmp_gt (pc := 100) (tgt := 111) D10_pour_100 (by decide) (fun h100 => ?_) (fun h100 => ?_)
          · have h100' := Int32.not_le.mpr h100
            refine J_iinc (pc := 111) D10_pour_111 rfl (nI_inc _) rfl ?_
            refine J_goto (pc := 114) (tgt := 40) D10_pour_114 (by decide) ?_
            have e9 : poC V f t a b = false := by
              unfold poC
              rw [decide_eq_false (p := f ≤ _ ∧ _) (fun q => absurd q.2 (Int32.not_le.mpr h100))]; simp
            refine J_lk [(0, .ref 0), (1, .int f), (2, .int t), (3, .int (nI a)), (4, .int (nI (b + 1)))] rfl ?_
            exact ih (b + 1) (by omega) (fun q => K1 (by rw [poI, e9]; exact q)) (fun c q => K2 c (by rw [poI, e9]; exact q))
          · have h100' := Int32.not_lt.mp h100
            refine J_bipush (pc := 103) (v := (nI 10)) D10_pour_103 (by decide) ?_
            refine J_iload_n (pc := 105) D10_pour_105 rfl ?_
            refine J_imul (pc := 106) D10_pour_106 ?_
            refine J_iload (pc := 107) D10_pour_107 rfl ?_
            refine J_iadd (pc := 109) D10_pour_109 ?_
            refine J_iret (pc := 110) D10_pour_110 rfl ?_
            refine K2 b ?_
            rw [poI, show poC V f t a b = true from by unfold poC; rw [decide_eq_true (ela.mp h57), decide_eq_true (elb.mp h67), decide_eq_true ⟨Int32.not_lt.mp h94, Int32.not_lt.mp h100⟩]; rfl]
            rfl
      · have h67' := eq_true h67
        replace h67 := i01_z h67
        refine J_goto (pc := 70) (tgt := 111) D10_pour_70 (by decide) ?_
        refine J_iinc (pc := 111) D10_pour_111 rfl (nI_inc _) rfl ?_
        refine J_goto (pc := 114) (tgt := 40) D10_pour_114 (by decide) ?_
        have e9 : poC V f t a b = false := by
          unfold poC
          rw [decide_eq_false (p := V.2.2.2 3 b = 0) (fun q => h67 (elb.mpr q))]; simp
        refine J_lk [(0, .ref 0), (1, .int f), (2, .int t), (3, .int (nI a)), (4, .int (nI (b + 1)))] rfl ?_
        exact ih (b + 1) (by omega) (fun q => K1 (by rw [poI, e9]; exact q)) (fun c q => K2 c (by rw [poI, e9]; exact q))
theorem L10_pour {d : Nat} {s : Nat → Int32} {A : Nat → Nat → Int32} {L : LL} {M : Nat → MR} {T : TV} {np nb nn : Nat} (hR : RT A T np nb nn) (hT : WT T np nb nn) {V : CV} (hC : CR False np nb nn (M 0) V) {f t : Int32} : ∀ (g a : Nat), a + g = nb → J m10_pour (d + 1) 0 0 40 25 [(0, .ref 0), (1, .int f), (2, .int t), (3, .int (nI a))] [] (modW s A L M) 0 0 (fun r w' => w' = modW s A L M ∧ r = some (.int (poO V f t nb g a))) := by
  have hnb := hT.2.2.2.2.1
  have hnp := hT.2.2.2.1
  have hnn := hT.2.2.2.2.2.1
  intro g
  induction g with
  | zero =>
    intro a ha
    refine J_iload_n (pc := 25) D10_pour_25 rfl ?_
    refine J_aload_n (pc := 26) D10_pour_26 rfl ?_
    refine J_getf (pc := 27) D10_pour_27 fl10_13 rfl rfl ?_
    refine J_iconst (pc := 30) (v := (nI 1)) D10_pour_30 (by decide) ?_
    refine J_mald (pc := 31) D10_pour_31 ma_3 rfl (by omega) rfl ?_
    refine J_st [.int (nI nb), .int (nI a)] (by rw [← hR.2.1]) ?_
    refine J_icmp_ge (pc := 32) (tgt := 123) D10_pour_32 (by decide) (fun h32 => ?_) (fun h32 => absurd (nI_le (by omega) (by omega)) h32)
    refine J_bipush (pc := 123) (v := (-2)) D10_pour_123 (by decide) ?_
    refine J_iret (pc := 125) D10_pour_125 rfl ?_
    exact ⟨rfl, rfl⟩
  | succ g ih =>
    intro a ha
    refine J_iload_n (pc := 25) D10_pour_25 rfl ?_
    refine J_aload_n (pc := 26) D10_pour_26 rfl ?_
    refine J_getf (pc := 27) D10_pour_27 fl10_13 rfl rfl ?_
    refine J_iconst (pc := 30) (v := (nI 1)) D10_pour_30 (by decide) ?_
    refine J_mald (pc := 31) D10_pour_31 ma_3 rfl (by omega) rfl ?_
    refine J_st [.int (nI nb), .int (nI a)] (by rw [← hR.2.1]) ?_
    refine J_icmp_ge (pc := 32) (tgt := 123) D10_pour_32 (by decide) (fun h32 => absurd h32 (nI_ge (by omega) (by omega))) (fun h32 => ?_)
    refine J_iload_n (pc := 35) D10_pour_35 rfl ?_
    refine J_iconst (pc := 36) (v := (nI 1)) D10_pour_36 (by decide) ?_
    refine J_iadd (pc := 37) D10_pour_37 ?_
    refine J_istore (pc := 38) D10_pour_38 rfl ?_
    refine J_lk [(0, .ref 0), (1, .int f), (2, .int t), (3, .int (nI a)), (4, .int (nI (a + 1)))] (by rw [← nI_add]; rfl) ?_
    refine L10_pourI hR hT hC (by omega) (nb - (a + 1)) (a + 1) (by omega) (fun q => ?_) (fun c q => ?_)
    · rw [poO, q]
      refine J_iinc (pc := 117) D10_pour_117 rfl (nI_inc _) rfl ?_
      refine J_goto (pc := 120) (tgt := 25) D10_pour_120 (by decide) ?_
      exact ih (a + 1) (by omega)
    · exact ⟨rfl, by rw [poO, q]⟩
theorem c10_pour {d : Nat} {s : Nat → Int32} {A : Nat → Nat → Int32} {L : LL} {M : Nat → MR} {T : TV} {np nb nn : Nat} (hR : RT A T np nb nn) (hT : WT T np nb nn) {V : CV} (hC : CR False np nb nn (M 0) V) {f t : Int32} : Tr (d + 1) 0 0 m10_pour [.ref 0, .int f, .int t] (modW s A L M) (mR s A M (.int (pouF V nb f t))) := by
  refine Tr.intro (by decide) rfl ?_
  refine J_aload_n (pc := 0) D10_pour_0 rfl ?_
  refine J_iconst (pc := 1) (v := (nI 0)) D10_pour_1 (by decide) ?_
  refine J_mput (pc := 2) D10_pour_2 fp10_139 ms_0 ?_
  refine J_iload_n (pc := 5) D10_pour_5 rfl ?_
  refine J_if_lt (pc := 6) (tgt := 21) D10_pour_6 (by decide) (fun h6 => ?_) (fun h6 => ?_)
  · have h6' := Int32.not_le.mpr h6
    refine J_iconst (pc := 21) (v := (-1)) D10_pour_21 (by decide) ?_
    refine J_iret (pc := 22) D10_pour_22 rfl ?_
    exact ⟨congrArg (fun q => some (Value.int q)) (by rw [pouF, if_neg (fun q => ixB_0 h6 q.1)]), _, _, _, _, rfl, PX.s0⟩
  · have h6' := Int32.not_lt.mp h6
    refine J_iload_n (pc := 9) D10_pour_9 rfl ?_
    refine J_iload_n (pc := 10) D10_pour_10 rfl ?_
    refine J_icmp_lt (pc := 11) (tgt := 21) D10_pour_11 (by decide) (fun h11 => ?_) (fun h11 => ?_)
    · have h11' := Int32.not_le.mpr h11
      refine J_iconst (pc := 21) (v := (-1)) D10_pour_21 (by decide) ?_
      refine J_iret (pc := 22) D10_pour_22 rfl ?_
      exact ⟨congrArg (fun q => some (Value.int q)) (by rw [pouF, if_neg (fun q => absurd q.2.2 (Int32.not_le.mpr h11))]), _, _, _, _, rfl, PX.s0⟩
    · have h11' := Int32.not_lt.mp h11
      refine J_iload_n (pc := 14) D10_pour_14 rfl ?_
      refine J_sipush (pc := 15) (v := (nI 199)) D10_pour_15 (by decide) ?_
      refine J_icmp_le (pc := 18) (tgt := 23) D10_pour_18 (by decide) (fun h18 => ?_) (fun h18 => ?_)
      · have h18' := Int32.not_lt.mpr h18
        refine J_iconst (pc := 23) (v := (nI 0)) D10_pour_23 (by decide) ?_
        refine J_istore_n (pc := 24) D10_pour_24 rfl ?_
        refine J_mono (L10_pour (s := updI s 0 (nI 0)) hR hT hC nb 0 (by omega)) ?_
        rintro r w' ⟨rfl, rfl⟩
        have q1 : f ≤ t := Int32.not_lt.mp h11
        exact ⟨congrArg (fun q => some (Value.int q)) (by rw [pouF, if_pos ⟨ixB_in (n := 199) (by decide) h6 (Int32.le_trans q1 h18), ixB_in (n := 199) (by decide) (fun q => h6 (Int32.lt_of_le_of_lt q1 q)) h18, q1⟩]), _, _, _, _, rfl, PX.s0⟩
      · have h18' := Int32.not_le.mp h18
        refine J_iconst (pc := 21) (v := (-1)) D10_pour_21 (by decide) ?_
        refine J_iret (pc := 22) D10_pour_22 rfl ?_
        exact ⟨congrArg (fun q => some (Value.int q)) (by rw [pouF, if_neg (fun q => ixB_gt (n := 199) (by decide) (Int32.not_le.mp h18) q.2.1)]), _, _, _, _, rfl, PX.s0⟩
theorem bit0 : ∀ n, n < 10 → (nI 0 >>> (nI n &&& 31)) &&& nI 1 = 0 := by decide
theorem foS_0 {V : CV} : ∀ n, n ≤ 10 → foS V (nI 0) n = nI 0
  | 0, _ => rfl
  | n + 1, h => by rw [foS, if_pos (bit0 n (by omega)), foS_0 n (by omega)]
theorem foS_b {V : CV} {x : Int32} : ∀ n, (∀ b, b < n → ∃ f, f ≤ 199 ∧ V.2.2.2 1 b = nI f) → ∃ v, v ≤ 199 * n ∧ foS V x n = nI v
  | 0, _ => ⟨0, by omega, rfl⟩
  | n + 1, h => by
    obtain ⟨v, hv, ev⟩ := foS_b (x := x) n (fun b hb => h b (by omega))
    obtain ⟨f, hf, ef⟩ := h n (by omega)
    rw [foS, ev, ef]
    split
    · exact ⟨v, by omega, rfl⟩
    · exact ⟨v + f, by omega, nI_add v f⟩
theorem iabs_p {x : Int32} (h : 0 ≤ x) : iabs x = x := if_pos h
theorem L10_dowry {d : Nat} {s : Nat → Int32} {A : Nat → Nat → Int32} {L : LL} {M : Nat → MR} {T : TV} {np nb nn : Nat} (hR : RT A T np nb nn) (hT : WT T np nb nn) {V : CV} (hC : CR False np nb nn (M 0) V) {p w : Int32} {B : Nat} (hB : B < 1024) : ∀ (g h : Nat) (S : DW), h + g = B + 1 → (∃ j, j < 2048 ∧ S.1 = nI j) → J m10_dowry (d + 2) 0 0 40 39 [(0, .ref 0), (1, .int p), (2, .int w), (3, .int (nI B)), (4, .int S.1), (5, .int S.2), (6, .int (nI h))] [] (modW s A L M) 0 0 (fun r w' => w' = modW s A L M ∧ r = some (.int (doP w (doL V nb (nI B) (foS V (nI B) nb) g h S)))) := by
  intro g
  induction g with
  | zero =>
    intro h S hh hS
    refine J_iload (pc := 39) D10_dowry_39 rfl ?_
    refine J_iload_n (pc := 41) D10_dowry_41 rfl ?_
    refine J_icmp_gt (pc := 42) (tgt := 106) D10_dowry_42 (by decide) (fun h42 => ?_) (fun h42 => absurd (nI_lt (by omega) (by omega)) h42)
    refine J_iload_n (pc := 106) D10_dowry_106 rfl ?_
    refine J_if_ne (pc := 107) (tgt := 115) D10_dowry_107 (by decide) (fun h107 => ?_) (fun h107 => ?_)
    · refine J_iload (pc := 115) D10_dowry_115 rfl ?_
      refine J_iret (pc := 117) D10_dowry_117 rfl ?_
      exact ⟨rfl, congrArg (fun q => some (Value.int q)) (if_neg h107).symm⟩
    · have h107' := eq_true h107
      refine J_iload (pc := 110) D10_dowry_110 rfl ?_
      refine J_goto (pc := 112) (tgt := 117) D10_dowry_112 (by decide) ?_
      refine J_iret (pc := 117) D10_dowry_117 rfl ?_
      exact ⟨rfl, congrArg (fun q => some (Value.int q)) (if_pos h107).symm⟩
  | succ g ih =>
    intro h S hh hS
    have hS1 : ¬ S.1 = -1 := by
      obtain ⟨j, hj, ej⟩ := hS
      rw [ej]; exact nI_nm (by omega)
    refine J_iload (pc := 39) D10_dowry_39 rfl ?_
    refine J_iload_n (pc := 41) D10_dowry_41 rfl ?_
    refine J_icmp_gt (pc := 42) (tgt := 106) D10_dowry_42 (by decide) (fun h42 => absurd h42 (Int32.not_lt.mpr (nI_le (by omega) (by omega)))) (fun h42 => ?_)
    refine J_iload (pc := 45) D10_dowry_45 rfl ?_
    refine J_iload_n (pc := 47) D10_dowry_47 rfl ?_
    refine J_iconst (pc := 48) (v := (-1)) D10_dowry_48 (by decide) ?_
    refine J_ixor (pc := 49) D10_dowry_49 ?_
    refine J_iand (pc := 50) D10_dowry_50 ?_
    refine J_if_eq (pc := 51) (tgt := 57) D10_dowry_51 (by decide) (fun h51 => ?_) (fun h51 => ?_)
    · have h51' := eq_true h51
      refine J_aload_n (pc := 57) D10_dowry_57 rfl ?_
      refine J_iload_n (pc := 58) D10_dowry_58 rfl ?_
      refine J_callVTR (pc := 59) (ac := [.int _]) D10_dowry_59 m10_forceIn_v t1590 (c10_forceIn (d := d + 1) hR hT hC) (by omega) rfl rfl rfl rfl (fun _ => rfl) rfl rfl rfl ?_
      refine J_iconst (pc := 62) (v := (nI 2)) D10_dowry_62 (by decide) ?_
      refine J_aload_n (pc := 63) D10_dowry_63 rfl ?_
      refine J_iload (pc := 64) D10_dowry_64 rfl ?_
      refine J_callVTR (pc := 66) (ac := [.int _]) D10_dowry_66 m10_forceIn_v t1590 (c10_forceIn (d := d + 1) hR hT hC) (by omega) rfl rfl rfl rfl (fun _ => rfl) rfl rfl rfl ?_
      refine J_imul (pc := 69) D10_dowry_69 ?_
      refine J_isub (pc := 70) D10_dowry_70 ?_
      refine J_abs (pc := 71) D10_dowry_71 t1786 (by omega) rfl rfl rfl ?_
      refine J_istore (pc := 74) D10_dowry_74 rfl ?_
      refine J_iload (pc := 76) D10_dowry_76 rfl ?_
      refine J_iconst (pc := 78) (v := (-1)) D10_dowry_78 (by decide) ?_
      refine J_icmp_eq (pc := 79) (tgt := 92) D10_dowry_79 (by decide) (fun h79 => absurd h79 hS1) (fun h79 => ?_)
      refine J_iload (pc := 82) D10_dowry_82 rfl ?_
      refine J_iload (pc := 84) D10_dowry_84 rfl ?_
      refine J_icmp_lt (pc := 86) (tgt := 92) D10_dowry_86 (by decide) (fun h86 => ?_) (fun h86 => ?_)
      · have h86' := Int32.not_le.mpr h86
        refine J_iload (pc := 92) D10_dowry_92 rfl ?_
        refine J_istore (pc := 94) D10_dowry_94 rfl ?_
        refine J_iload (pc := 96) D10_dowry_96 rfl ?_
        refine J_istore (pc := 98) D10_dowry_98 rfl ?_
        refine J_iinc (pc := 100) D10_dowry_100 rfl (nI_inc _) rfl ?_
        refine J_goto (pc := 103) (tgt := 39) D10_dowry_103 (by decide) ?_
        rw [doL, if_pos ⟨h51, h86⟩]
        refine J_lk [(0, .ref 0), (1, .int p), (2, .int w), (3, .int (nI B)), (4, .int (nI h)), (5, .int (doC V nb (nI B) (foS V (nI B) nb) h)), (6, .int (nI (h + 1)))] rfl ?_
        exact ih (h + 1) (nI h, doC V nb (nI B) (foS V (nI B) nb) h) (by omega) ⟨h, by omega, rfl⟩
      · have h86' := Int32.not_lt.mp h86
        refine J_goto (pc := 89) (tgt := 100) D10_dowry_89 (by decide) ?_
        refine J_iinc (pc := 100) D10_dowry_100 rfl (nI_inc _) rfl ?_
        refine J_goto (pc := 103) (tgt := 39) D10_dowry_103 (by decide) ?_
        rw [doL, if_neg (fun q => h86 q.2)]
        refine J_lk [(0, .ref 0), (1, .int p), (2, .int w), (3, .int (nI B)), (4, .int S.1), (5, .int S.2), (6, .int (nI (h + 1)))] rfl ?_
        exact ih (h + 1) S (by omega) hS
    · refine J_goto (pc := 54) (tgt := 100) D10_dowry_54 (by decide) ?_
      refine J_iinc (pc := 100) D10_dowry_100 rfl (nI_inc _) rfl ?_
      refine J_goto (pc := 103) (tgt := 39) D10_dowry_103 (by decide) ?_
      rw [doL, if_neg (fun q => h51 q.1)]
      refine J_lk [(0, .ref 0), (1, .int p), (2, .int w), (3, .int (nI B)), (4, .int S.1), (5, .int S.2), (6, .int (nI (h + 1)))] rfl ?_
      exact ih (h + 1) S (by omega) hS
theorem c10_dowry {d : Nat} {s : Nat → Int32} {A : Nat → Nat → Int32} {L : LL} {M : Nat → MR} {T : TV} {np nb nn : Nat} (hR : RT A T np nb nn) (hT : WT T np nb nn) {V : CV} (hC : CR False np nb nn (M 0) V) {p w : Int32} : Tr (d + 2) 0 0 m10_dowry [.ref 0, .int p, .int w] (modW s A L M) (mR s A M (.int (dowF T V np nb p w))) := by
  have hnb := hT.2.2.2.2.1
  have hnp := hT.2.2.2.1
  have hnn := hT.2.2.2.2.2.1
  have hfb := hC.2.2.2.2.2.2.2.2.2.2.2.2.2
  refine Tr.intro (by decide) rfl ?_
  refine J_aload_n (pc := 0) D10_dowry_0 rfl ?_
  refine J_iconst (pc := 1) (v := (nI 0)) D10_dowry_1 (by decide) ?_
  refine J_mput (pc := 2) D10_dowry_2 fp10_139 ms_0 ?_
  refine J_aload_n (pc := 5) D10_dowry_5 rfl ?_
  refine J_iload_n (pc := 6) D10_dowry_6 rfl ?_
  refine J_callVTR (pc := 7) (ac := [.int _]) D10_dowry_7 m10_isMan_v t1575 (c10_isMan (d := d + 1) hR) (by omega) rfl rfl rfl rfl (fun _ => rfl) rfl rfl rfl ?_
  refine J_if_eq (pc := 10) (tgt := 22) D10_dowry_10 (by decide) (fun h10 => ?_) (fun h10 => ?_)
  · have h10' := eq_true h10
    replace h10 := i01_z h10
    refine J_iconst (pc := 22) (v := (-1)) D10_dowry_22 (by decide) ?_
    refine J_iret (pc := 23) D10_dowry_23 rfl ?_
    exact ⟨congrArg (fun q => some (Value.int q)) (by rw [dowF, if_neg (fun q => h10 q.1)]), _, _, _, _, rfl, PX.s0⟩
  · replace h10 := i01_nz h10
    refine J_iload_n (pc := 13) D10_dowry_13 rfl ?_
    refine J_if_lt (pc := 14) (tgt := 22) D10_dowry_14 (by decide) (fun h14 => ?_) (fun h14 => ?_)
    · have h14' := Int32.not_le.mpr h14
      refine J_iconst (pc := 22) (v := (-1)) D10_dowry_22 (by decide) ?_
      refine J_iret (pc := 23) D10_dowry_23 rfl ?_
      exact ⟨congrArg (fun q => some (Value.int q)) (by rw [dowF, if_neg (fun q => ixB_0 h14 q.2)]), _, _, _, _, rfl, PX.s0⟩
    · have h14' := Int32.not_lt.mp h14
      refine J_iload_n (pc := 17) D10_dowry_17 rfl ?_
      refine J_iconst (pc := 18) (v := (nI 1)) D10_dowry_18 (by decide) ?_
      refine J_icmp_le (pc := 19) (tgt := 24) D10_dowry_19 (by decide) (fun h19 => ?_) (fun h19 => ?_)
      · have h19' := Int32.not_lt.mpr h19
        refine J_aload_n (pc := 24) D10_dowry_24 rfl ?_
        refine J_iload_n (pc := 25) D10_dowry_25 rfl ?_
        refine J_callVTR (pc := 26) (ac := [.int _]) D10_dowry_26 m10_ownSet_v t1579 (c10_ownSet (d := d) hR hT hC) (by omega) rfl rfl rfl rfl (fun _ => rfl) rfl rfl rfl ?_
        refine J_istore_n (pc := 29) D10_dowry_29 rfl ?_
        refine J_iconst (pc := 30) (v := (-1)) D10_dowry_30 (by decide) ?_
        refine J_istore (pc := 31) D10_dowry_31 rfl ?_
        refine J_iconst (pc := 33) (v := (nI 0)) D10_dowry_33 (by decide) ?_
        refine J_istore (pc := 34) D10_dowry_34 rfl ?_
        refine J_iconst (pc := 36) (v := (nI 0)) D10_dowry_36 (by decide) ?_
        refine J_istore (pc := 37) D10_dowry_37 rfl ?_
        obtain ⟨B, hB, eB⟩ := lyB_lt (T := T) (V := V) (p := p) nb hnb
        have hB2 : B < 1024 := Nat.lt_of_lt_of_le hB (Nat.pow_le_pow_right (n := 2) (by omega) hnb)
        rw [eB]
        obtain ⟨v, hv, ev⟩ := foS_b (V := V) (x := nI B) nb (fun b hb => hfb b hb)
        have e0 : iabs (foS V (nI B) nb - nI 2 * foS V (nI 0) nb) = foS V (nI B) nb := by
          rw [foS_0 nb hnb, show nI 2 * nI 0 = 0 from by decide, Int32.sub_zero, ev]
          exact iabs_p (nI_pos' (by omega))
        refine J_iload (pc := 39) D10_dowry_39 rfl ?_
        refine J_iload_n (pc := 41) D10_dowry_41 rfl ?_
        refine J_icmp_gt (pc := 42) (tgt := 106) D10_dowry_42 (by decide) (fun h42 => absurd h42 (Int32.not_lt.mpr (nI_le (by omega) (by omega)))) (fun h42 => ?_)
        refine J_iload (pc := 45) D10_dowry_45 rfl ?_
        refine J_iload_n (pc := 47) D10_dowry_47 rfl ?_
        refine J_iconst (pc := 48) (v := (-1)) D10_dowry_48 (by decide) ?_
        refine J_ixor (pc := 49) D10_dowry_49 ?_
        refine J_iand (pc := 50) D10_dowry_50 ?_
        refine J_if_eq (pc := 51) (tgt := 57) D10_dowry_51 (by decide) (fun h51 => ?_) (fun h51 => absurd (by rw [show nI 0 = (0 : Int32) from rfl]; exact Int32.zero_and) h51)
        refine J_aload_n (pc := 57) D10_dowry_57 rfl ?_
        refine J_iload_n (pc := 58) D10_dowry_58 rfl ?_
        refine J_callVTR (pc := 59) (ac := [.int _]) D10_dowry_59 m10_forceIn_v t1590 (c10_forceIn (d := d + 1) hR hT hC) (by omega) rfl rfl rfl rfl (fun _ => rfl) rfl rfl rfl ?_
        refine J_iconst (pc := 62) (v := (nI 2)) D10_dowry_62 (by decide) ?_
        refine J_aload_n (pc := 63) D10_dowry_63 rfl ?_
        refine J_iload (pc := 64) D10_dowry_64 rfl ?_
        refine J_callVTR (pc := 66) (ac := [.int _]) D10_dowry_66 m10_forceIn_v t1590 (c10_forceIn (d := d + 1) hR hT hC) (by omega) rfl rfl rfl rfl (fun _ => rfl) rfl rfl rfl ?_
        refine J_imul (pc := 69) D10_dowry_69 ?_
        refine J_isub (pc := 70) D10_dowry_70 ?_
        refine J_abs (pc := 71) D10_dowry_71 t1786 (by omega) rfl rfl rfl ?_
        rw [e0]
        refine J_istore (pc := 74) D10_dowry_74 rfl ?_
        refine J_iload (pc := 76) D10_dowry_76 rfl ?_
        refine J_iconst (pc := 78) (v := (-1)) D10_dowry_78 (by decide) ?_
        refine J_icmp_eq (pc := 79) (tgt := 92) D10_dowry_79 (by decide) (fun h79 => ?_) (fun h79 => absurd rfl h79)
        refine J_iload (pc := 92) D10_dowry_92 rfl ?_
        refine J_istore (pc := 94) D10_dowry_94 rfl ?_
        refine J_iload (pc := 96) D10_dowry_96 rfl ?_
        refine J_istore (pc := 98) D10_dowry_98 rfl ?_
        refine J_iinc (pc := 100) D10_dowry_100 rfl (nI_inc _) rfl ?_
        refine J_goto (pc := 103) (tgt := 39) D10_dowry_103 (by decide) ?_
        refine J_lk [(0, .ref 0), (1, .int p), (2, .int w), (3, .int (nI B)), (4, .int (nI 0)), (5, .int (foS V (nI B) nb)), (6, .int (nI 1))] rfl ?_
        refine J_mono (L10_dowry (s := updI s 0 (nI 0)) hR hT hC (p := p) (w := w) hB2 B 1 (nI 0, foS V (nI B) nb) (by omega) ⟨0, by omega, rfl⟩) ?_
        rintro r w' ⟨rfl, rfl⟩
        exact ⟨congrArg (fun q => some (Value.int q)) (by rw [dowF, if_pos ⟨h10, ixB_in (n := 1) (by decide) h14 h19⟩, dowR, eB, nI_clamp (by omega)]), _, _, _, _, rfl, PX.s0⟩
      · have h19' := Int32.not_le.mp h19
        refine J_iconst (pc := 22) (v := (-1)) D10_dowry_22 (by decide) ?_
        refine J_iret (pc := 23) D10_dowry_23 rfl ?_
        exact ⟨congrArg (fun q => some (Value.int q)) (by rw [dowF, if_neg (fun q => ixB_gt (n := 1) (by decide) (Int32.not_le.mp h19) q.2)]), _, _, _, _, rfl, PX.s0⟩
def omP (M : Nat → MR) : Nat → Bool := fun i => mnP (M 1) (nI 2) i && !mnP (M 0) (nI 2) i
theorem om_t {M : Nat → MR} {b : Nat} (h1 : (M 1).2.2.2 3 b = nI 2) (h2 : ¬ (M 0).2.2.2 3 b = nI 2) : omP M b = true := by
  unfold omP mnP
  rw [decide_eq_true h1, decide_eq_false h2]; rfl
theorem om_f1 {M : Nat → MR} {b : Nat} (h1 : ¬ (M 1).2.2.2 3 b = nI 2) : ¬ omP M b = true := by
  unfold omP mnP
  rw [decide_eq_false h1]; simp
theorem om_f2 {M : Nat → MR} {b : Nat} (h1 : (M 0).2.2.2 3 b = nI 2) : ¬ omP M b = true := by
  unfold omP mnP
  rw [decide_eq_true h1]; simp
theorem L10_offMore {d : Nat} {s : Nat → Int32} {A : Nat → Nat → Int32} {L : LL} {M : Nat → MR} {T : TV} {np nb nn : Nat} (hR : RT A T np nb nn) (hT : WT T np nb nn) : ∀ (g b : Nat), b + g = nb → J m10_offMore (d) 0 0 40 4 [(0, .ref 0), (1, .int (nI (bN (omP M) b))), (2, .int (nI b))] [] (modW s A L M) 0 0 (fun r w' => w' = modW s A L M ∧ r = some (.int (nI (bN (omP M) nb)))) := by
  have hnb := hT.2.2.2.2.1
  have hnp := hT.2.2.2.1
  have hnn := hT.2.2.2.2.2.1
  intro g
  induction g with
  | zero =>
    intro b hb
    have e9 : b = nb := by omega
    refine J_iload_n (pc := 4) D10_offMore_4 rfl ?_
    refine J_aload_n (pc := 5) D10_offMore_5 rfl ?_
    refine J_getf (pc := 6) D10_offMore_6 fl10_13 rfl rfl ?_
    refine J_iconst (pc := 9) (v := (nI 1)) D10_offMore_9 (by decide) ?_
    refine J_mald (pc := 10) D10_offMore_10 ma_3 rfl (by omega) rfl ?_
    refine J_st [.int (nI nb), .int (nI b)] (by rw [← hR.2.1]) ?_
    refine J_icmp_ge (pc := 11) (tgt := 53) D10_offMore_11 (by decide) (fun h11 => ?_) (fun h11 => absurd (nI_le (by omega) (by omega)) h11)
    refine J_iload_n (pc := 53) D10_offMore_53 rfl ?_
    refine J_iret (pc := 54) D10_offMore_54 rfl ?_
    exact ⟨rfl, by rw [e9]⟩
  | succ g ih =>
    intro b hb
    refine J_iload_n (pc := 4) D10_offMore_4 rfl ?_
    refine J_aload_n (pc := 5) D10_offMore_5 rfl ?_
    refine J_getf (pc := 6) D10_offMore_6 fl10_13 rfl rfl ?_
    refine J_iconst (pc := 9) (v := (nI 1)) D10_offMore_9 (by decide) ?_
    refine J_mald (pc := 10) D10_offMore_10 ma_3 rfl (by omega) rfl ?_
    refine J_st [.int (nI nb), .int (nI b)] (by rw [← hR.2.1]) ?_
    refine J_icmp_ge (pc := 11) (tgt := 53) D10_offMore_11 (by decide) (fun h11 => absurd h11 (nI_ge (by omega) (by omega))) (fun h11 => ?_)
    refine J_iload_n (pc := 14) D10_offMore_14 rfl ?_
    refine J_aload_n (pc := 15) D10_offMore_15 rfl ?_
    refine J_getf (pc := 16) D10_offMore_16 fl10_96 rfl rfl ?_
    refine J_bipush (pc := 19) (v := (nI 10)) D10_offMore_19 (by decide) ?_
    refine J_iload_n (pc := 21) D10_offMore_21 rfl ?_
    refine J_iadd (pc := 22) D10_offMore_22 ?_
    refine J_mcld (pc := 23) (stp := 10) D10_offMore_23 mc_3 (ix1 _ _) (by omega) (by omega) rfl ?_
    refine J_iconst (pc := 24) (v := (nI 2)) D10_offMore_24 (by decide) ?_
    refine J_icmp_ne (pc := 25) (tgt := 44) D10_offMore_25 (by decide) (fun h25 => ?_) (fun h25 => ?_)
    · refine J_iconst (pc := 44) (v := (nI 0)) D10_offMore_44 (by decide) ?_
      refine J_ior (pc := 45) D10_offMore_45 ?_
      refine J_istore_n (pc := 46) D10_offMore_46 rfl ?_
      refine J_iinc (pc := 47) D10_offMore_47 rfl (nI_inc _) rfl ?_
      refine J_goto (pc := 50) (tgt := 4) D10_offMore_50 (by decide) ?_
      refine J_lk [(0, .ref 0), (1, .int (nI (bN (omP M) (b + 1)))), (2, .int (nI (b + 1)))] (by rw [bN, if_neg (om_f1 h25), or0]; rfl) ?_
      exact ih (b + 1) (by omega)
    · have h25' := eq_true h25
      refine J_aload_n (pc := 28) D10_offMore_28 rfl ?_
      refine J_getf (pc := 29) D10_offMore_29 fl10_96 rfl rfl ?_
      refine J_iload_n (pc := 32) D10_offMore_32 rfl ?_
      refine J_mcld (pc := 33) (stp := 10) D10_offMore_33 mc_3 (ix0 _ _) (by omega) (by omega) rfl ?_
      refine J_iconst (pc := 34) (v := (nI 2)) D10_offMore_34 (by decide) ?_
      refine J_icmp_eq (pc := 35) (tgt := 44) D10_offMore_35 (by decide) (fun h35 => ?_) (fun h35 => ?_)
      · have h35' := eq_true h35
        refine J_iconst (pc := 44) (v := (nI 0)) D10_offMore_44 (by decide) ?_
        refine J_ior (pc := 45) D10_offMore_45 ?_
        refine J_istore_n (pc := 46) D10_offMore_46 rfl ?_
        refine J_iinc (pc := 47) D10_offMore_47 rfl (nI_inc _) rfl ?_
        refine J_goto (pc := 50) (tgt := 4) D10_offMore_50 (by decide) ?_
        refine J_lk [(0, .ref 0), (1, .int (nI (bN (omP M) (b + 1)))), (2, .int (nI (b + 1)))] (by rw [bN, if_neg (om_f2 h35), or0]; rfl) ?_
        exact ih (b + 1) (by omega)
      · refine J_iconst (pc := 38) (v := (nI 1)) D10_offMore_38 (by decide) ?_
        refine J_iload_n (pc := 39) D10_offMore_39 rfl ?_
        refine J_ishl (pc := 40) D10_offMore_40 ?_
        refine J_goto (pc := 41) (tgt := 45) D10_offMore_41 (by decide) ?_
        refine J_ior (pc := 45) D10_offMore_45 ?_
        refine J_istore_n (pc := 46) D10_offMore_46 rfl ?_
        refine J_iinc (pc := 47) D10_offMore_47 rfl (nI_inc _) rfl ?_
        refine J_goto (pc := 50) (tgt := 4) D10_offMore_50 (by decide) ?_
        refine J_lk [(0, .ref 0), (1, .int (nI (bN (omP M) (b + 1)))), (2, .int (nI (b + 1)))] (by rw [bN, if_pos (om_t h25 h35), ← nI_orp (bN_lt b), ← bitN_p (by omega)]; rfl) ?_
        exact ih (b + 1) (by omega)
theorem om_e {σ : Prop} {np nb nn : Nat} {M : Nat → MR} {V X : CV} (hC : CR False np nb nn (M 0) V) (hX : CR σ np nb nn (M 1) X) (hnb : nb ≤ 10) : nI (bN (omP M) nb) = bOff X &&& (bOff V ^^^ -1) := by
  unfold bOff
  rw [bitsF_e 10 (by omega), bitsF_e 10 (by omega), nI_andn (by omega)]
  congr 1
  have h1 := bN_up (P := fun i => decide (X.2.2.2 3 i = nI 2) && !decide (V.2.2.2 3 i = nI 2)) (n := nb) (10 - nb) (fun i h1 h2 => by
    show (decide (X.2.2.2 3 i = nI 2) && _) = false
    rw [decide_eq_false (by rw [hX.2.2.2.2.2.2.2.2.1 i h1 (by omega)]; decide)]; rfl)
  rw [show nb + (10 - nb) = 10 by omega] at h1
  rw [h1]
  refine bN_c nb (fun i hi => ?_)
  unfold omP mnP
  rw [decide_eq_decide.mpr (hX.off hi), decide_eq_decide.mpr (hC.off hi)]
theorem c10_offMore {d : Nat} {s : Nat → Int32} {A : Nat → Nat → Int32} {L : LL} {M : Nat → MR} {T : TV} {np nb nn : Nat} (hR : RT A T np nb nn) (hT : WT T np nb nn) {V : CV} (hC : CR False np nb nn (M 0) V) {σ : Prop} {X : CV} (hX : CR σ np nb nn (M 1) X) : TR d m10_offMore [.ref 0] (modW s A L M) (.int (bOff X &&& (bOff V ^^^ -1))) := by
  rw [← om_e hC hX hT.2.2.2.2.1]
  refine Tr.intro (by decide) rfl ?_
  refine J_iconst (pc := 0) (v := (nI 0)) D10_offMore_0 (by decide) ?_
  refine J_istore_n (pc := 1) D10_offMore_1 rfl ?_
  refine J_iconst (pc := 2) (v := (nI 0)) D10_offMore_2 (by decide) ?_
  refine J_istore_n (pc := 3) D10_offMore_3 rfl ?_
  exact L10_offMore hR hT nb 0 (by omega)
