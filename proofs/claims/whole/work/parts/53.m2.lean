/-! THE MODEL: sums of laws (own program mod_m2.py) -/
theorem L10_loadOf {d : Nat} {s : Nat → Int32} {A : Nat → Nat → Int32} {L : LL} {M : Nat → MR} {T : TV} {np nb nn : Nat} (hR : RT A T np nb nn) (hT : WT T np nb nn) {c : Nat} {x : Int32} (hc : c < 23) : ∀ (g b : Nat), b + g = nb → J m10_loadOf (d + 1) 0 0 40 5 [(0, .ref 0), (1, .int (nI c)), (2, .int x), (3, .int (nI (ldN (M c) x b))), (4, .int (nI b))] [] (modW s A L M) 0 0 (fun r w' => w' = modW s A L M ∧ r = some (.int (nI (ldN (M c) x nb)))) := by
  have hnb := hT.2.2.2.2.1
  have hnp := hT.2.2.2.1
  have hnn := hT.2.2.2.2.2.1
  intro g
  induction g with
  | zero =>
    intro b hb
    have e9 : b = nb := by omega
    refine J_iload (pc := 5) D10_loadOf_5 rfl ?_
    refine J_aload_n (pc := 7) D10_loadOf_7 rfl ?_
    refine J_getf (pc := 8) D10_loadOf_8 fl10_13 rfl rfl ?_
    refine J_iconst (pc := 11) (v := (nI 1)) D10_loadOf_11 (by decide) ?_
    refine J_mald (pc := 12) D10_loadOf_12 ma_3 rfl (by omega) rfl ?_
    refine J_st [.int (nI nb), .int (nI b)] (by rw [← hR.2.1]) ?_
    refine J_icmp_ge (pc := 13) (tgt := 56) D10_loadOf_13 (by decide) (fun h13 => ?_) (fun h13 => absurd (nI_le (by omega) (by omega)) h13)
    refine J_iload_n (pc := 56) D10_loadOf_56 rfl ?_
    refine J_iret (pc := 57) D10_loadOf_57 rfl ?_
    exact ⟨rfl, by rw [e9]⟩
  | succ g ih =>
    intro b hb
    refine J_iload (pc := 5) D10_loadOf_5 rfl ?_
    refine J_aload_n (pc := 7) D10_loadOf_7 rfl ?_
    refine J_getf (pc := 8) D10_loadOf_8 fl10_13 rfl rfl ?_
    refine J_iconst (pc := 11) (v := (nI 1)) D10_loadOf_11 (by decide) ?_
    refine J_mald (pc := 12) D10_loadOf_12 ma_3 rfl (by omega) rfl ?_
    refine J_st [.int (nI nb), .int (nI b)] (by rw [← hR.2.1]) ?_
    refine J_icmp_ge (pc := 13) (tgt := 56) D10_loadOf_13 (by decide) (fun h13 => absurd h13 (nI_ge (by omega) (by omega))) (fun h13 => ?_)
    refine J_iload_n (pc := 16) D10_loadOf_16 rfl ?_
    refine J_aload_n (pc := 17) D10_loadOf_17 rfl ?_
    refine J_iload_n (pc := 18) D10_loadOf_18 rfl ?_
    refine J_iload (pc := 19) D10_loadOf_19 rfl ?_
    refine J_callVTR (pc := 21) (ac := [.int _, .int _]) D10_loadOf_21 m10_isLying_v t1583 (c10_isLying (d := d) (c := c) (b := b) hc (by omega)) (by omega) rfl rfl rfl rfl (fun _ => rfl) rfl rfl rfl ?_
    refine J_if_eq (pc := 24) (tgt := 47) D10_loadOf_24 (by decide) (fun h24 => ?_) (fun h24 => ?_)
    · have h24' := eq_true h24
      replace h24 := i01_z h24
      refine J_iconst (pc := 47) (v := (nI 0)) D10_loadOf_47 (by decide) ?_
      refine J_iadd (pc := 48) D10_loadOf_48 ?_
      refine J_istore_n (pc := 49) D10_loadOf_49 rfl ?_
      refine J_iinc (pc := 50) D10_loadOf_50 rfl (nI_inc _) rfl ?_
      refine J_goto (pc := 53) (tgt := 5) D10_loadOf_53 (by decide) ?_
      refine J_lk [(0, .ref 0), (1, .int (nI c)), (2, .int x), (3, .int (nI (ldN (M c) x (b + 1)))), (4, .int (nI (b + 1)))] (by rw [ldN, if_neg (fun q => h24 q.1), ← nI_add (ldN (M c) x b)]; rfl) ?_
      exact ih (b + 1) (by omega)
    · replace h24 := i01_nz h24
      refine J_aload_n (pc := 27) D10_loadOf_27 rfl ?_
      refine J_getf (pc := 28) D10_loadOf_28 fl10_93 rfl rfl ?_
      refine J_bipush (pc := 31) (v := (nI 10)) D10_loadOf_31 (by decide) ?_
      refine J_iload_n (pc := 33) D10_loadOf_33 rfl ?_
      refine J_imul (pc := 34) D10_loadOf_34 ?_
      refine J_iload (pc := 35) D10_loadOf_35 rfl ?_
      refine J_iadd (pc := 37) D10_loadOf_37 ?_
      refine J_mcld (pc := 38) (stp := 10) D10_loadOf_38 mc_0 (ixm _ _ _) (by omega) (by omega) rfl ?_
      refine J_iload_n (pc := 39) D10_loadOf_39 rfl ?_
      refine J_icmp_ne (pc := 40) (tgt := 47) D10_loadOf_40 (by decide) (fun h40 => ?_) (fun h40 => ?_)
      · refine J_iconst (pc := 47) (v := (nI 0)) D10_loadOf_47 (by decide) ?_
        refine J_iadd (pc := 48) D10_loadOf_48 ?_
        refine J_istore_n (pc := 49) D10_loadOf_49 rfl ?_
        refine J_iinc (pc := 50) D10_loadOf_50 rfl (nI_inc _) rfl ?_
        refine J_goto (pc := 53) (tgt := 5) D10_loadOf_53 (by decide) ?_
        refine J_lk [(0, .ref 0), (1, .int (nI c)), (2, .int x), (3, .int (nI (ldN (M c) x (b + 1)))), (4, .int (nI (b + 1)))] (by rw [ldN, if_neg (fun q => h40 q.2), ← nI_add (ldN (M c) x b)]; rfl) ?_
        exact ih (b + 1) (by omega)
      · have h40' := eq_true h40
        refine J_iconst (pc := 43) (v := (nI 1)) D10_loadOf_43 (by decide) ?_
        refine J_goto (pc := 44) (tgt := 48) D10_loadOf_44 (by decide) ?_
        refine J_iadd (pc := 48) D10_loadOf_48 ?_
        refine J_istore_n (pc := 49) D10_loadOf_49 rfl ?_
        refine J_iinc (pc := 50) D10_loadOf_50 rfl (nI_inc _) rfl ?_
        refine J_goto (pc := 53) (tgt := 5) D10_loadOf_53 (by decide) ?_
        refine J_lk [(0, .ref 0), (1, .int (nI c)), (2, .int x), (3, .int (nI (ldN (M c) x (b + 1)))), (4, .int (nI (b + 1)))] (by rw [ldN, if_pos ⟨h24, h40⟩, ← nI_add (ldN (M c) x b)]; rfl) ?_
        exact ih (b + 1) (by omega)
theorem c10_loadOf {d : Nat} {s : Nat → Int32} {A : Nat → Nat → Int32} {L : LL} {M : Nat → MR} {T : TV} {np nb nn : Nat} (hR : RT A T np nb nn) (hT : WT T np nb nn) {c : Nat} {x : Int32} (hc : c < 23) : TR (d + 1) m10_loadOf [.ref 0, .int (nI c), .int x] (modW s A L M) (.int (nI (ldN (M c) x nb))) := by
  refine Tr.intro (by decide) rfl ?_
  refine J_iconst (pc := 0) (v := (nI 0)) D10_loadOf_0 (by decide) ?_
  refine J_istore_n (pc := 1) D10_loadOf_1 rfl ?_
  refine J_iconst (pc := 2) (v := (nI 0)) D10_loadOf_2 (by decide) ?_
  refine J_istore (pc := 3) D10_loadOf_3 rfl ?_
  exact L10_loadOf hR hT hc nb 0 (by omega)
theorem L10_hatedOf {d : Nat} {s : Nat → Int32} {A : Nat → Nat → Int32} {L : LL} {M : Nat → MR} {T : TV} {np nb nn : Nat} (hR : RT A T np nb nn) (hT : WT T np nb nn) {c : Nat} {x : Int32} (hc : c < 23) : ∀ (g b : Nat), b + g = np → J m10_hatedOf (d) 0 0 40 5 [(0, .ref 0), (1, .int (nI c)), (2, .int x), (3, .int (hdS (M c) x b)), (4, .int (nI b))] [] (modW s A L M) 0 0 (fun r w' => w' = modW s A L M ∧ r = some (.int (hdS (M c) x np))) := by
  have hnb := hT.2.2.2.2.1
  have hnp := hT.2.2.2.1
  have hnn := hT.2.2.2.2.2.1
  intro g
  induction g with
  | zero =>
    intro b hb
    have e9 : b = np := by omega
    refine J_iload (pc := 5) D10_hatedOf_5 rfl ?_
    refine J_aload_n (pc := 7) D10_hatedOf_7 rfl ?_
    refine J_getf (pc := 8) D10_hatedOf_8 fl10_13 rfl rfl ?_
    refine J_iconst (pc := 11) (v := (nI 0)) D10_hatedOf_11 (by decide) ?_
    refine J_mald (pc := 12) D10_hatedOf_12 ma_3 rfl (by omega) rfl ?_
    refine J_st [.int (nI np), .int (nI b)] (by rw [← hR.1]) ?_
    refine J_icmp_ge (pc := 13) (tgt := 40) D10_hatedOf_13 (by decide) (fun h13 => ?_) (fun h13 => absurd (nI_le (by omega) (by omega)) h13)
    refine J_iload_n (pc := 40) D10_hatedOf_40 rfl ?_
    refine J_iret (pc := 41) D10_hatedOf_41 rfl ?_
    exact ⟨rfl, by rw [e9]⟩
  | succ g ih =>
    intro b hb
    refine J_iload (pc := 5) D10_hatedOf_5 rfl ?_
    refine J_aload_n (pc := 7) D10_hatedOf_7 rfl ?_
    refine J_getf (pc := 8) D10_hatedOf_8 fl10_13 rfl rfl ?_
    refine J_iconst (pc := 11) (v := (nI 0)) D10_hatedOf_11 (by decide) ?_
    refine J_mald (pc := 12) D10_hatedOf_12 ma_3 rfl (by omega) rfl ?_
    refine J_st [.int (nI np), .int (nI b)] (by rw [← hR.1]) ?_
    refine J_icmp_ge (pc := 13) (tgt := 40) D10_hatedOf_13 (by decide) (fun h13 => absurd h13 (nI_ge (by omega) (by omega))) (fun h13 => ?_)
    refine J_iload_n (pc := 16) D10_hatedOf_16 rfl ?_
    refine J_aload_n (pc := 17) D10_hatedOf_17 rfl ?_
    refine J_getf (pc := 18) D10_hatedOf_18 fl10_84 rfl rfl ?_
    refine J_iconst (pc := 21) (v := (nI 5)) D10_hatedOf_21 (by decide) ?_
    refine J_iload_n (pc := 22) D10_hatedOf_22 rfl ?_
    refine J_imul (pc := 23) D10_hatedOf_23 ?_
    refine J_iload (pc := 24) D10_hatedOf_24 rfl ?_
    refine J_iadd (pc := 26) D10_hatedOf_26 ?_
    refine J_mcld (pc := 27) (stp := 5) D10_hatedOf_27 mc_6 (ixm _ _ _) (by omega) (by omega) rfl ?_
    refine J_iload_n (pc := 28) D10_hatedOf_28 rfl ?_
    refine J_ishr (pc := 29) D10_hatedOf_29 ?_
    refine J_iconst (pc := 30) (v := (nI 1)) D10_hatedOf_30 (by decide) ?_
    refine J_iand (pc := 31) D10_hatedOf_31 ?_
    refine J_iadd (pc := 32) D10_hatedOf_32 ?_
    refine J_istore_n (pc := 33) D10_hatedOf_33 rfl ?_
    refine J_iinc (pc := 34) D10_hatedOf_34 rfl (nI_inc _) rfl ?_
    refine J_goto (pc := 37) (tgt := 5) D10_hatedOf_37 (by decide) ?_
    refine J_lk [(0, .ref 0), (1, .int (nI c)), (2, .int x), (3, .int (hdS (M c) x (b + 1))), (4, .int (nI (b + 1)))] (by rw [hdS]; rfl) ?_
    exact ih (b + 1) (by omega)
theorem c10_hatedOf {d : Nat} {s : Nat → Int32} {A : Nat → Nat → Int32} {L : LL} {M : Nat → MR} {T : TV} {np nb nn : Nat} (hR : RT A T np nb nn) (hT : WT T np nb nn) {c : Nat} {x : Int32} (hc : c < 23) : TR d m10_hatedOf [.ref 0, .int (nI c), .int x] (modW s A L M) (.int (hdS (M c) x np)) := by
  refine Tr.intro (by decide) rfl ?_
  refine J_iconst (pc := 0) (v := (nI 0)) D10_hatedOf_0 (by decide) ?_
  refine J_istore_n (pc := 1) D10_hatedOf_1 rfl ?_
  refine J_iconst (pc := 2) (v := (nI 0)) D10_hatedOf_2 (by decide) ?_
  refine J_istore (pc := 3) D10_hatedOf_3 rfl ?_
  exact L10_hatedOf hR hT hc np 0 (by omega)
theorem c10_calls {d : Nat} {s : Nat → Int32} {A : Nat → Nat → Int32} {L : LL} {M : Nat → MR} {T : TV} {np nb nn : Nat} (hR : RT A T np nb nn) (hT : WT T np nb nn) {σ : Prop} {V : CV} {c b : Nat} (hc : c < 23) (hC : CR σ np nb nn (M c) V) (hb : b < nb) : Tr (d + 2) 0 0 m10_calls [.ref 0, .int (nI c), .int (nI b)] (modW s A L M) (fun r w' => r = none ∧ ∃ N, w' = modW s A (N, L.2) M ∧ ∀ j, j < 7 → N j = nameF T V (nI (9 + j)) b) := by
  have hnb := hT.2.2.2.2.1
  have hnp := hT.2.2.2.1
  have hnn := hT.2.2.2.2.2.1
  obtain ⟨q1, hq1, eq1⟩ := hT.2.2.2.2.2.2.2.1 b hb
  obtain ⟨p1, hp1, ep1⟩ := hT.2.2.2.2.2.2.1 b hb
  obtain ⟨β, hβ, eβ⟩ := hC.2.2.2.2.2.2.2.2.2.2.1 b hb
  obtain ⟨-, e7, e8, -⟩ := hR.2.2.2.2.2.2.2.1 b hb
  obtain ⟨i0, i1, i2, i4, -⟩ := hC.2.2.2.1 b hb
  refine Tr.intro (by decide) rfl ?_
  refine J_bipush (pc := 0) (v := (nI 10)) D10_calls_0 (by decide) ?_
  refine J_iload_n (pc := 2) D10_calls_2 rfl ?_
  refine J_imul (pc := 3) D10_calls_3 ?_
  refine J_iload_n (pc := 4) D10_calls_4 rfl ?_
  refine J_iadd (pc := 5) D10_calls_5 ?_
  refine J_istore_n (pc := 6) D10_calls_6 rfl ?_
  refine J_lk [(0, .ref 0), (1, .int (nI c)), (2, .int (nI b)), (3, .int (nI (10 * c + b)))] (by rw [← ixm]; rfl) ?_
  refine J_aload_n (pc := 7) D10_calls_7 rfl ?_
  refine J_getf (pc := 8) D10_calls_8 fl10_68 rfl rfl ?_
  refine J_iconst (pc := 11) (v := (nI 0)) D10_calls_11 (by decide) ?_
  refine J_aload_n (pc := 12) D10_calls_12 rfl ?_
  refine J_getf (pc := 13) D10_calls_13 fl10_87 rfl rfl ?_
  refine J_iload_n (pc := 16) D10_calls_16 rfl ?_
  refine J_mcld (pc := 17) (stp := 10) D10_calls_17 mc_1 rfl (by omega) (by omega) rfl ?_
  refine J_i2l (pc := 18) D10_calls_18 ?_
  refine J_mnst (pc := 19) D10_calls_19 rfl (by omega) ?_
  refine J_aload_n (pc := 20) D10_calls_20 rfl ?_
  refine J_getf (pc := 21) D10_calls_21 fl10_68 rfl rfl ?_
  refine J_iconst (pc := 24) (v := (nI 1)) D10_calls_24 (by decide) ?_
  refine J_aload_n (pc := 25) D10_calls_25 rfl ?_
  refine J_getf (pc := 26) D10_calls_26 fl10_90 rfl rfl ?_
  refine J_iload_n (pc := 29) D10_calls_29 rfl ?_
  refine J_mcld (pc := 30) (stp := 10) D10_calls_30 mc_2 rfl (by omega) (by omega) rfl ?_
  refine J_i2l (pc := 31) D10_calls_31 ?_
  refine J_mnst (pc := 32) D10_calls_32 rfl (by omega) ?_
  refine J_aload_n (pc := 33) D10_calls_33 rfl ?_
  refine J_getf (pc := 34) D10_calls_34 fl10_68 rfl rfl ?_
  refine J_iconst (pc := 37) (v := (nI 2)) D10_calls_37 (by decide) ?_
  refine J_aload_n (pc := 38) D10_calls_38 rfl ?_
  refine J_iload_n (pc := 39) D10_calls_39 rfl ?_
  refine J_aload_n (pc := 40) D10_calls_40 rfl ?_
  refine J_getf (pc := 41) D10_calls_41 fl10_28 rfl rfl ?_
  refine J_iload_n (pc := 44) D10_calls_44 rfl ?_
  refine J_mald (pc := 45) D10_calls_45 ma_8 rfl (by omega) rfl ?_
  refine J_callVTR (pc := 46) (ac := [.int _, .int _]) D10_calls_46 m10_hatedOf_v t1623 (c10_hatedOf (d := d + 1) (c := c) hR hT hc) (by omega) rfl rfl rfl rfl (fun _ => rfl) rfl rfl rfl ?_
  refine J_i2l (pc := 49) D10_calls_49 ?_
  refine J_mnst (pc := 50) D10_calls_50 rfl (by omega) ?_
  refine J_aload_n (pc := 51) D10_calls_51 rfl ?_
  refine J_getf (pc := 52) D10_calls_52 fl10_68 rfl rfl ?_
  refine J_iconst (pc := 55) (v := (nI 3)) D10_calls_55 (by decide) ?_
  refine J_aload_n (pc := 56) D10_calls_56 rfl ?_
  refine J_getf (pc := 57) D10_calls_57 fl10_93 rfl rfl ?_
  refine J_iload_n (pc := 60) D10_calls_60 rfl ?_
  refine J_mcld (pc := 61) (stp := 10) D10_calls_61 mc_0 rfl (by omega) (by omega) rfl ?_
  refine J_i2l (pc := 62) D10_calls_62 ?_
  refine J_mnst (pc := 63) D10_calls_63 rfl (by omega) ?_
  refine J_aload_n (pc := 64) D10_calls_64 rfl ?_
  refine J_getf (pc := 65) D10_calls_65 fl10_68 rfl rfl ?_
  refine J_iconst (pc := 68) (v := (nI 4)) D10_calls_68 (by decide) ?_
  refine J_aload_n (pc := 69) D10_calls_69 rfl ?_
  refine J_getf (pc := 70) D10_calls_70 fl10_19 rfl rfl ?_
  refine J_aload_n (pc := 73) D10_calls_73 rfl ?_
  refine J_getf (pc := 74) D10_calls_74 fl10_25 rfl rfl ?_
  refine J_iload_n (pc := 77) D10_calls_77 rfl ?_
  refine J_mald (pc := 78) D10_calls_78 ma_7 rfl (by omega) rfl ?_
  refine J_st (.int (nI p1) :: .ref 4 :: .int (nI 4) :: .ref 19 :: []) (by rw [e7, ep1]) ?_
  refine J_mald (pc := 79) D10_calls_79 ma_5 rfl (by omega) rfl ?_
  refine J_i2l (pc := 80) D10_calls_80 ?_
  refine J_mnst (pc := 81) D10_calls_81 rfl (by omega) ?_
  refine J_aload_n (pc := 82) D10_calls_82 rfl ?_
  refine J_getf (pc := 83) D10_calls_83 fl10_68 rfl rfl ?_
  refine J_iconst (pc := 86) (v := (nI 5)) D10_calls_86 (by decide) ?_
  refine J_aload_n (pc := 87) D10_calls_87 rfl ?_
  refine J_iload_n (pc := 88) D10_calls_88 rfl ?_
  refine J_aload_n (pc := 89) D10_calls_89 rfl ?_
  refine J_getf (pc := 90) D10_calls_90 fl10_93 rfl rfl ?_
  refine J_iload_n (pc := 93) D10_calls_93 rfl ?_
  refine J_mcld (pc := 94) (stp := 10) D10_calls_94 mc_0 rfl (by omega) (by omega) rfl ?_
  refine J_callVTR (pc := 95) (ac := [.int _, .int _]) D10_calls_95 m10_loadOf_v t1627 (c10_loadOf (d := d) (c := c) hR hT hc) (by omega) rfl rfl rfl rfl (fun _ => rfl) rfl rfl rfl ?_
  refine J_i2l (pc := 98) D10_calls_98 ?_
  refine J_mnst (pc := 99) D10_calls_99 rfl (by omega) ?_
  refine J_aload_n (pc := 100) D10_calls_100 rfl ?_
  refine J_getf (pc := 101) D10_calls_101 fl10_68 rfl rfl ?_
  refine J_bipush (pc := 104) (v := (nI 6)) D10_calls_104 (by decide) ?_
  refine J_aload_n (pc := 106) D10_calls_106 rfl ?_
  refine J_getf (pc := 107) D10_calls_107 fl10_75 rfl rfl ?_
  refine J_iload_n (pc := 110) D10_calls_110 rfl ?_
  refine J_msld (pc := 111) D10_calls_111 mq_year rfl (by omega) ?_
  refine J_i2l (pc := 112) D10_calls_112 ?_
  refine J_mnst (pc := 113) D10_calls_113 rfl (by omega) ?_
  refine J_vret (pc := 114) D10_calls_114 rfl ?_
  refine ⟨rfl, _, rfl, fun j hj => ?_⟩
  have hj9 : j = 0 ∨ j = 1 ∨ j = 2 ∨ j = 3 ∨ j = 4 ∨ j = 5 ∨ j = 6 := by omega
  rcases hj9 with rfl | rfl | rfl | rfl | rfl | rfl | rfl
  · exact congrArg Int32.toInt64 i1
  · exact congrArg Int32.toInt64 i2
  · show (hdS (M c) (A 8 b) np).toInt64 = (V.2.2.2 7 (T.2.1 6 b).toNatClampNeg).toInt64
    rw [e8, eq1, nI_clamp (by omega), hC.2.2.2.2.2.2.1 q1 (by omega)]
  · exact congrArg Int32.toInt64 i0
  · show (A 5 p1).toInt64 = (T.2.1 2 (T.2.1 5 b).toNatClampNeg).toInt64
    rw [ep1, nI_clamp (by omega), (hR.2.2.2.2.2.2.1 p1 hp1).2]
  · show (nI (ldN (M c) ((M c).2.2.2 0 b) nb)).toInt64 = (V.2.2.2 8 (V.2.2.2 0 b).toNatClampNeg).toInt64
    rw [i0, eβ, nI_clamp (by omega), hC.2.2.2.2.2.2.2.1 β hβ]
  · exact congrArg Int32.toInt64 hC.1
theorem LB_i : LBIG.toInt = 1000000000000 := by decide
theorem LM_i : LMIN.toInt = -9223372036854775808 := by decide
def BL (x : Int64) : Prop := ¬ (LBIG < x ∨ x < -LBIG)
theorem nLB_i : (-LBIG).toInt = -1000000000000 := by decide
theorem BL.i {x : Int64} (h : BL x) : -1000000000000 ≤ x.toInt ∧ x.toInt ≤ 1000000000000 := by
  have h1 := mt Or.inl h
  have h2 := mt Or.inr h
  rw [Int64.lt_iff_toInt_lt, LB_i] at h1
  rw [Int64.lt_iff_toInt_lt, nLB_i] at h2
  omega
theorem BL.of {x : Int64} (h : -1000000000000 ≤ x.toInt) (h2 : x.toInt ≤ 1000000000000) : BL x := by
  rintro (q | q)
  · rw [Int64.lt_iff_toInt_lt, LB_i] at q; omega
  · rw [Int64.lt_iff_toInt_lt, nLB_i] at q; omega
theorem bm64 {x : Int} (h : -9223372036854775808 ≤ x) (h2 : x < 9223372036854775808) : x.bmod (2 ^ 64) = x := Int.bmod_eq_of_le (by omega) (by omega)
theorem neg_i {x : Int64} (h : -1000000000000 ≤ x.toInt ∧ x.toInt ≤ 1000000000000) : (-x).toInt = -x.toInt := by
  rw [Int64.toInt_neg, bm64 (by omega) (by omega)]
theorem z64 : (0 : Int64).toInt = 0 := by decide
theorem nz_i {x : Int64} (h : ¬ x = 0) : x.toInt ≠ 0 := fun e => h (Int64.toInt_inj.mp (e.trans z64.symm))
theorem labs_i {x : Int64} (h : BL x) : (labs x).toInt = if 0 < x.toInt then x.toInt else -x.toInt := by
  unfold labs
  by_cases q : 0 < x
  · rw [if_pos q]
    rw [Int64.lt_iff_toInt_lt, z64] at q
    rw [if_pos q]
  · rw [if_neg q, neg_i h.i]
    rw [Int64.lt_iff_toInt_lt, z64] at q
    rw [if_neg q]
theorem nabs_i {x : Int64} (h : BL x) : (if x < 0 then -x else x).toInt = if x.toInt < 0 then -x.toInt else x.toInt := by
  by_cases q : x < 0
  · rw [if_pos q, neg_i h.i]
    rw [Int64.lt_iff_toInt_lt, z64] at q
    rw [if_pos q]
  · rw [if_neg q]
    rw [Int64.lt_iff_toInt_lt, z64] at q
    rw [if_neg q]
theorem divB {y : Int64} : (LBIG / y).toInt = (1000000000000 : Int).tdiv y.toInt := by
  rw [Int64.toInt_div_of_ne_left _ _ (by decide), LB_i]
theorem tdivB {a : Int} (h : 0 < a) : 0 ≤ (1000000000000 : Int).tdiv a ∧ (1000000000000 : Int).tdiv a ≤ 1000000000000 := by
  rw [Int.tdiv_eq_ediv_of_nonneg (by decide)]
  exact ⟨Int.ediv_nonneg (by decide) (by omega), Int.ediv_le_self _ (by decide)⟩
/-- the product's test, in the class' words and in the model's -/
theorem prod_t {x y : Int64} (hx : BL x) (hy : BL y) (h0 : ¬ x = 0) : (LBIG / labs x < labs y) ↔ (LBIG / (if x < 0 then -x else x) < y ∨ y < -(LBIG / (if x < 0 then -x else x))) := by
  have hn := nz_i h0
  have h1 : (LBIG / labs x) = LBIG / (if x < 0 then -x else x) := by
    apply Int64.toInt_inj.mp
    rw [divB, divB, labs_i hx, nabs_i hx]
    congr 1
    split <;> split <;> omega
  have h2 := @divB (if x < 0 then -x else x)
  rw [nabs_i hx] at h2
  have h3 : 0 < (if x.toInt < 0 then -x.toInt else x.toInt) := by split <;> omega
  have h4 := tdivB h3
  rw [← h2] at h4
  rw [h1]
  generalize (LBIG / (if x < 0 then -x else x)) = t at h4
  rw [Int64.lt_iff_toInt_lt, Int64.lt_iff_toInt_lt, Int64.lt_iff_toInt_lt, labs_i hy, neg_i ⟨by omega, h4.2⟩]
  have hy' := hy.i
  by_cases q : 0 < y.toInt
  · rw [if_pos q]; omega
  · rw [if_neg q]; omega
theorem prodF_0 {y : Int64} (hy : BL y) : prodF 0 y = 0 * y := by
  show (if LBIG < y ∨ y < -LBIG then LMIN else 0 * y) = 0 * y
  rw [if_neg hy]
theorem prodF_n {x y : Int64} (hx : BL x) (hy : BL y) (h0 : ¬ x = 0) (h : ¬ LBIG / labs x < labs y) : prodF x y = x * y := by
  unfold prodF
  rw [if_neg h0]
  exact if_neg (fun q => h ((prod_t hx hy h0).mpr q))
theorem prodF_l {x y : Int64} (hx : BL x) (hy : BL y) (h0 : ¬ x = 0) (h : LBIG / labs x < labs y) : prodF x y = LMIN := by
  unfold prodF
  rw [if_neg h0]
  exact if_pos ((prod_t hx hy h0).mp h)
theorem LM_big : LBIG < LMIN ∨ LMIN < -LBIG := Or.inr (by decide)
theorem labs_nz {x : Int64} (hx : BL x) (h0 : ¬ x = 0) : ¬ labs x = 0 := fun e => by
  have := congrArg Int64.toInt e
  rw [labs_i hx, z64] at this
  have := nz_i h0
  split at * <;> omega
theorem BL_01 {c : Prop} [Decidable c] : BL (l01 c) := by
  unfold l01
  split
  · exact BL.of (by decide) (by decide)
  · exact BL.of (by decide) (by decide)
theorem l01_c {c e : Prop} [Decidable c] [Decidable e] (h : c ↔ e) : l01 c = l01 e := by
  by_cases q : c
  · rw [l01_t q, l01_t (h.mp q)]
  · rw [l01_f q, l01_f (fun z => q (h.mpr z))]
theorem nI_sub2 (h : Nat) : nI (h + 2) - nI 2 = nI h := by rw [← nI_add h 2]; exact Int32.add_sub_cancel _ _
theorem updI_u {s : Nat → Int32} {k : Nat} {x y : Int32} : updI (updI s k x) k y = updI s k y := funext fun j => by
  by_cases h : j = k
  · rw [h, updI_s, updI_s]
  · rw [updI_n h, updI_n h, updI_n h]
theorem updI_i {s : Nat → Int32} {k : Nat} : updI s k (s k) = s := funext fun j => by
  by_cases h : j = k
  · rw [h, updI_s]
  · rw [updI_n h]
theorem uL_s {f : Nat → Int64} {b : Nat} {x : Int64} : vp_updL f b x b = x := by unfold vp_updL; exact if_pos rfl
theorem uL_n {f : Nat → Int64} {b i : Nat} {x : Int64} (h : i ≠ b) : vp_updL f b x i = f i := by unfold vp_updL; exact if_neg h
theorem L10_works407 {d : Nat} {s : Nat → Int32} {A : Nat → Nat → Int32} {L : LL} {M : Nat → MR} {h : Nat} {v x y : Int64} {t : Int32} (hh : h ≤ 62) : J m10_works (d + 1) 0 0 40 407 [(0, .ref 0), (1, .int t), (2, .long y), (4, .long x), (6, .long v)] [] (modW (updI s 35 (nI (h + 1))) A L M) 0 0 (fun r w' => ∃ x' k', w' = modW (updI s 35 x') A (L.1, k') M ∧ ((r = some (.int 0) ∧ ¬ BL v) ∨ (r = some (.int (nI 1)) ∧ BL v ∧ x' = nI (h + 1) ∧ k' h = v ∧ ∀ i, i < h → k' i = L.2 i))) := by
  refine J_aload_n (pc := 407) D10_works_407 rfl ?_
  refine J_getf (pc := 408) D10_works_408 fl10_72 rfl rfl ?_
  refine J_aload_n (pc := 411) D10_works_411 rfl ?_
  refine J_getf (pc := 412) D10_works_412 fl10_305 rfl rfl ?_
  refine J_iconst (pc := 415) (v := (nI 1)) D10_works_415 (by decide) ?_
  refine J_isub (pc := 416) D10_works_416 ?_
  refine J_lload (pc := 417) D10_works_417 rfl ?_
  refine J_mwst (pc := 419) D10_works_419 (nI_pred h) (by omega) ?_
  refine J_lload (pc := 420) D10_works_420 rfl ?_
  refine J_ldc2_w (pc := 422) (v := LBIG) D10_works_422 t1645 ?_
  refine J_lcmp (pc := 425) D10_works_425 ?_
  refine J_if_gt (pc := 426) (tgt := 442) D10_works_426 (by decide) (fun h426 => ?_) (fun h426 => ?_)
  · replace h426 := (lg_cmp_gt _ _).mp h426
    have h426' := Int64.not_le.mpr h426
    refine J_iconst (pc := 442) (v := (nI 0)) D10_works_442 (by decide) ?_
    refine J_zret (pc := 443) D10_works_443 rfl (by decide) ?_
    exact ⟨_, _, rfl, Or.inl ⟨rfl, fun q => q (Or.inl h426)⟩⟩
  · replace h426 := mt (lg_cmp_gt _ _).mpr h426
    have h426' := Int64.not_lt.mp h426
    refine J_lload (pc := 429) D10_works_429 rfl ?_
    refine J_ldc2_w (pc := 431) (v := -LBIG) D10_works_431 t1646 ?_
    refine J_lcmp (pc := 434) D10_works_434 ?_
    refine J_if_lt (pc := 435) (tgt := 442) D10_works_435 (by decide) (fun h435 => ?_) (fun h435 => ?_)
    · replace h435 := (lg_cmp_lt _ _).mp h435
      have h435' := Int64.not_le.mpr h435
      refine J_iconst (pc := 442) (v := (nI 0)) D10_works_442 (by decide) ?_
      refine J_zret (pc := 443) D10_works_443 rfl (by decide) ?_
      exact ⟨_, _, rfl, Or.inl ⟨rfl, fun q => q (Or.inr h435)⟩⟩
    · replace h435 := mt (lg_cmp_lt _ _).mpr h435
      have h435' := Int64.not_lt.mp h435
      refine J_iconst (pc := 438) (v := (nI 1)) D10_works_438 (by decide) ?_
      refine J_goto (pc := 439) (tgt := 443) D10_works_439 (by decide) ?_
      refine J_zret (pc := 443) D10_works_443 rfl (by decide) ?_
      exact ⟨_, _, rfl, Or.inr ⟨rfl, fun q => q.elim h426 h435, rfl, uL_s, fun i hi => uL_n (by omega)⟩⟩
theorem c10_works0 {d : Nat} {s : Nat → Int32} {A : Nat → Nat → Int32} {L : LL} {M : Nat → MR} {h : Nat} (hh : h ≤ 62) (es : s 35 = nI (h + 2)) (h1 : BL (L.2 h)) (h2 : BL (L.2 (h + 1))) : Tr (d + 1) 0 0 m10_works [.ref 0, .int (nI 262)] (modW s A L M) (fun r w' => ∃ x' k', w' = modW (updI s 35 x') A (L.1, k') M ∧ ((r = some (.int 0) ∧ ¬ BL (joinF (nI 16) (L.2 h) (L.2 (h + 1)))) ∨ (r = some (.int (nI 1)) ∧ BL (joinF (nI 16) (L.2 h) (L.2 (h + 1))) ∧ x' = nI (h + 1) ∧ k' h = (joinF (nI 16) (L.2 h) (L.2 (h + 1))) ∧ ∀ i, i < h → k' i = L.2 i))) := by
  refine Tr.intro (by decide) rfl ?_
  rw [← updI_i (s := s) (k := 35), es]
  refine J_aload_n (pc := 0) D10_works_0 rfl ?_
  refine J_getf (pc := 1) D10_works_1 fl10_72 rfl rfl ?_
  refine J_aload_n (pc := 4) D10_works_4 rfl ?_
  refine J_getf (pc := 5) D10_works_5 fl10_305 rfl rfl ?_
  refine J_iconst (pc := 8) (v := (nI 1)) D10_works_8 (by decide) ?_
  refine J_isub (pc := 9) D10_works_9 ?_
  refine J_mwld (pc := 10) D10_works_10 (nI_pred (h + 1)) (by omega) ?_
  refine J_lstore_n (pc := 11) D10_works_11 rfl ?_
  refine J_iload_n (pc := 12) D10_works_12 rfl ?_
  refine J_sipush (pc := 13) (v := (nI 260)) D10_works_13 (by decide) ?_
  refine J_icmp_ne (pc := 16) (tgt := 46) D10_works_16 (by decide) (fun h16 => ?_) (fun h16 => absurd h16 (by decide))
  refine J_aload_n (pc := 46) D10_works_46 rfl ?_
  refine J_getf (pc := 47) D10_works_47 fl10_72 rfl rfl ?_
  refine J_aload_n (pc := 50) D10_works_50 rfl ?_
  refine J_getf (pc := 51) D10_works_51 fl10_305 rfl rfl ?_
  refine J_iconst (pc := 54) (v := (nI 2)) D10_works_54 (by decide) ?_
  refine J_isub (pc := 55) D10_works_55 ?_
  refine J_mwld (pc := 56) D10_works_56 (nI_sub2 h) (by omega) ?_
  refine J_lstore (pc := 57) D10_works_57 rfl ?_
  refine J_aload_n (pc := 59) D10_works_59 rfl ?_
  refine J_dup (pc := 60) D10_works_60 rfl ?_
  refine J_getf (pc := 61) D10_works_61 fl10_305 rfl rfl ?_
  refine J_iconst (pc := 64) (v := (nI 1)) D10_works_64 (by decide) ?_
  refine J_isub (pc := 65) D10_works_65 ?_
  refine J_mput (pc := 66) D10_works_66 fp10_305 ms_35 ?_
  refine J_w (w2 := modW (updI s 35 (nI (h + 1))) A L M) (by rw [updI_u, updI_s, show nI (h + 2) - nI 1 = nI (h + 1) from nI_pred (h + 1)]) ?_
  refine J_iload_n (pc := 69) D10_works_69 rfl ?_
  refine J_lsw (pc := 70) (off := 314) (tgt := 384) D10_works_70 (by decide) (by decide) (by decide) ?_
  refine J_lload (pc := 384) D10_works_384 rfl ?_
  refine J_lconst (pc := 386) (v := 0) D10_works_386 (by decide) ?_
  refine J_lcmp (pc := 387) D10_works_387 ?_
  refine J_if_ne (pc := 388) (tgt := 397) D10_works_388 (by decide) (fun h388 => ?_) (fun h388 => ?_)
  · replace h388 := mt (lg_cmp_eq _ _).mpr h388
    refine J_iconst (pc := 397) (v := (nI 1)) D10_works_397 (by decide) ?_
    refine J_goto (pc := 398) (tgt := 402) D10_works_398 (by decide) ?_
    refine J_callSR (pc := 402) (ι := []) (ac := [.int _]) D10_works_402 m10_is_s t1639 (c10_is (d := d)) (by omega) ⟨rfl, rfl⟩ rfl rfl (fun _ => rfl) rfl rfl rfl ?_
    refine J_lstore (pc := 405) D10_works_405 rfl ?_
    rw [show joinF (nI 16) (L.2 h) (L.2 (h + 1)) = l01 (¬ nI 1 = 0) from l01_c ⟨fun _ => (by decide), fun _ => Or.inl h388⟩]
    exact L10_works407 hh
  · replace h388 := (lg_cmp_eq _ _).mp h388
    have h388' := eq_true h388
    refine J_lload_n (pc := 391) D10_works_391 rfl ?_
    refine J_lconst (pc := 392) (v := 0) D10_works_392 (by decide) ?_
    refine J_lcmp (pc := 393) D10_works_393 ?_
    refine J_if_eq (pc := 394) (tgt := 401) D10_works_394 (by decide) (fun h394 => ?_) (fun h394 => ?_)
    · replace h394 := (lg_cmp_eq _ _).mp h394
      have h394' := eq_true h394
      refine J_iconst (pc := 401) (v := (nI 0)) D10_works_401 (by decide) ?_
      refine J_callSR (pc := 402) (ι := []) (ac := [.int _]) D10_works_402 m10_is_s t1639 (c10_is (d := d)) (by omega) ⟨rfl, rfl⟩ rfl rfl (fun _ => rfl) rfl rfl rfl ?_
      refine J_lstore (pc := 405) D10_works_405 rfl ?_
      rw [show joinF (nI 16) (L.2 h) (L.2 (h + 1)) = l01 (¬ nI 0 = 0) from l01_c ⟨fun q => q.elim (absurd h388) (absurd h394), fun q => absurd rfl q⟩]
      exact L10_works407 hh
    · replace h394 := mt (lg_cmp_eq _ _).mpr h394
      refine J_iconst (pc := 397) (v := (nI 1)) D10_works_397 (by decide) ?_
      refine J_goto (pc := 398) (tgt := 402) D10_works_398 (by decide) ?_
      refine J_callSR (pc := 402) (ι := []) (ac := [.int _]) D10_works_402 m10_is_s t1639 (c10_is (d := d)) (by omega) ⟨rfl, rfl⟩ rfl rfl (fun _ => rfl) rfl rfl rfl ?_
      refine J_lstore (pc := 405) D10_works_405 rfl ?_
      rw [show joinF (nI 16) (L.2 h) (L.2 (h + 1)) = l01 (¬ nI 1 = 0) from l01_c ⟨fun _ => (by decide), fun _ => Or.inr h394⟩]
      exact L10_works407 hh
theorem c10_works1 {d : Nat} {s : Nat → Int32} {A : Nat → Nat → Int32} {L : LL} {M : Nat → MR} {h : Nat} (hh : h ≤ 62) (es : s 35 = nI (h + 2)) (h1 : BL (L.2 h)) (h2 : BL (L.2 (h + 1))) : Tr (d + 1) 0 0 m10_works [.ref 0, .int (nI 261)] (modW s A L M) (fun r w' => ∃ x' k', w' = modW (updI s 35 x') A (L.1, k') M ∧ ((r = some (.int 0) ∧ ¬ BL (joinF (nI 17) (L.2 h) (L.2 (h + 1)))) ∨ (r = some (.int (nI 1)) ∧ BL (joinF (nI 17) (L.2 h) (L.2 (h + 1))) ∧ x' = nI (h + 1) ∧ k' h = (joinF (nI 17) (L.2 h) (L.2 (h + 1))) ∧ ∀ i, i < h → k' i = L.2 i))) := by
  refine Tr.intro (by decide) rfl ?_
  rw [← updI_i (s := s) (k := 35), es]
  refine J_aload_n (pc := 0) D10_works_0 rfl ?_
  refine J_getf (pc := 1) D10_works_1 fl10_72 rfl rfl ?_
  refine J_aload_n (pc := 4) D10_works_4 rfl ?_
  refine J_getf (pc := 5) D10_works_5 fl10_305 rfl rfl ?_
  refine J_iconst (pc := 8) (v := (nI 1)) D10_works_8 (by decide) ?_
  refine J_isub (pc := 9) D10_works_9 ?_
  refine J_mwld (pc := 10) D10_works_10 (nI_pred (h + 1)) (by omega) ?_
  refine J_lstore_n (pc := 11) D10_works_11 rfl ?_
  refine J_iload_n (pc := 12) D10_works_12 rfl ?_
  refine J_sipush (pc := 13) (v := (nI 260)) D10_works_13 (by decide) ?_
  refine J_icmp_ne (pc := 16) (tgt := 46) D10_works_16 (by decide) (fun h16 => ?_) (fun h16 => absurd h16 (by decide))
  refine J_aload_n (pc := 46) D10_works_46 rfl ?_
  refine J_getf (pc := 47) D10_works_47 fl10_72 rfl rfl ?_
  refine J_aload_n (pc := 50) D10_works_50 rfl ?_
  refine J_getf (pc := 51) D10_works_51 fl10_305 rfl rfl ?_
  refine J_iconst (pc := 54) (v := (nI 2)) D10_works_54 (by decide) ?_
  refine J_isub (pc := 55) D10_works_55 ?_
  refine J_mwld (pc := 56) D10_works_56 (nI_sub2 h) (by omega) ?_
  refine J_lstore (pc := 57) D10_works_57 rfl ?_
  refine J_aload_n (pc := 59) D10_works_59 rfl ?_
  refine J_dup (pc := 60) D10_works_60 rfl ?_
  refine J_getf (pc := 61) D10_works_61 fl10_305 rfl rfl ?_
  refine J_iconst (pc := 64) (v := (nI 1)) D10_works_64 (by decide) ?_
  refine J_isub (pc := 65) D10_works_65 ?_
  refine J_mput (pc := 66) D10_works_66 fp10_305 ms_35 ?_
  refine J_w (w2 := modW (updI s 35 (nI (h + 1))) A L M) (by rw [updI_u, updI_s, show nI (h + 2) - nI 1 = nI (h + 1) from nI_pred (h + 1)]) ?_
  refine J_iload_n (pc := 69) D10_works_69 rfl ?_
  refine J_lsw (pc := 70) (off := 288) (tgt := 358) D10_works_70 (by decide) (by decide) (by decide) ?_
  refine J_lload (pc := 358) D10_works_358 rfl ?_
  refine J_lconst (pc := 360) (v := 0) D10_works_360 (by decide) ?_
  refine J_lcmp (pc := 361) D10_works_361 ?_
  refine J_if_eq (pc := 362) (tgt := 375) D10_works_362 (by decide) (fun h362 => ?_) (fun h362 => ?_)
  · replace h362 := (lg_cmp_eq _ _).mp h362
    have h362' := eq_true h362
    refine J_iconst (pc := 375) (v := (nI 0)) D10_works_375 (by decide) ?_
    refine J_callSR (pc := 376) (ι := []) (ac := [.int _]) D10_works_376 m10_is_s t1639 (c10_is (d := d)) (by omega) ⟨rfl, rfl⟩ rfl rfl (fun _ => rfl) rfl rfl rfl ?_
    refine J_lstore (pc := 379) D10_works_379 rfl ?_
    refine J_goto (pc := 381) (tgt := 407) D10_works_381 (by decide) ?_
    rw [show joinF (nI 17) (L.2 h) (L.2 (h + 1)) = l01 (¬ nI 0 = 0) from l01_c ⟨fun q => absurd h362 q.1, fun q => absurd rfl q⟩]
    exact L10_works407 hh
  · replace h362 := mt (lg_cmp_eq _ _).mpr h362
    refine J_lload_n (pc := 365) D10_works_365 rfl ?_
    refine J_lconst (pc := 366) (v := 0) D10_works_366 (by decide) ?_
    refine J_lcmp (pc := 367) D10_works_367 ?_
    refine J_if_eq (pc := 368) (tgt := 375) D10_works_368 (by decide) (fun h368 => ?_) (fun h368 => ?_)
    · replace h368 := (lg_cmp_eq _ _).mp h368
      have h368' := eq_true h368
      refine J_iconst (pc := 375) (v := (nI 0)) D10_works_375 (by decide) ?_
      refine J_callSR (pc := 376) (ι := []) (ac := [.int _]) D10_works_376 m10_is_s t1639 (c10_is (d := d)) (by omega) ⟨rfl, rfl⟩ rfl rfl (fun _ => rfl) rfl rfl rfl ?_
      refine J_lstore (pc := 379) D10_works_379 rfl ?_
      refine J_goto (pc := 381) (tgt := 407) D10_works_381 (by decide) ?_
      rw [show joinF (nI 17) (L.2 h) (L.2 (h + 1)) = l01 (¬ nI 0 = 0) from l01_c ⟨fun q => absurd h368 q.2, fun q => absurd rfl q⟩]
      exact L10_works407 hh
    · replace h368 := mt (lg_cmp_eq _ _).mpr h368
      refine J_iconst (pc := 371) (v := (nI 1)) D10_works_371 (by decide) ?_
      refine J_goto (pc := 372) (tgt := 376) D10_works_372 (by decide) ?_
      refine J_callSR (pc := 376) (ι := []) (ac := [.int _]) D10_works_376 m10_is_s t1639 (c10_is (d := d)) (by omega) ⟨rfl, rfl⟩ rfl rfl (fun _ => rfl) rfl rfl rfl ?_
      refine J_lstore (pc := 379) D10_works_379 rfl ?_
      refine J_goto (pc := 381) (tgt := 407) D10_works_381 (by decide) ?_
      rw [show joinF (nI 17) (L.2 h) (L.2 (h + 1)) = l01 (¬ nI 1 = 0) from l01_c ⟨fun _ => (by decide), fun _ => ⟨h362, h368⟩⟩]
      exact L10_works407 hh
theorem c10_works3 {d : Nat} {s : Nat → Int32} {A : Nat → Nat → Int32} {L : LL} {M : Nat → MR} {h : Nat} (hh : h ≤ 62) (es : s 35 = nI (h + 2)) (h1 : BL (L.2 h)) (h2 : BL (L.2 (h + 1))) : Tr (d + 1) 0 0 m10_works [.ref 0, .int (nI 60)] (modW s A L M) (fun r w' => ∃ x' k', w' = modW (updI s 35 x') A (L.1, k') M ∧ ((r = some (.int 0) ∧ ¬ BL (joinF (nI 19) (L.2 h) (L.2 (h + 1)))) ∨ (r = some (.int (nI 1)) ∧ BL (joinF (nI 19) (L.2 h) (L.2 (h + 1))) ∧ x' = nI (h + 1) ∧ k' h = (joinF (nI 19) (L.2 h) (L.2 (h + 1))) ∧ ∀ i, i < h → k' i = L.2 i))) := by
  refine Tr.intro (by decide) rfl ?_
  rw [← updI_i (s := s) (k := 35), es]
  refine J_aload_n (pc := 0) D10_works_0 rfl ?_
  refine J_getf (pc := 1) D10_works_1 fl10_72 rfl rfl ?_
  refine J_aload_n (pc := 4) D10_works_4 rfl ?_
  refine J_getf (pc := 5) D10_works_5 fl10_305 rfl rfl ?_
  refine J_iconst (pc := 8) (v := (nI 1)) D10_works_8 (by decide) ?_
  refine J_isub (pc := 9) D10_works_9 ?_
  refine J_mwld (pc := 10) D10_works_10 (nI_pred (h + 1)) (by omega) ?_
  refine J_lstore_n (pc := 11) D10_works_11 rfl ?_
  refine J_iload_n (pc := 12) D10_works_12 rfl ?_
  refine J_sipush (pc := 13) (v := (nI 260)) D10_works_13 (by decide) ?_
  refine J_icmp_ne (pc := 16) (tgt := 46) D10_works_16 (by decide) (fun h16 => ?_) (fun h16 => absurd h16 (by decide))
  refine J_aload_n (pc := 46) D10_works_46 rfl ?_
  refine J_getf (pc := 47) D10_works_47 fl10_72 rfl rfl ?_
  refine J_aload_n (pc := 50) D10_works_50 rfl ?_
  refine J_getf (pc := 51) D10_works_51 fl10_305 rfl rfl ?_
  refine J_iconst (pc := 54) (v := (nI 2)) D10_works_54 (by decide) ?_
  refine J_isub (pc := 55) D10_works_55 ?_
  refine J_mwld (pc := 56) D10_works_56 (nI_sub2 h) (by omega) ?_
  refine J_lstore (pc := 57) D10_works_57 rfl ?_
  refine J_aload_n (pc := 59) D10_works_59 rfl ?_
  refine J_dup (pc := 60) D10_works_60 rfl ?_
  refine J_getf (pc := 61) D10_works_61 fl10_305 rfl rfl ?_
  refine J_iconst (pc := 64) (v := (nI 1)) D10_works_64 (by decide) ?_
  refine J_isub (pc := 65) D10_works_65 ?_
  refine J_mput (pc := 66) D10_works_66 fp10_305 ms_35 ?_
  refine J_w (w2 := modW (updI s 35 (nI (h + 1))) A L M) (by rw [updI_u, updI_s, show nI (h + 2) - nI 1 = nI (h + 1) from nI_pred (h + 1)]) ?_
  refine J_iload_n (pc := 69) D10_works_69 rfl ?_
  refine J_lsw (pc := 70) (off := 168) (tgt := 238) D10_works_70 (by decide) (by decide) (by decide) ?_
  refine J_lload (pc := 238) D10_works_238 rfl ?_
  refine J_lload_n (pc := 240) D10_works_240 rfl ?_
  refine J_lcmp (pc := 241) D10_works_241 ?_
  refine J_if_ge (pc := 242) (tgt := 249) D10_works_242 (by decide) (fun h242 => ?_) (fun h242 => ?_)
  · replace h242 := (lg_cmp_ge _ _).mp h242
    have h242' := Int64.not_lt.mpr h242
    refine J_iconst (pc := 249) (v := (nI 0)) D10_works_249 (by decide) ?_
    refine J_callSR (pc := 250) (ι := []) (ac := [.int _]) D10_works_250 m10_is_s t1639 (c10_is (d := d)) (by omega) ⟨rfl, rfl⟩ rfl rfl (fun _ => rfl) rfl rfl rfl ?_
    refine J_lstore (pc := 253) D10_works_253 rfl ?_
    refine J_goto (pc := 255) (tgt := 407) D10_works_255 (by decide) ?_
    rw [show joinF (nI 19) (L.2 h) (L.2 (h + 1)) = l01 (¬ nI 0 = 0) from l01_c ⟨fun q => absurd q (Int64.not_lt.mpr h242), fun q => absurd rfl q⟩]
    exact L10_works407 hh
  · replace h242 := mt (lg_cmp_ge _ _).mpr h242
    have h242' := Int64.not_le.mp h242
    refine J_iconst (pc := 245) (v := (nI 1)) D10_works_245 (by decide) ?_
    refine J_goto (pc := 246) (tgt := 250) D10_works_246 (by decide) ?_
    refine J_callSR (pc := 250) (ι := []) (ac := [.int _]) D10_works_250 m10_is_s t1639 (c10_is (d := d)) (by omega) ⟨rfl, rfl⟩ rfl rfl (fun _ => rfl) rfl rfl rfl ?_
    refine J_lstore (pc := 253) D10_works_253 rfl ?_
    refine J_goto (pc := 255) (tgt := 407) D10_works_255 (by decide) ?_
    rw [show joinF (nI 19) (L.2 h) (L.2 (h + 1)) = l01 (¬ nI 1 = 0) from l01_c ⟨fun _ => (by decide), fun _ => Int64.not_le.mp h242⟩]
    exact L10_works407 hh
theorem c10_works4 {d : Nat} {s : Nat → Int32} {A : Nat → Nat → Int32} {L : LL} {M : Nat → MR} {h : Nat} (hh : h ≤ 62) (es : s 35 = nI (h + 2)) (h1 : BL (L.2 h)) (h2 : BL (L.2 (h + 1))) : Tr (d + 1) 0 0 m10_works [.ref 0, .int (nI 256)] (modW s A L M) (fun r w' => ∃ x' k', w' = modW (updI s 35 x') A (L.1, k') M ∧ ((r = some (.int 0) ∧ ¬ BL (joinF (nI 20) (L.2 h) (L.2 (h + 1)))) ∨ (r = some (.int (nI 1)) ∧ BL (joinF (nI 20) (L.2 h) (L.2 (h + 1))) ∧ x' = nI (h + 1) ∧ k' h = (joinF (nI 20) (L.2 h) (L.2 (h + 1))) ∧ ∀ i, i < h → k' i = L.2 i))) := by
  refine Tr.intro (by decide) rfl ?_
  rw [← updI_i (s := s) (k := 35), es]
  refine J_aload_n (pc := 0) D10_works_0 rfl ?_
  refine J_getf (pc := 1) D10_works_1 fl10_72 rfl rfl ?_
  refine J_aload_n (pc := 4) D10_works_4 rfl ?_
  refine J_getf (pc := 5) D10_works_5 fl10_305 rfl rfl ?_
  refine J_iconst (pc := 8) (v := (nI 1)) D10_works_8 (by decide) ?_
  refine J_isub (pc := 9) D10_works_9 ?_
  refine J_mwld (pc := 10) D10_works_10 (nI_pred (h + 1)) (by omega) ?_
  refine J_lstore_n (pc := 11) D10_works_11 rfl ?_
  refine J_iload_n (pc := 12) D10_works_12 rfl ?_
  refine J_sipush (pc := 13) (v := (nI 260)) D10_works_13 (by decide) ?_
  refine J_icmp_ne (pc := 16) (tgt := 46) D10_works_16 (by decide) (fun h16 => ?_) (fun h16 => absurd h16 (by decide))
  refine J_aload_n (pc := 46) D10_works_46 rfl ?_
  refine J_getf (pc := 47) D10_works_47 fl10_72 rfl rfl ?_
  refine J_aload_n (pc := 50) D10_works_50 rfl ?_
  refine J_getf (pc := 51) D10_works_51 fl10_305 rfl rfl ?_
  refine J_iconst (pc := 54) (v := (nI 2)) D10_works_54 (by decide) ?_
  refine J_isub (pc := 55) D10_works_55 ?_
  refine J_mwld (pc := 56) D10_works_56 (nI_sub2 h) (by omega) ?_
  refine J_lstore (pc := 57) D10_works_57 rfl ?_
  refine J_aload_n (pc := 59) D10_works_59 rfl ?_
  refine J_dup (pc := 60) D10_works_60 rfl ?_
  refine J_getf (pc := 61) D10_works_61 fl10_305 rfl rfl ?_
  refine J_iconst (pc := 64) (v := (nI 1)) D10_works_64 (by decide) ?_
  refine J_isub (pc := 65) D10_works_65 ?_
  refine J_mput (pc := 66) D10_works_66 fp10_305 ms_35 ?_
  refine J_w (w2 := modW (updI s 35 (nI (h + 1))) A L M) (by rw [updI_u, updI_s, show nI (h + 2) - nI 1 = nI (h + 1) from nI_pred (h + 1)]) ?_
  refine J_iload_n (pc := 69) D10_works_69 rfl ?_
  refine J_lsw (pc := 70) (off := 228) (tgt := 298) D10_works_70 (by decide) (by decide) (by decide) ?_
  refine J_lload (pc := 298) D10_works_298 rfl ?_
  refine J_lload_n (pc := 300) D10_works_300 rfl ?_
  refine J_lcmp (pc := 301) D10_works_301 ?_
  refine J_if_gt (pc := 302) (tgt := 309) D10_works_302 (by decide) (fun h302 => ?_) (fun h302 => ?_)
  · replace h302 := (lg_cmp_gt _ _).mp h302
    have h302' := Int64.not_le.mpr h302
    refine J_iconst (pc := 309) (v := (nI 0)) D10_works_309 (by decide) ?_
    refine J_callSR (pc := 310) (ι := []) (ac := [.int _]) D10_works_310 m10_is_s t1639 (c10_is (d := d)) (by omega) ⟨rfl, rfl⟩ rfl rfl (fun _ => rfl) rfl rfl rfl ?_
    refine J_lstore (pc := 313) D10_works_313 rfl ?_
    refine J_goto (pc := 315) (tgt := 407) D10_works_315 (by decide) ?_
    rw [show joinF (nI 20) (L.2 h) (L.2 (h + 1)) = l01 (¬ nI 0 = 0) from l01_c ⟨fun q => absurd q (Int64.not_le.mpr h302), fun q => absurd rfl q⟩]
    exact L10_works407 hh
  · replace h302 := mt (lg_cmp_gt _ _).mpr h302
    have h302' := Int64.not_lt.mp h302
    refine J_iconst (pc := 305) (v := (nI 1)) D10_works_305 (by decide) ?_
    refine J_goto (pc := 306) (tgt := 310) D10_works_306 (by decide) ?_
    refine J_callSR (pc := 310) (ι := []) (ac := [.int _]) D10_works_310 m10_is_s t1639 (c10_is (d := d)) (by omega) ⟨rfl, rfl⟩ rfl rfl (fun _ => rfl) rfl rfl rfl ?_
    refine J_lstore (pc := 313) D10_works_313 rfl ?_
    refine J_goto (pc := 315) (tgt := 407) D10_works_315 (by decide) ?_
    rw [show joinF (nI 20) (L.2 h) (L.2 (h + 1)) = l01 (¬ nI 1 = 0) from l01_c ⟨fun _ => (by decide), fun _ => Int64.not_lt.mp h302⟩]
    exact L10_works407 hh
theorem c10_works5 {d : Nat} {s : Nat → Int32} {A : Nat → Nat → Int32} {L : LL} {M : Nat → MR} {h : Nat} (hh : h ≤ 62) (es : s 35 = nI (h + 2)) (h1 : BL (L.2 h)) (h2 : BL (L.2 (h + 1))) : Tr (d + 1) 0 0 m10_works [.ref 0, .int (nI 61)] (modW s A L M) (fun r w' => ∃ x' k', w' = modW (updI s 35 x') A (L.1, k') M ∧ ((r = some (.int 0) ∧ ¬ BL (joinF (nI 21) (L.2 h) (L.2 (h + 1)))) ∨ (r = some (.int (nI 1)) ∧ BL (joinF (nI 21) (L.2 h) (L.2 (h + 1))) ∧ x' = nI (h + 1) ∧ k' h = (joinF (nI 21) (L.2 h) (L.2 (h + 1))) ∧ ∀ i, i < h → k' i = L.2 i))) := by
  refine Tr.intro (by decide) rfl ?_
  rw [← updI_i (s := s) (k := 35), es]
  refine J_aload_n (pc := 0) D10_works_0 rfl ?_
  refine J_getf (pc := 1) D10_works_1 fl10_72 rfl rfl ?_
  refine J_aload_n (pc := 4) D10_works_4 rfl ?_
  refine J_getf (pc := 5) D10_works_5 fl10_305 rfl rfl ?_
  refine J_iconst (pc := 8) (v := (nI 1)) D10_works_8 (by decide) ?_
  refine J_isub (pc := 9) D10_works_9 ?_
  refine J_mwld (pc := 10) D10_works_10 (nI_pred (h + 1)) (by omega) ?_
  refine J_lstore_n (pc := 11) D10_works_11 rfl ?_
  refine J_iload_n (pc := 12) D10_works_12 rfl ?_
  refine J_sipush (pc := 13) (v := (nI 260)) D10_works_13 (by decide) ?_
  refine J_icmp_ne (pc := 16) (tgt := 46) D10_works_16 (by decide) (fun h16 => ?_) (fun h16 => absurd h16 (by decide))
  refine J_aload_n (pc := 46) D10_works_46 rfl ?_
  refine J_getf (pc := 47) D10_works_47 fl10_72 rfl rfl ?_
  refine J_aload_n (pc := 50) D10_works_50 rfl ?_
  refine J_getf (pc := 51) D10_works_51 fl10_305 rfl rfl ?_
  refine J_iconst (pc := 54) (v := (nI 2)) D10_works_54 (by decide) ?_
  refine J_isub (pc := 55) D10_works_55 ?_
  refine J_mwld (pc := 56) D10_works_56 (nI_sub2 h) (by omega) ?_
  refine J_lstore (pc := 57) D10_works_57 rfl ?_
  refine J_aload_n (pc := 59) D10_works_59 rfl ?_
  refine J_dup (pc := 60) D10_works_60 rfl ?_
  refine J_getf (pc := 61) D10_works_61 fl10_305 rfl rfl ?_
  refine J_iconst (pc := 64) (v := (nI 1)) D10_works_64 (by decide) ?_
  refine J_isub (pc := 65) D10_works_65 ?_
  refine J_mput (pc := 66) D10_works_66 fp10_305 ms_35 ?_
  refine J_w (w2 := modW (updI s 35 (nI (h + 1))) A L M) (by rw [updI_u, updI_s, show nI (h + 2) - nI 1 = nI (h + 1) from nI_pred (h + 1)]) ?_
  refine J_iload_n (pc := 69) D10_works_69 rfl ?_
  refine J_lsw (pc := 70) (off := 208) (tgt := 278) D10_works_70 (by decide) (by decide) (by decide) ?_
  refine J_lload (pc := 278) D10_works_278 rfl ?_
  refine J_lload_n (pc := 280) D10_works_280 rfl ?_
  refine J_lcmp (pc := 281) D10_works_281 ?_
  refine J_if_ne (pc := 282) (tgt := 289) D10_works_282 (by decide) (fun h282 => ?_) (fun h282 => ?_)
  · replace h282 := mt (lg_cmp_eq _ _).mpr h282
    refine J_iconst (pc := 289) (v := (nI 0)) D10_works_289 (by decide) ?_
    refine J_callSR (pc := 290) (ι := []) (ac := [.int _]) D10_works_290 m10_is_s t1639 (c10_is (d := d)) (by omega) ⟨rfl, rfl⟩ rfl rfl (fun _ => rfl) rfl rfl rfl ?_
    refine J_lstore (pc := 293) D10_works_293 rfl ?_
    refine J_goto (pc := 295) (tgt := 407) D10_works_295 (by decide) ?_
    rw [show joinF (nI 21) (L.2 h) (L.2 (h + 1)) = l01 (¬ nI 0 = 0) from l01_c ⟨fun q => absurd q (h282), fun q => absurd rfl q⟩]
    exact L10_works407 hh
  · replace h282 := (lg_cmp_eq _ _).mp h282
    have h282' := eq_true h282
    refine J_iconst (pc := 285) (v := (nI 1)) D10_works_285 (by decide) ?_
    refine J_goto (pc := 286) (tgt := 290) D10_works_286 (by decide) ?_
    refine J_callSR (pc := 290) (ι := []) (ac := [.int _]) D10_works_290 m10_is_s t1639 (c10_is (d := d)) (by omega) ⟨rfl, rfl⟩ rfl rfl (fun _ => rfl) rfl rfl rfl ?_
    refine J_lstore (pc := 293) D10_works_293 rfl ?_
    refine J_goto (pc := 295) (tgt := 407) D10_works_295 (by decide) ?_
    rw [show joinF (nI 21) (L.2 h) (L.2 (h + 1)) = l01 (¬ nI 1 = 0) from l01_c ⟨fun _ => (by decide), fun _ => h282⟩]
    exact L10_works407 hh
theorem c10_works6 {d : Nat} {s : Nat → Int32} {A : Nat → Nat → Int32} {L : LL} {M : Nat → MR} {h : Nat} (hh : h ≤ 62) (es : s 35 = nI (h + 2)) (h1 : BL (L.2 h)) (h2 : BL (L.2 (h + 1))) : Tr (d + 1) 0 0 m10_works [.ref 0, .int (nI 257)] (modW s A L M) (fun r w' => ∃ x' k', w' = modW (updI s 35 x') A (L.1, k') M ∧ ((r = some (.int 0) ∧ ¬ BL (joinF (nI 22) (L.2 h) (L.2 (h + 1)))) ∨ (r = some (.int (nI 1)) ∧ BL (joinF (nI 22) (L.2 h) (L.2 (h + 1))) ∧ x' = nI (h + 1) ∧ k' h = (joinF (nI 22) (L.2 h) (L.2 (h + 1))) ∧ ∀ i, i < h → k' i = L.2 i))) := by
  refine Tr.intro (by decide) rfl ?_
  rw [← updI_i (s := s) (k := 35), es]
  refine J_aload_n (pc := 0) D10_works_0 rfl ?_
  refine J_getf (pc := 1) D10_works_1 fl10_72 rfl rfl ?_
  refine J_aload_n (pc := 4) D10_works_4 rfl ?_
  refine J_getf (pc := 5) D10_works_5 fl10_305 rfl rfl ?_
  refine J_iconst (pc := 8) (v := (nI 1)) D10_works_8 (by decide) ?_
  refine J_isub (pc := 9) D10_works_9 ?_
  refine J_mwld (pc := 10) D10_works_10 (nI_pred (h + 1)) (by omega) ?_
  refine J_lstore_n (pc := 11) D10_works_11 rfl ?_
  refine J_iload_n (pc := 12) D10_works_12 rfl ?_
  refine J_sipush (pc := 13) (v := (nI 260)) D10_works_13 (by decide) ?_
  refine J_icmp_ne (pc := 16) (tgt := 46) D10_works_16 (by decide) (fun h16 => ?_) (fun h16 => absurd h16 (by decide))
  refine J_aload_n (pc := 46) D10_works_46 rfl ?_
  refine J_getf (pc := 47) D10_works_47 fl10_72 rfl rfl ?_
  refine J_aload_n (pc := 50) D10_works_50 rfl ?_
  refine J_getf (pc := 51) D10_works_51 fl10_305 rfl rfl ?_
  refine J_iconst (pc := 54) (v := (nI 2)) D10_works_54 (by decide) ?_
  refine J_isub (pc := 55) D10_works_55 ?_
  refine J_mwld (pc := 56) D10_works_56 (nI_sub2 h) (by omega) ?_
  refine J_lstore (pc := 57) D10_works_57 rfl ?_
  refine J_aload_n (pc := 59) D10_works_59 rfl ?_
  refine J_dup (pc := 60) D10_works_60 rfl ?_
  refine J_getf (pc := 61) D10_works_61 fl10_305 rfl rfl ?_
  refine J_iconst (pc := 64) (v := (nI 1)) D10_works_64 (by decide) ?_
  refine J_isub (pc := 65) D10_works_65 ?_
  refine J_mput (pc := 66) D10_works_66 fp10_305 ms_35 ?_
  refine J_w (w2 := modW (updI s 35 (nI (h + 1))) A L M) (by rw [updI_u, updI_s, show nI (h + 2) - nI 1 = nI (h + 1) from nI_pred (h + 1)]) ?_
  refine J_iload_n (pc := 69) D10_works_69 rfl ?_
  refine J_lsw (pc := 70) (off := 268) (tgt := 338) D10_works_70 (by decide) (by decide) (by decide) ?_
  refine J_lload (pc := 338) D10_works_338 rfl ?_
  refine J_lload_n (pc := 340) D10_works_340 rfl ?_
  refine J_lcmp (pc := 341) D10_works_341 ?_
  refine J_if_eq (pc := 342) (tgt := 349) D10_works_342 (by decide) (fun h342 => ?_) (fun h342 => ?_)
  · replace h342 := (lg_cmp_eq _ _).mp h342
    have h342' := eq_true h342
    refine J_iconst (pc := 349) (v := (nI 0)) D10_works_349 (by decide) ?_
    refine J_callSR (pc := 350) (ι := []) (ac := [.int _]) D10_works_350 m10_is_s t1639 (c10_is (d := d)) (by omega) ⟨rfl, rfl⟩ rfl rfl (fun _ => rfl) rfl rfl rfl ?_
    refine J_lstore (pc := 353) D10_works_353 rfl ?_
    refine J_goto (pc := 355) (tgt := 407) D10_works_355 (by decide) ?_
    rw [show joinF (nI 22) (L.2 h) (L.2 (h + 1)) = l01 (¬ nI 0 = 0) from l01_c ⟨fun q => absurd q (fun z => z h342), fun q => absurd rfl q⟩]
    exact L10_works407 hh
  · replace h342 := mt (lg_cmp_eq _ _).mpr h342
    refine J_iconst (pc := 345) (v := (nI 1)) D10_works_345 (by decide) ?_
    refine J_goto (pc := 346) (tgt := 350) D10_works_346 (by decide) ?_
    refine J_callSR (pc := 350) (ι := []) (ac := [.int _]) D10_works_350 m10_is_s t1639 (c10_is (d := d)) (by omega) ⟨rfl, rfl⟩ rfl rfl (fun _ => rfl) rfl rfl rfl ?_
    refine J_lstore (pc := 353) D10_works_353 rfl ?_
    refine J_goto (pc := 355) (tgt := 407) D10_works_355 (by decide) ?_
    rw [show joinF (nI 22) (L.2 h) (L.2 (h + 1)) = l01 (¬ nI 1 = 0) from l01_c ⟨fun _ => (by decide), fun _ => h342⟩]
    exact L10_works407 hh
theorem c10_works7 {d : Nat} {s : Nat → Int32} {A : Nat → Nat → Int32} {L : LL} {M : Nat → MR} {h : Nat} (hh : h ≤ 62) (es : s 35 = nI (h + 2)) (h1 : BL (L.2 h)) (h2 : BL (L.2 (h + 1))) : Tr (d + 1) 0 0 m10_works [.ref 0, .int (nI 258)] (modW s A L M) (fun r w' => ∃ x' k', w' = modW (updI s 35 x') A (L.1, k') M ∧ ((r = some (.int 0) ∧ ¬ BL (joinF (nI 23) (L.2 h) (L.2 (h + 1)))) ∨ (r = some (.int (nI 1)) ∧ BL (joinF (nI 23) (L.2 h) (L.2 (h + 1))) ∧ x' = nI (h + 1) ∧ k' h = (joinF (nI 23) (L.2 h) (L.2 (h + 1))) ∧ ∀ i, i < h → k' i = L.2 i))) := by
  refine Tr.intro (by decide) rfl ?_
  rw [← updI_i (s := s) (k := 35), es]
  refine J_aload_n (pc := 0) D10_works_0 rfl ?_
  refine J_getf (pc := 1) D10_works_1 fl10_72 rfl rfl ?_
  refine J_aload_n (pc := 4) D10_works_4 rfl ?_
  refine J_getf (pc := 5) D10_works_5 fl10_305 rfl rfl ?_
  refine J_iconst (pc := 8) (v := (nI 1)) D10_works_8 (by decide) ?_
  refine J_isub (pc := 9) D10_works_9 ?_
  refine J_mwld (pc := 10) D10_works_10 (nI_pred (h + 1)) (by omega) ?_
  refine J_lstore_n (pc := 11) D10_works_11 rfl ?_
  refine J_iload_n (pc := 12) D10_works_12 rfl ?_
  refine J_sipush (pc := 13) (v := (nI 260)) D10_works_13 (by decide) ?_
  refine J_icmp_ne (pc := 16) (tgt := 46) D10_works_16 (by decide) (fun h16 => ?_) (fun h16 => absurd h16 (by decide))
  refine J_aload_n (pc := 46) D10_works_46 rfl ?_
  refine J_getf (pc := 47) D10_works_47 fl10_72 rfl rfl ?_
  refine J_aload_n (pc := 50) D10_works_50 rfl ?_
  refine J_getf (pc := 51) D10_works_51 fl10_305 rfl rfl ?_
  refine J_iconst (pc := 54) (v := (nI 2)) D10_works_54 (by decide) ?_
  refine J_isub (pc := 55) D10_works_55 ?_
  refine J_mwld (pc := 56) D10_works_56 (nI_sub2 h) (by omega) ?_
  refine J_lstore (pc := 57) D10_works_57 rfl ?_
  refine J_aload_n (pc := 59) D10_works_59 rfl ?_
  refine J_dup (pc := 60) D10_works_60 rfl ?_
  refine J_getf (pc := 61) D10_works_61 fl10_305 rfl rfl ?_
  refine J_iconst (pc := 64) (v := (nI 1)) D10_works_64 (by decide) ?_
  refine J_isub (pc := 65) D10_works_65 ?_
  refine J_mput (pc := 66) D10_works_66 fp10_305 ms_35 ?_
  refine J_w (w2 := modW (updI s 35 (nI (h + 1))) A L M) (by rw [updI_u, updI_s, show nI (h + 2) - nI 1 = nI (h + 1) from nI_pred (h + 1)]) ?_
  refine J_iload_n (pc := 69) D10_works_69 rfl ?_
  refine J_lsw (pc := 70) (off := 248) (tgt := 318) D10_works_70 (by decide) (by decide) (by decide) ?_
  refine J_lload (pc := 318) D10_works_318 rfl ?_
  refine J_lload_n (pc := 320) D10_works_320 rfl ?_
  refine J_lcmp (pc := 321) D10_works_321 ?_
  refine J_if_lt (pc := 322) (tgt := 329) D10_works_322 (by decide) (fun h322 => ?_) (fun h322 => ?_)
  · replace h322 := (lg_cmp_lt _ _).mp h322
    have h322' := Int64.not_le.mpr h322
    refine J_iconst (pc := 329) (v := (nI 0)) D10_works_329 (by decide) ?_
    refine J_callSR (pc := 330) (ι := []) (ac := [.int _]) D10_works_330 m10_is_s t1639 (c10_is (d := d)) (by omega) ⟨rfl, rfl⟩ rfl rfl (fun _ => rfl) rfl rfl rfl ?_
    refine J_lstore (pc := 333) D10_works_333 rfl ?_
    refine J_goto (pc := 335) (tgt := 407) D10_works_335 (by decide) ?_
    rw [show joinF (nI 23) (L.2 h) (L.2 (h + 1)) = l01 (¬ nI 0 = 0) from l01_c ⟨fun q => absurd q (Int64.not_le.mpr h322), fun q => absurd rfl q⟩]
    exact L10_works407 hh
  · replace h322 := mt (lg_cmp_lt _ _).mpr h322
    have h322' := Int64.not_lt.mp h322
    refine J_iconst (pc := 325) (v := (nI 1)) D10_works_325 (by decide) ?_
    refine J_goto (pc := 326) (tgt := 330) D10_works_326 (by decide) ?_
    refine J_callSR (pc := 330) (ι := []) (ac := [.int _]) D10_works_330 m10_is_s t1639 (c10_is (d := d)) (by omega) ⟨rfl, rfl⟩ rfl rfl (fun _ => rfl) rfl rfl rfl ?_
    refine J_lstore (pc := 333) D10_works_333 rfl ?_
    refine J_goto (pc := 335) (tgt := 407) D10_works_335 (by decide) ?_
    rw [show joinF (nI 23) (L.2 h) (L.2 (h + 1)) = l01 (¬ nI 1 = 0) from l01_c ⟨fun _ => (by decide), fun _ => Int64.not_lt.mp h322⟩]
    exact L10_works407 hh
theorem c10_works8 {d : Nat} {s : Nat → Int32} {A : Nat → Nat → Int32} {L : LL} {M : Nat → MR} {h : Nat} (hh : h ≤ 62) (es : s 35 = nI (h + 2)) (h1 : BL (L.2 h)) (h2 : BL (L.2 (h + 1))) : Tr (d + 1) 0 0 m10_works [.ref 0, .int (nI 62)] (modW s A L M) (fun r w' => ∃ x' k', w' = modW (updI s 35 x') A (L.1, k') M ∧ ((r = some (.int 0) ∧ ¬ BL (joinF (nI 24) (L.2 h) (L.2 (h + 1)))) ∨ (r = some (.int (nI 1)) ∧ BL (joinF (nI 24) (L.2 h) (L.2 (h + 1))) ∧ x' = nI (h + 1) ∧ k' h = (joinF (nI 24) (L.2 h) (L.2 (h + 1))) ∧ ∀ i, i < h → k' i = L.2 i))) := by
  refine Tr.intro (by decide) rfl ?_
  rw [← updI_i (s := s) (k := 35), es]
  refine J_aload_n (pc := 0) D10_works_0 rfl ?_
  refine J_getf (pc := 1) D10_works_1 fl10_72 rfl rfl ?_
  refine J_aload_n (pc := 4) D10_works_4 rfl ?_
  refine J_getf (pc := 5) D10_works_5 fl10_305 rfl rfl ?_
  refine J_iconst (pc := 8) (v := (nI 1)) D10_works_8 (by decide) ?_
  refine J_isub (pc := 9) D10_works_9 ?_
  refine J_mwld (pc := 10) D10_works_10 (nI_pred (h + 1)) (by omega) ?_
  refine J_lstore_n (pc := 11) D10_works_11 rfl ?_
  refine J_iload_n (pc := 12) D10_works_12 rfl ?_
  refine J_sipush (pc := 13) (v := (nI 260)) D10_works_13 (by decide) ?_
  refine J_icmp_ne (pc := 16) (tgt := 46) D10_works_16 (by decide) (fun h16 => ?_) (fun h16 => absurd h16 (by decide))
  refine J_aload_n (pc := 46) D10_works_46 rfl ?_
  refine J_getf (pc := 47) D10_works_47 fl10_72 rfl rfl ?_
  refine J_aload_n (pc := 50) D10_works_50 rfl ?_
  refine J_getf (pc := 51) D10_works_51 fl10_305 rfl rfl ?_
  refine J_iconst (pc := 54) (v := (nI 2)) D10_works_54 (by decide) ?_
  refine J_isub (pc := 55) D10_works_55 ?_
  refine J_mwld (pc := 56) D10_works_56 (nI_sub2 h) (by omega) ?_
  refine J_lstore (pc := 57) D10_works_57 rfl ?_
  refine J_aload_n (pc := 59) D10_works_59 rfl ?_
  refine J_dup (pc := 60) D10_works_60 rfl ?_
  refine J_getf (pc := 61) D10_works_61 fl10_305 rfl rfl ?_
  refine J_iconst (pc := 64) (v := (nI 1)) D10_works_64 (by decide) ?_
  refine J_isub (pc := 65) D10_works_65 ?_
  refine J_mput (pc := 66) D10_works_66 fp10_305 ms_35 ?_
  refine J_w (w2 := modW (updI s 35 (nI (h + 1))) A L M) (by rw [updI_u, updI_s, show nI (h + 2) - nI 1 = nI (h + 1) from nI_pred (h + 1)]) ?_
  refine J_iload_n (pc := 69) D10_works_69 rfl ?_
  refine J_lsw (pc := 70) (off := 188) (tgt := 258) D10_works_70 (by decide) (by decide) (by decide) ?_
  refine J_lload (pc := 258) D10_works_258 rfl ?_
  refine J_lload_n (pc := 260) D10_works_260 rfl ?_
  refine J_lcmp (pc := 261) D10_works_261 ?_
  refine J_if_le (pc := 262) (tgt := 269) D10_works_262 (by decide) (fun h262 => ?_) (fun h262 => ?_)
  · replace h262 := (lg_cmp_le _ _).mp h262
    have h262' := Int64.not_lt.mpr h262
    refine J_iconst (pc := 269) (v := (nI 0)) D10_works_269 (by decide) ?_
    refine J_callSR (pc := 270) (ι := []) (ac := [.int _]) D10_works_270 m10_is_s t1639 (c10_is (d := d)) (by omega) ⟨rfl, rfl⟩ rfl rfl (fun _ => rfl) rfl rfl rfl ?_
    refine J_lstore (pc := 273) D10_works_273 rfl ?_
    refine J_goto (pc := 275) (tgt := 407) D10_works_275 (by decide) ?_
    rw [show joinF (nI 24) (L.2 h) (L.2 (h + 1)) = l01 (¬ nI 0 = 0) from l01_c ⟨fun q => absurd q (Int64.not_lt.mpr h262), fun q => absurd rfl q⟩]
    exact L10_works407 hh
  · replace h262 := mt (lg_cmp_le _ _).mpr h262
    have h262' := Int64.not_le.mp h262
    refine J_iconst (pc := 265) (v := (nI 1)) D10_works_265 (by decide) ?_
    refine J_goto (pc := 266) (tgt := 270) D10_works_266 (by decide) ?_
    refine J_callSR (pc := 270) (ι := []) (ac := [.int _]) D10_works_270 m10_is_s t1639 (c10_is (d := d)) (by omega) ⟨rfl, rfl⟩ rfl rfl (fun _ => rfl) rfl rfl rfl ?_
    refine J_lstore (pc := 273) D10_works_273 rfl ?_
    refine J_goto (pc := 275) (tgt := 407) D10_works_275 (by decide) ?_
    rw [show joinF (nI 24) (L.2 h) (L.2 (h + 1)) = l01 (¬ nI 1 = 0) from l01_c ⟨fun _ => (by decide), fun _ => Int64.not_le.mp h262⟩]
    exact L10_works407 hh
theorem c10_works9 {d : Nat} {s : Nat → Int32} {A : Nat → Nat → Int32} {L : LL} {M : Nat → MR} {h : Nat} (hh : h ≤ 62) (es : s 35 = nI (h + 2)) (h1 : BL (L.2 h)) (h2 : BL (L.2 (h + 1))) : Tr (d + 1) 0 0 m10_works [.ref 0, .int (nI 43)] (modW s A L M) (fun r w' => ∃ x' k', w' = modW (updI s 35 x') A (L.1, k') M ∧ ((r = some (.int 0) ∧ ¬ BL (joinF (nI 25) (L.2 h) (L.2 (h + 1)))) ∨ (r = some (.int (nI 1)) ∧ BL (joinF (nI 25) (L.2 h) (L.2 (h + 1))) ∧ x' = nI (h + 1) ∧ k' h = (joinF (nI 25) (L.2 h) (L.2 (h + 1))) ∧ ∀ i, i < h → k' i = L.2 i))) := by
  refine Tr.intro (by decide) rfl ?_
  rw [← updI_i (s := s) (k := 35), es]
  refine J_aload_n (pc := 0) D10_works_0 rfl ?_
  refine J_getf (pc := 1) D10_works_1 fl10_72 rfl rfl ?_
  refine J_aload_n (pc := 4) D10_works_4 rfl ?_
  refine J_getf (pc := 5) D10_works_5 fl10_305 rfl rfl ?_
  refine J_iconst (pc := 8) (v := (nI 1)) D10_works_8 (by decide) ?_
  refine J_isub (pc := 9) D10_works_9 ?_
  refine J_mwld (pc := 10) D10_works_10 (nI_pred (h + 1)) (by omega) ?_
  refine J_lstore_n (pc := 11) D10_works_11 rfl ?_
  refine J_iload_n (pc := 12) D10_works_12 rfl ?_
  refine J_sipush (pc := 13) (v := (nI 260)) D10_works_13 (by decide) ?_
  refine J_icmp_ne (pc := 16) (tgt := 46) D10_works_16 (by decide) (fun h16 => ?_) (fun h16 => absurd h16 (by decide))
  refine J_aload_n (pc := 46) D10_works_46 rfl ?_
  refine J_getf (pc := 47) D10_works_47 fl10_72 rfl rfl ?_
  refine J_aload_n (pc := 50) D10_works_50 rfl ?_
  refine J_getf (pc := 51) D10_works_51 fl10_305 rfl rfl ?_
  refine J_iconst (pc := 54) (v := (nI 2)) D10_works_54 (by decide) ?_
  refine J_isub (pc := 55) D10_works_55 ?_
  refine J_mwld (pc := 56) D10_works_56 (nI_sub2 h) (by omega) ?_
  refine J_lstore (pc := 57) D10_works_57 rfl ?_
  refine J_aload_n (pc := 59) D10_works_59 rfl ?_
  refine J_dup (pc := 60) D10_works_60 rfl ?_
  refine J_getf (pc := 61) D10_works_61 fl10_305 rfl rfl ?_
  refine J_iconst (pc := 64) (v := (nI 1)) D10_works_64 (by decide) ?_
  refine J_isub (pc := 65) D10_works_65 ?_
  refine J_mput (pc := 66) D10_works_66 fp10_305 ms_35 ?_
  refine J_w (w2 := modW (updI s 35 (nI (h + 1))) A L M) (by rw [updI_u, updI_s, show nI (h + 2) - nI 1 = nI (h + 1) from nI_pred (h + 1)]) ?_
  refine J_iload_n (pc := 69) D10_works_69 rfl ?_
  refine J_lsw (pc := 70) (off := 98) (tgt := 168) D10_works_70 (by decide) (by decide) (by decide) ?_
  refine J_lload (pc := 168) D10_works_168 rfl ?_
  refine J_lload_n (pc := 170) D10_works_170 rfl ?_
  refine J_ladd (pc := 171) D10_works_171 ?_
  refine J_lstore (pc := 172) D10_works_172 rfl ?_
  refine J_goto (pc := 174) (tgt := 407) D10_works_174 (by decide) ?_
  exact L10_works407 hh
theorem c10_works10 {d : Nat} {s : Nat → Int32} {A : Nat → Nat → Int32} {L : LL} {M : Nat → MR} {h : Nat} (hh : h ≤ 62) (es : s 35 = nI (h + 2)) (h1 : BL (L.2 h)) (h2 : BL (L.2 (h + 1))) : Tr (d + 1) 0 0 m10_works [.ref 0, .int (nI 45)] (modW s A L M) (fun r w' => ∃ x' k', w' = modW (updI s 35 x') A (L.1, k') M ∧ ((r = some (.int 0) ∧ ¬ BL (joinF (nI 26) (L.2 h) (L.2 (h + 1)))) ∨ (r = some (.int (nI 1)) ∧ BL (joinF (nI 26) (L.2 h) (L.2 (h + 1))) ∧ x' = nI (h + 1) ∧ k' h = (joinF (nI 26) (L.2 h) (L.2 (h + 1))) ∧ ∀ i, i < h → k' i = L.2 i))) := by
  refine Tr.intro (by decide) rfl ?_
  rw [← updI_i (s := s) (k := 35), es]
  refine J_aload_n (pc := 0) D10_works_0 rfl ?_
  refine J_getf (pc := 1) D10_works_1 fl10_72 rfl rfl ?_
  refine J_aload_n (pc := 4) D10_works_4 rfl ?_
  refine J_getf (pc := 5) D10_works_5 fl10_305 rfl rfl ?_
  refine J_iconst (pc := 8) (v := (nI 1)) D10_works_8 (by decide) ?_
  refine J_isub (pc := 9) D10_works_9 ?_
  refine J_mwld (pc := 10) D10_works_10 (nI_pred (h + 1)) (by omega) ?_
  refine J_lstore_n (pc := 11) D10_works_11 rfl ?_
  refine J_iload_n (pc := 12) D10_works_12 rfl ?_
  refine J_sipush (pc := 13) (v := (nI 260)) D10_works_13 (by decide) ?_
  refine J_icmp_ne (pc := 16) (tgt := 46) D10_works_16 (by decide) (fun h16 => ?_) (fun h16 => absurd h16 (by decide))
  refine J_aload_n (pc := 46) D10_works_46 rfl ?_
  refine J_getf (pc := 47) D10_works_47 fl10_72 rfl rfl ?_
  refine J_aload_n (pc := 50) D10_works_50 rfl ?_
  refine J_getf (pc := 51) D10_works_51 fl10_305 rfl rfl ?_
  refine J_iconst (pc := 54) (v := (nI 2)) D10_works_54 (by decide) ?_
  refine J_isub (pc := 55) D10_works_55 ?_
  refine J_mwld (pc := 56) D10_works_56 (nI_sub2 h) (by omega) ?_
  refine J_lstore (pc := 57) D10_works_57 rfl ?_
  refine J_aload_n (pc := 59) D10_works_59 rfl ?_
  refine J_dup (pc := 60) D10_works_60 rfl ?_
  refine J_getf (pc := 61) D10_works_61 fl10_305 rfl rfl ?_
  refine J_iconst (pc := 64) (v := (nI 1)) D10_works_64 (by decide) ?_
  refine J_isub (pc := 65) D10_works_65 ?_
  refine J_mput (pc := 66) D10_works_66 fp10_305 ms_35 ?_
  refine J_w (w2 := modW (updI s 35 (nI (h + 1))) A L M) (by rw [updI_u, updI_s, show nI (h + 2) - nI 1 = nI (h + 1) from nI_pred (h + 1)]) ?_
  refine J_iload_n (pc := 69) D10_works_69 rfl ?_
  refine J_lsw (pc := 70) (off := 107) (tgt := 177) D10_works_70 (by decide) (by decide) (by decide) ?_
  refine J_lload (pc := 177) D10_works_177 rfl ?_
  refine J_lload_n (pc := 179) D10_works_179 rfl ?_
  refine J_lsub (pc := 180) D10_works_180 ?_
  refine J_lstore (pc := 181) D10_works_181 rfl ?_
  refine J_goto (pc := 183) (tgt := 407) D10_works_183 (by decide) ?_
  exact L10_works407 hh
theorem c10_works11 {d : Nat} {s : Nat → Int32} {A : Nat → Nat → Int32} {L : LL} {M : Nat → MR} {h : Nat} (hh : h ≤ 62) (es : s 35 = nI (h + 2)) (h1 : BL (L.2 h)) (h2 : BL (L.2 (h + 1))) : Tr (d + 1) 0 0 m10_works [.ref 0, .int (nI 42)] (modW s A L M) (fun r w' => ∃ x' k', w' = modW (updI s 35 x') A (L.1, k') M ∧ ((r = some (.int 0) ∧ ¬ BL (joinF (nI 27) (L.2 h) (L.2 (h + 1)))) ∨ (r = some (.int (nI 1)) ∧ BL (joinF (nI 27) (L.2 h) (L.2 (h + 1))) ∧ x' = nI (h + 1) ∧ k' h = (joinF (nI 27) (L.2 h) (L.2 (h + 1))) ∧ ∀ i, i < h → k' i = L.2 i))) := by
  refine Tr.intro (by decide) rfl ?_
  rw [← updI_i (s := s) (k := 35), es]
  refine J_aload_n (pc := 0) D10_works_0 rfl ?_
  refine J_getf (pc := 1) D10_works_1 fl10_72 rfl rfl ?_
  refine J_aload_n (pc := 4) D10_works_4 rfl ?_
  refine J_getf (pc := 5) D10_works_5 fl10_305 rfl rfl ?_
  refine J_iconst (pc := 8) (v := (nI 1)) D10_works_8 (by decide) ?_
  refine J_isub (pc := 9) D10_works_9 ?_
  refine J_mwld (pc := 10) D10_works_10 (nI_pred (h + 1)) (by omega) ?_
  refine J_lstore_n (pc := 11) D10_works_11 rfl ?_
  refine J_iload_n (pc := 12) D10_works_12 rfl ?_
  refine J_sipush (pc := 13) (v := (nI 260)) D10_works_13 (by decide) ?_
  refine J_icmp_ne (pc := 16) (tgt := 46) D10_works_16 (by decide) (fun h16 => ?_) (fun h16 => absurd h16 (by decide))
  refine J_aload_n (pc := 46) D10_works_46 rfl ?_
  refine J_getf (pc := 47) D10_works_47 fl10_72 rfl rfl ?_
  refine J_aload_n (pc := 50) D10_works_50 rfl ?_
  refine J_getf (pc := 51) D10_works_51 fl10_305 rfl rfl ?_
  refine J_iconst (pc := 54) (v := (nI 2)) D10_works_54 (by decide) ?_
  refine J_isub (pc := 55) D10_works_55 ?_
  refine J_mwld (pc := 56) D10_works_56 (nI_sub2 h) (by omega) ?_
  refine J_lstore (pc := 57) D10_works_57 rfl ?_
  refine J_aload_n (pc := 59) D10_works_59 rfl ?_
  refine J_dup (pc := 60) D10_works_60 rfl ?_
  refine J_getf (pc := 61) D10_works_61 fl10_305 rfl rfl ?_
  refine J_iconst (pc := 64) (v := (nI 1)) D10_works_64 (by decide) ?_
  refine J_isub (pc := 65) D10_works_65 ?_
  refine J_mput (pc := 66) D10_works_66 fp10_305 ms_35 ?_
  refine J_w (w2 := modW (updI s 35 (nI (h + 1))) A L M) (by rw [updI_u, updI_s, show nI (h + 2) - nI 1 = nI (h + 1) from nI_pred (h + 1)]) ?_
  refine J_iload_n (pc := 69) D10_works_69 rfl ?_
  refine J_lsw (pc := 70) (off := 116) (tgt := 186) D10_works_70 (by decide) (by decide) (by decide) ?_
  refine J_lload (pc := 186) D10_works_186 rfl ?_
  refine J_lconst (pc := 188) (v := 0) D10_works_188 (by decide) ?_
  refine J_lcmp (pc := 189) D10_works_189 ?_
  refine J_if_eq (pc := 190) (tgt := 212) D10_works_190 (by decide) (fun h190 => ?_) (fun h190 => ?_)
  · replace h190 := (lg_cmp_eq _ _).mp h190
    have h190' := eq_true h190
    refine J_lload (pc := 212) D10_works_212 rfl ?_
    refine J_lload_n (pc := 214) D10_works_214 rfl ?_
    refine J_lmul (pc := 215) D10_works_215 ?_
    refine J_lstore (pc := 216) D10_works_216 rfl ?_
    refine J_goto (pc := 218) (tgt := 407) D10_works_218 (by decide) ?_
    rw [show joinF (nI 27) (L.2 h) (L.2 (h + 1)) = L.2 h * L.2 (h + 1) from by show prodF _ _ = _; rw [h190]; exact prodF_0 h2]
    exact L10_works407 hh
  · replace h190 := mt (lg_cmp_eq _ _).mpr h190
    refine J_lload_n (pc := 193) D10_works_193 rfl ?_
    refine J_labs (pc := 194) D10_works_194 t1642 (by omega) rfl rfl rfl ?_
    refine J_ldc2_w (pc := 197) (v := LBIG) D10_works_197 t1645 ?_
    refine J_lload (pc := 200) D10_works_200 rfl ?_
    refine J_labs (pc := 202) D10_works_202 t1642 (by omega) rfl rfl rfl ?_
    refine J_ldiv (pc := 205) D10_works_205 (labs_nz h1 h190) ?_
    refine J_lcmp (pc := 206) D10_works_206 ?_
    refine J_if_le (pc := 207) (tgt := 212) D10_works_207 (by decide) (fun h207 => ?_) (fun h207 => ?_)
    · replace h207 := (lg_cmp_le _ _).mp h207
      have h207' := Int64.not_lt.mpr h207
      refine J_lload (pc := 212) D10_works_212 rfl ?_
      refine J_lload_n (pc := 214) D10_works_214 rfl ?_
      refine J_lmul (pc := 215) D10_works_215 ?_
      refine J_lstore (pc := 216) D10_works_216 rfl ?_
      refine J_goto (pc := 218) (tgt := 407) D10_works_218 (by decide) ?_
      rw [show joinF (nI 27) (L.2 h) (L.2 (h + 1)) = L.2 h * L.2 (h + 1) from prodF_n h1 h2 h190 h207']
      exact L10_works407 hh
    · replace h207 := mt (lg_cmp_le _ _).mpr h207
      have h207' := Int64.not_le.mp h207
      refine J_iconst (pc := 210) (v := (nI 0)) D10_works_210 (by decide) ?_
      refine J_zret (pc := 211) D10_works_211 rfl (by decide) ?_
      exact ⟨_, _, rfl, Or.inl ⟨rfl, fun q => q (by rw [show joinF (nI 27) (L.2 h) (L.2 (h + 1)) = LMIN from prodF_l h1 h2 h190 h207']; exact LM_big)⟩⟩
theorem c10_works12 {d : Nat} {s : Nat → Int32} {A : Nat → Nat → Int32} {L : LL} {M : Nat → MR} {h : Nat} (hh : h ≤ 62) (es : s 35 = nI (h + 2)) (h1 : BL (L.2 h)) (h2 : BL (L.2 (h + 1))) : Tr (d + 1) 0 0 m10_works [.ref 0, .int (nI 47)] (modW s A L M) (fun r w' => ∃ x' k', w' = modW (updI s 35 x') A (L.1, k') M ∧ ((r = some (.int 0) ∧ ¬ BL (joinF (nI 28) (L.2 h) (L.2 (h + 1)))) ∨ (r = some (.int (nI 1)) ∧ BL (joinF (nI 28) (L.2 h) (L.2 (h + 1))) ∧ x' = nI (h + 1) ∧ k' h = (joinF (nI 28) (L.2 h) (L.2 (h + 1))) ∧ ∀ i, i < h → k' i = L.2 i))) := by
  refine Tr.intro (by decide) rfl ?_
  rw [← updI_i (s := s) (k := 35), es]
  refine J_aload_n (pc := 0) D10_works_0 rfl ?_
  refine J_getf (pc := 1) D10_works_1 fl10_72 rfl rfl ?_
  refine J_aload_n (pc := 4) D10_works_4 rfl ?_
  refine J_getf (pc := 5) D10_works_5 fl10_305 rfl rfl ?_
  refine J_iconst (pc := 8) (v := (nI 1)) D10_works_8 (by decide) ?_
  refine J_isub (pc := 9) D10_works_9 ?_
  refine J_mwld (pc := 10) D10_works_10 (nI_pred (h + 1)) (by omega) ?_
  refine J_lstore_n (pc := 11) D10_works_11 rfl ?_
  refine J_iload_n (pc := 12) D10_works_12 rfl ?_
  refine J_sipush (pc := 13) (v := (nI 260)) D10_works_13 (by decide) ?_
  refine J_icmp_ne (pc := 16) (tgt := 46) D10_works_16 (by decide) (fun h16 => ?_) (fun h16 => absurd h16 (by decide))
  refine J_aload_n (pc := 46) D10_works_46 rfl ?_
  refine J_getf (pc := 47) D10_works_47 fl10_72 rfl rfl ?_
  refine J_aload_n (pc := 50) D10_works_50 rfl ?_
  refine J_getf (pc := 51) D10_works_51 fl10_305 rfl rfl ?_
  refine J_iconst (pc := 54) (v := (nI 2)) D10_works_54 (by decide) ?_
  refine J_isub (pc := 55) D10_works_55 ?_
  refine J_mwld (pc := 56) D10_works_56 (nI_sub2 h) (by omega) ?_
  refine J_lstore (pc := 57) D10_works_57 rfl ?_
  refine J_aload_n (pc := 59) D10_works_59 rfl ?_
  refine J_dup (pc := 60) D10_works_60 rfl ?_
  refine J_getf (pc := 61) D10_works_61 fl10_305 rfl rfl ?_
  refine J_iconst (pc := 64) (v := (nI 1)) D10_works_64 (by decide) ?_
  refine J_isub (pc := 65) D10_works_65 ?_
  refine J_mput (pc := 66) D10_works_66 fp10_305 ms_35 ?_
  refine J_w (w2 := modW (updI s 35 (nI (h + 1))) A L M) (by rw [updI_u, updI_s, show nI (h + 2) - nI 1 = nI (h + 1) from nI_pred (h + 1)]) ?_
  refine J_iload_n (pc := 69) D10_works_69 rfl ?_
  refine J_lsw (pc := 70) (off := 151) (tgt := 221) D10_works_70 (by decide) (by decide) (by decide) ?_
  refine J_lload_n (pc := 221) D10_works_221 rfl ?_
  refine J_lconst (pc := 222) (v := 0) D10_works_222 (by decide) ?_
  refine J_lcmp (pc := 223) D10_works_223 ?_
  refine J_if_ne (pc := 224) (tgt := 229) D10_works_224 (by decide) (fun h224 => ?_) (fun h224 => ?_)
  · replace h224 := mt (lg_cmp_eq _ _).mpr h224
    refine J_lload (pc := 229) D10_works_229 rfl ?_
    refine J_lload_n (pc := 231) D10_works_231 rfl ?_
    refine J_ldiv (pc := 232) D10_works_232 h224 ?_
    refine J_lstore (pc := 233) D10_works_233 rfl ?_
    refine J_goto (pc := 235) (tgt := 407) D10_works_235 (by decide) ?_
    rw [show joinF (nI 28) (L.2 h) (L.2 (h + 1)) = L.2 h / L.2 (h + 1) from if_neg h224]
    exact L10_works407 hh
  · replace h224 := (lg_cmp_eq _ _).mp h224
    have h224' := eq_true h224
    refine J_iconst (pc := 227) (v := (nI 0)) D10_works_227 (by decide) ?_
    refine J_zret (pc := 228) D10_works_228 rfl (by decide) ?_
    exact ⟨_, _, rfl, Or.inl ⟨rfl, fun q => q (by rw [show joinF (nI 28) (L.2 h) (L.2 (h + 1)) = LMIN from if_pos h224]; exact LM_big)⟩⟩
theorem c10_works2 {d : Nat} {s : Nat → Int32} {A : Nat → Nat → Int32} {L : LL} {M : Nat → MR} {h : Nat} (hh : h ≤ 63) (es : s 35 = nI (h + 1)) : Tr (d + 1) 0 0 m10_works [.ref 0, .int (nI 260)] (modW s A L M) (fun r w' => ∃ k', w' = modW s A (L.1, k') M ∧ r = some (.int (nI 1)) ∧ k' h = l01 (L.2 h = 0) ∧ ∀ i, i < h → k' i = L.2 i) := by
  refine Tr.intro (by decide) rfl ?_
  refine J_aload_n (pc := 0) D10_works_0 rfl ?_
  refine J_getf (pc := 1) D10_works_1 fl10_72 rfl rfl ?_
  refine J_aload_n (pc := 4) D10_works_4 rfl ?_
  refine J_getf (pc := 5) D10_works_5 fl10_305 rfl rfl ?_
  refine J_iconst (pc := 8) (v := (nI 1)) D10_works_8 (by decide) ?_
  refine J_isub (pc := 9) D10_works_9 ?_
  refine J_mwld (pc := 10) D10_works_10 (by rw [es]; exact nI_pred h) (by omega) ?_
  refine J_lstore_n (pc := 11) D10_works_11 rfl ?_
  refine J_iload_n (pc := 12) D10_works_12 rfl ?_
  refine J_sipush (pc := 13) (v := (nI 260)) D10_works_13 (by decide) ?_
  refine J_icmp_ne (pc := 16) (tgt := 46) D10_works_16 (by decide) (fun h16 => absurd (by decide) h16) (fun h16 => ?_)
  refine J_aload_n (pc := 19) D10_works_19 rfl ?_
  refine J_getf (pc := 20) D10_works_20 fl10_72 rfl rfl ?_
  refine J_aload_n (pc := 23) D10_works_23 rfl ?_
  refine J_getf (pc := 24) D10_works_24 fl10_305 rfl rfl ?_
  refine J_iconst (pc := 27) (v := (nI 1)) D10_works_27 (by decide) ?_
  refine J_isub (pc := 28) D10_works_28 ?_
  refine J_lload_n (pc := 29) D10_works_29 rfl ?_
  refine J_lconst (pc := 30) (v := 0) D10_works_30 (by decide) ?_
  refine J_lcmp (pc := 31) D10_works_31 ?_
  refine J_if_ne (pc := 32) (tgt := 39) D10_works_32 (by decide) (fun h32 => ?_) (fun h32 => ?_)
  · replace h32 := mt (lg_cmp_eq _ _).mpr h32
    refine J_iconst (pc := 39) (v := (nI 0)) D10_works_39 (by decide) ?_
    refine J_callSR (pc := 40) (ι := []) (ac := [.int _]) D10_works_40 m10_is_s t1639 (c10_is (d := d)) (by omega) ⟨rfl, rfl⟩ rfl rfl (fun _ => rfl) rfl rfl rfl ?_
    refine J_mwst (pc := 43) D10_works_43 (by rw [es]; exact nI_pred h) (by omega) ?_
    refine J_iconst (pc := 44) (v := (nI 1)) D10_works_44 (by decide) ?_
    refine J_zret (pc := 45) D10_works_45 rfl (by decide) ?_
    exact ⟨_, rfl, rfl, uL_s.trans (l01_c ⟨fun q => absurd rfl q, fun q => absurd q h32⟩), fun i hi => uL_n (by omega)⟩
  · replace h32 := (lg_cmp_eq _ _).mp h32
    have h32' := eq_true h32
    refine J_iconst (pc := 35) (v := (nI 1)) D10_works_35 (by decide) ?_
    refine J_goto (pc := 36) (tgt := 40) D10_works_36 (by decide) ?_
    refine J_callSR (pc := 40) (ι := []) (ac := [.int _]) D10_works_40 m10_is_s t1639 (c10_is (d := d)) (by omega) ⟨rfl, rfl⟩ rfl rfl (fun _ => rfl) rfl rfl rfl ?_
    refine J_mwst (pc := 43) D10_works_43 (by rw [es]; exact nI_pred h) (by omega) ?_
    refine J_iconst (pc := 44) (v := (nI 1)) D10_works_44 (by decide) ?_
    refine J_zret (pc := 45) D10_works_45 rfl (by decide) ?_
    exact ⟨_, rfl, rfl, uL_s.trans (l01_c ⟨fun _ => h32, fun _ => (by decide)⟩), fun i hi => uL_n (by omega)⟩
