/-! TOKENS: all (own; walks by program wk.py) -/
abbrev A3 : Type := (Nat → Int32) × (Nat → Int32) × (Nat → Int32)
theorem two_0 (x : Int32) : two (sgO x (nI 0)) = 0 := by
  unfold sgO
  split; · decide
  split; · decide
  split; · decide
  split; · decide
  split; · decide
  split; · decide
  split; · decide
  split; · decide
  split; · decide
  split; · decide
  decide
theorem tk1_le {tp : Nat → Int32} {L p : Nat} (hp : p < L) : p < (tk1 tp L p).2.2 ∧ (tk1 tp L p).2.2 ≤ L := by
  obtain ⟨g, hg⟩ : ∃ g, L - p = g + 1 := ⟨L - p - 1, by omega⟩
  by_cases h1 : nI 48 ≤ tp p ∧ tp p ≤ nI 57
  · rw [tk1, if_pos h1]
    have h2 := nuL_le (tp := tp) g (p + 1) (imin (nI 0 * nI 10 + (tp p - nI 48)) 1000000)
    have h3 : nuL tp (L - p) p (nI 0) = nuL tp g (p + 1) (imin (nI 0 * nI 10 + (tp p - nI 48)) 1000000) := by rw [hg, nuL, if_pos h1]
    show p < (nuL tp (L - p) p (nI 0)).1 ∧ (nuL tp (L - p) p (nI 0)).1 ≤ L
    rw [h3]
    omega
  · rw [tk1, if_neg h1]
    by_cases h4 : nI 97 ≤ tp p ∧ tp p ≤ nI 122
    · rw [if_pos h4]
      have h2 := woL_le (tp := tp) (f := p) g (p + 1) (woS tp p p (nI 0))
      have h3 : woL tp p (L - p) p (nI 0) = woL tp p g (p + 1) (woS tp p p (nI 0)) := by rw [hg, woL, if_pos h4]
      show p < (woL tp p (L - p) p (nI 0)).1 ∧ (woL tp p (L - p) p (nI 0)).1 ≤ L
      rw [h3]
      omega
    · rw [if_neg h4]
      by_cases h5 : p + 1 < L
      · have h6 : ∀ z : Int32, p < (if z = 0 then p + 1 else p + 2) ∧ (if z = 0 then p + 1 else p + 2) ≤ L := by
          intro z
          by_cases hz : z = 0
          · rw [if_pos hz]; omega
          · rw [if_neg hz]; omega
        exact h6 _
      · rw [if_neg h5]
        show p < (if _ then p + 1 else p + 2) ∧ (if _ then p + 1 else p + 2) ≤ L
        rw [if_pos (two_0 _)]
        omega
def raL (tp : Nat → Int32) (L : Nat) : Nat → Nat → Nat → A3 → Nat × Nat × A3
  | 0, p, c, A => (p, c, A)
  | g + 1, p, c, A => if p < L then (if tp p = nI 10 ∨ tp p = nI 32 then raL tp L g (p + 1) c A else raL tp L g (tk1 tp L p).2.2 (c + 1) (upd A.1 c (tk1 tp L p).1, upd A.2.1 c (nI p), vlU A.2.2 c (tk1 tp L p).2.1)) else (p, c, A)
abbrev raQ (tp : Nat → Int32) (L : Nat) (X : Nat × Nat × A3) : Option Value → List EC → Prop := fun r w' => r = none ∧ w' = tokW L X.1 tp (upd X.2.2.1 X.2.1 (nI 34)) (upd X.2.2.2.1 X.2.1 (nI L)) X.2.2.2.2
theorem L5_all100 {d L p c : Nat} {tp : Nat → Int32} {A : A3} (hL : L ≤ 700) (hc : c ≤ 700) : J m5_readAll (d + 8) 0 0 5 100 [(0, .ref 0), (1, .int (nI L)), (2, .int (nI c))] [] (tokW L p tp A.1 A.2.1 A.2.2) 0 0 (raQ tp L (p, c, A)) := by
  refine J_aload_n (pc := 100) D5_readAll_100 rfl ?_
  refine J_getf (pc := 101) D5_readAll_101 fl5_15 rfl rfl ?_
  refine J_iload_n (pc := 104) D5_readAll_104 rfl ?_
  refine J_aload_n (pc := 105) D5_readAll_105 rfl ?_
  refine J_getf (pc := 106) D5_readAll_106 fl5_31 rfl rfl ?_
  refine J_iast (pc := 109) D5_readAll_109 rfl rfl (by omega) rfl ?_
  refine J_aload_n (pc := 110) D5_readAll_110 rfl ?_
  refine J_getf (pc := 111) D5_readAll_111 fl5_9 rfl rfl ?_
  refine J_iload_n (pc := 114) D5_readAll_114 rfl ?_
  refine J_bipush (pc := 115) (v := (nI 34)) D5_readAll_115 (by decide) ?_
  refine J_iast (pc := 117) D5_readAll_117 rfl rfl (by omega) rfl ?_
  refine J_vret (pc := 118) D5_readAll_118 rfl ?_
  exact ⟨rfl, rfl⟩
theorem L5_all {d L : Nat} {tp : Nat → Int32} (hL : L ≤ 700) : ∀ (g p c : Nat) (A : A3), p ≤ L → c ≤ p → L ≤ p + g → J m5_readAll (d + 8) 0 0 5 20 [(0, .ref 0), (1, .int (nI L)), (2, .int (nI c))] [] (tokW L p tp A.1 A.2.1 A.2.2) 0 0 (raQ tp L (raL tp L g p c A)) := by
  intro g
  induction g with
  | zero =>
    intro p c A hp hc hg
    refine J_aload_n (pc := 20) D5_readAll_20 rfl ?_
    refine J_getf (pc := 21) D5_readAll_21 fl5_35 rfl rfl ?_
    refine J_aload_n (pc := 24) D5_readAll_24 rfl ?_
    refine J_getf (pc := 25) D5_readAll_25 fl5_31 rfl rfl ?_
    refine J_icmp_ge (pc := 28) (tgt := 100) D5_readAll_28 (by decide) (fun h28 => ?_) (fun h28 => absurd (nI_le (by omega) (by omega)) h28)
    exact L5_all100 hL (by omega)
  | succ g ih =>
    intro p c A hp hc hg
    refine J_aload_n (pc := 20) D5_readAll_20 rfl ?_
    refine J_getf (pc := 21) D5_readAll_21 fl5_35 rfl rfl ?_
    refine J_aload_n (pc := 24) D5_readAll_24 rfl ?_
    refine J_getf (pc := 25) D5_readAll_25 fl5_31 rfl rfl ?_
    refine J_icmp_ge (pc := 28) (tgt := 100) D5_readAll_28 (by decide) (fun h28 => ?_) (fun h28 => ?_)
    · have h28' := Int32.not_lt.mpr h28
      have hq := (nI_leI (by omega) (by omega)).mp h28
      rw [raL, if_neg (show ¬ p < L by omega)]
      exact L5_all100 hL (by omega)
    · have h28' := Int32.not_le.mp h28
      have hq := (nI_ltI (by omega) (by omega)).mp h28'
      rw [raL, if_pos hq]
      refine J_iload_n (pc := 31) D5_readAll_31 rfl ?_
      refine J_sipush (pc := 32) (v := (nI 700)) D5_readAll_32 (by decide) ?_
      refine J_icmp_ge (pc := 35) (tgt := 100) D5_readAll_35 (by decide) (fun h35 => absurd h35 (nI_ge (by omega) (by omega))) (fun h35 => ?_)
      refine J_aload_n (pc := 38) D5_readAll_38 rfl ?_
      refine J_getf (pc := 39) D5_readAll_39 fl5_21 rfl rfl ?_
      refine J_aload_n (pc := 42) D5_readAll_42 rfl ?_
      refine J_getf (pc := 43) D5_readAll_43 fl5_35 rfl rfl ?_
      refine J_bald (pc := 46) D5_readAll_46 rfl rfl (by omega) rfl ?_
      refine J_bipush (pc := 47) (v := (nI 10)) D5_readAll_47 (by decide) ?_
      refine J_icmp_eq (pc := 49) (tgt := 66) D5_readAll_49 (by decide) (fun h49 => ?_) (fun h49 => ?_)
      · have h49' := eq_true h49
        refine J_aload_n (pc := 66) D5_readAll_66 rfl ?_
        refine J_dup (pc := 67) D5_readAll_67 rfl ?_
        refine J_getf (pc := 68) D5_readAll_68 fl5_35 rfl rfl ?_
        refine J_iconst (pc := 71) (v := (nI 1)) D5_readAll_71 (by decide) ?_
        refine J_iadd (pc := 72) D5_readAll_72 ?_
        refine J_st [.int (nI (p + 1)), .ref 0] (by rw [show nI p + nI 1 = nI (p + 1) from nI_1 p]) ?_
        refine J_putf (pc := 73) D5_readAll_73 fp5_35 rfl Fit.int rfl ?_
        refine J_goto (pc := 76) (tgt := 20) D5_readAll_76 (by decide) ?_
        rw [if_pos (Or.inl h49)]
        refine J_w (w2 := tokW L (p + 1) tp A.1 A.2.1 A.2.2) rfl ?_
        exact ih (p + 1) c A (by omega) (by omega) (by omega)
      · refine J_aload_n (pc := 52) D5_readAll_52 rfl ?_
        refine J_getf (pc := 53) D5_readAll_53 fl5_21 rfl rfl ?_
        refine J_aload_n (pc := 56) D5_readAll_56 rfl ?_
        refine J_getf (pc := 57) D5_readAll_57 fl5_35 rfl rfl ?_
        refine J_bald (pc := 60) D5_readAll_60 rfl rfl (by omega) rfl ?_
        refine J_bipush (pc := 61) (v := (nI 32)) D5_readAll_61 (by decide) ?_
        refine J_icmp_ne (pc := 63) (tgt := 79) D5_readAll_63 (by decide) (fun h63 => ?_) (fun h63 => ?_)
        · refine J_aload_n (pc := 79) D5_readAll_79 rfl ?_
          refine J_getf (pc := 80) D5_readAll_80 fl5_15 rfl rfl ?_
          refine J_iload_n (pc := 83) D5_readAll_83 rfl ?_
          refine J_aload_n (pc := 84) D5_readAll_84 rfl ?_
          refine J_getf (pc := 85) D5_readAll_85 fl5_35 rfl rfl ?_
          refine J_iast (pc := 88) D5_readAll_88 rfl rfl (by omega) rfl ?_
          refine J_aload_n (pc := 89) D5_readAll_89 rfl ?_
          refine J_iload_n (pc := 90) D5_readAll_90 rfl ?_
          refine J_callVT (pc := 91) (ac := [.int _]) D5_readAll_91 m5_readOne_v t493 (c5_readOne (d := d) (kd := A.1) (pl := upd A.2.1 c (nI p)) (vl := A.2.2) hL (by omega) hq) (by omega) rfl rfl rfl rfl rfl rfl rfl (fun r w' hq' hl => ?_)
          obtain ⟨rfl, rfl⟩ := hq'
          refine J_iinc (pc := 94) D5_readAll_94 rfl (nI_inc _) rfl ?_
          refine J_goto (pc := 97) (tgt := 20) D5_readAll_97 (by decide) ?_
          rw [if_neg (fun q => q.elim h49 h63)]
          have hk := tk1_le (tp := tp) hq
          refine ih (tk1 tp L p).2.2 (c + 1) (upd A.1 c (tk1 tp L p).1, upd A.2.1 c (nI p), vlU A.2.2 c (tk1 tp L p).2.1) hk.2 (by omega) (by omega)
        · have h63' := eq_true h63
          refine J_aload_n (pc := 66) D5_readAll_66 rfl ?_
          refine J_dup (pc := 67) D5_readAll_67 rfl ?_
          refine J_getf (pc := 68) D5_readAll_68 fl5_35 rfl rfl ?_
          refine J_iconst (pc := 71) (v := (nI 1)) D5_readAll_71 (by decide) ?_
          refine J_iadd (pc := 72) D5_readAll_72 ?_
          refine J_st [.int (nI (p + 1)), .ref 0] (by rw [show nI p + nI 1 = nI (p + 1) from nI_1 p]) ?_
          refine J_putf (pc := 73) D5_readAll_73 fp5_35 rfl Fit.int rfl ?_
          refine J_goto (pc := 76) (tgt := 20) D5_readAll_76 (by decide) ?_
          rw [if_pos (Or.inr h63)]
          refine J_w (w2 := tokW L (p + 1) tp A.1 A.2.1 A.2.2) rfl ?_
          exact ih (p + 1) c A (by omega) (by omega) (by omega)
theorem c5_readAll {d L L0 p0 : Nat} {tp kd pl vl : Nat → Int32} (hL : L ≤ 700) : Tr (d + 8) 0 0 m5_readAll [.ref 0, .int (nI L)] (tokW L0 p0 tp kd pl vl) (raQ tp L (raL tp L L 0 0 (kd, pl, vl))) := by
  refine Tr.intro (by decide) rfl ?_
  refine J_aload_n (pc := 0) D5_readAll_0 rfl ?_
  refine J_iload_n (pc := 1) D5_readAll_1 rfl ?_
  refine J_aload_n (pc := 2) D5_readAll_2 rfl ?_
  refine J_getf (pc := 3) D5_readAll_3 fl5_21 rfl rfl ?_
  refine J_alen (pc := 6) 1 D5_readAll_6 rfl (fun _ => rfl) ?_
  refine J_min (pc := 7) D5_readAll_7 t490 (by omega) rfl rfl rfl ?_
  refine J_st [.int (nI L), .ref 0] (by rw [show imin (nI L) (nI 700) = nI L from if_neg (Int32.not_lt.mpr (nI_le (by omega) (by omega)))]) ?_
  refine J_putf (pc := 10) D5_readAll_10 fp5_31 rfl Fit.int rfl ?_
  refine J_aload_n (pc := 13) D5_readAll_13 rfl ?_
  refine J_iconst (pc := 14) (v := (nI 0)) D5_readAll_14 (by decide) ?_
  refine J_putf (pc := 15) D5_readAll_15 fp5_35 rfl Fit.int rfl ?_
  refine J_iconst (pc := 18) (v := (nI 0)) D5_readAll_18 (by decide) ?_
  refine J_istore_n (pc := 19) D5_readAll_19 rfl ?_
  refine J_w (w2 := tokW L 0 tp kd pl vl) rfl ?_
  exact L5_all hL L 0 0 (kd, pl, vl) (by omega) (by omega) (by omega)
