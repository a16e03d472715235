/-! CELLAR again: copyFrom, layDown; Years.start; Undos (own; walks by program wk.py) -/
theorem c0_copyFrom {d : Nat} {V U : CV} : Tr (d + 1) 0 0 m0_copyFrom [.ref 0, .ref 10] (celC 0 V ++ celC 10 U) (fun r w' => r = none ∧ w' = celC 0 U ++ celC 10 U) := by
  refine Tr.intro (by decide) rfl ?_
  refine J_aload_n (pc := 0) D0_copyFrom_0 rfl ?_
  refine J_aload_n (pc := 1) D0_copyFrom_1 rfl ?_
  refine J_getf (pc := 2) D0_copyFrom_2 fl0_39 rfl rfl ?_
  refine J_putf (pc := 5) D0_copyFrom_5 fp0_39 rfl Fit.int rfl ?_
  refine J_aload_n (pc := 8) D0_copyFrom_8 rfl ?_
  refine J_aload_n (pc := 9) D0_copyFrom_9 rfl ?_
  refine J_getf (pc := 10) D0_copyFrom_10 fl0_48 rfl rfl ?_
  refine J_putf (pc := 13) D0_copyFrom_13 fp0_48 rfl Fit.long rfl ?_
  refine J_aload_n (pc := 16) D0_copyFrom_16 rfl ?_
  refine J_aload_n (pc := 17) D0_copyFrom_17 rfl ?_
  refine J_getf (pc := 18) D0_copyFrom_18 fl0_52 rfl rfl ?_
  refine J_putf (pc := 21) D0_copyFrom_21 fp0_52 rfl Fit.int rfl ?_
  refine J_w (w2 := celC 0 (U.1, U.2.1, U.2.2.1, V.2.2.2) ++ celC 10 U) rfl ?_
  refine J_aload_n (pc := 24) D0_copyFrom_24 rfl ?_
  refine J_getf (pc := 25) D0_copyFrom_25 fl0_9 rfl rfl ?_
  refine J_iconst (pc := 28) (v := (nI 0)) D0_copyFrom_28 (by decide) ?_
  refine J_aload_n (pc := 29) D0_copyFrom_29 rfl ?_
  refine J_getf (pc := 30) D0_copyFrom_30 fl0_9 rfl rfl ?_
  refine J_iconst (pc := 33) (v := (nI 0)) D0_copyFrom_33 (by decide) ?_
  refine J_bipush (pc := 34) (v := (nI 10)) D0_copyFrom_34 (by decide) ?_
  refine J_acopy (pc := 36) D0_copyFrom_36 t891 rfl rfl rfl rfl rfl (by decide) (by decide) rfl rfl (by omega) rfl ?_
  refine J_cell (i := 1) (g := U.2.2.2 0) rfl (fun j hj => sb_cpy0 hj) ?_
  refine J_w (w2 := celC 0 (U.1, U.2.1, U.2.2.1, upA (V.2.2.2) 0 (U.2.2.2 0)) ++ celC 10 U) rfl ?_
  refine J_aload_n (pc := 39) D0_copyFrom_39 rfl ?_
  refine J_getf (pc := 40) D0_copyFrom_40 fl0_15 rfl rfl ?_
  refine J_iconst (pc := 43) (v := (nI 0)) D0_copyFrom_43 (by decide) ?_
  refine J_aload_n (pc := 44) D0_copyFrom_44 rfl ?_
  refine J_getf (pc := 45) D0_copyFrom_45 fl0_15 rfl rfl ?_
  refine J_iconst (pc := 48) (v := (nI 0)) D0_copyFrom_48 (by decide) ?_
  refine J_bipush (pc := 49) (v := (nI 10)) D0_copyFrom_49 (by decide) ?_
  refine J_acopy (pc := 51) D0_copyFrom_51 t891 rfl rfl rfl rfl rfl (by decide) (by decide) rfl rfl (by omega) rfl ?_
  refine J_cell (i := 2) (g := U.2.2.2 1) rfl (fun j hj => sb_cpy0 hj) ?_
  refine J_w (w2 := celC 0 (U.1, U.2.1, U.2.2.1, upA (upA (V.2.2.2) 0 (U.2.2.2 0)) 1 (U.2.2.2 1)) ++ celC 10 U) rfl ?_
  refine J_aload_n (pc := 54) D0_copyFrom_54 rfl ?_
  refine J_getf (pc := 55) D0_copyFrom_55 fl0_18 rfl rfl ?_
  refine J_iconst (pc := 58) (v := (nI 0)) D0_copyFrom_58 (by decide) ?_
  refine J_aload_n (pc := 59) D0_copyFrom_59 rfl ?_
  refine J_getf (pc := 60) D0_copyFrom_60 fl0_18 rfl rfl ?_
  refine J_iconst (pc := 63) (v := (nI 0)) D0_copyFrom_63 (by decide) ?_
  refine J_bipush (pc := 64) (v := (nI 10)) D0_copyFrom_64 (by decide) ?_
  refine J_acopy (pc := 66) D0_copyFrom_66 t891 rfl rfl rfl rfl rfl (by decide) (by decide) rfl rfl (by omega) rfl ?_
  refine J_cell (i := 3) (g := U.2.2.2 2) rfl (fun j hj => sb_cpy0 hj) ?_
  refine J_w (w2 := celC 0 (U.1, U.2.1, U.2.2.1, upA (upA (upA (V.2.2.2) 0 (U.2.2.2 0)) 1 (U.2.2.2 1)) 2 (U.2.2.2 2)) ++ celC 10 U) rfl ?_
  refine J_aload_n (pc := 69) D0_copyFrom_69 rfl ?_
  refine J_getf (pc := 70) D0_copyFrom_70 fl0_21 rfl rfl ?_
  refine J_iconst (pc := 73) (v := (nI 0)) D0_copyFrom_73 (by decide) ?_
  refine J_aload_n (pc := 74) D0_copyFrom_74 rfl ?_
  refine J_getf (pc := 75) D0_copyFrom_75 fl0_21 rfl rfl ?_
  refine J_iconst (pc := 78) (v := (nI 0)) D0_copyFrom_78 (by decide) ?_
  refine J_bipush (pc := 79) (v := (nI 10)) D0_copyFrom_79 (by decide) ?_
  refine J_acopy (pc := 81) D0_copyFrom_81 t891 rfl rfl rfl rfl rfl (by decide) (by decide) rfl rfl (by omega) rfl ?_
  refine J_cell (i := 4) (g := U.2.2.2 3) rfl (fun j hj => sb_cpy0 hj) ?_
  refine J_w (w2 := celC 0 (U.1, U.2.1, U.2.2.1, upA (upA (upA (upA (V.2.2.2) 0 (U.2.2.2 0)) 1 (U.2.2.2 1)) 2 (U.2.2.2 2)) 3 (U.2.2.2 3)) ++ celC 10 U) rfl ?_
  refine J_aload_n (pc := 84) D0_copyFrom_84 rfl ?_
  refine J_getf (pc := 85) D0_copyFrom_85 fl0_24 rfl rfl ?_
  refine J_iconst (pc := 88) (v := (nI 0)) D0_copyFrom_88 (by decide) ?_
  refine J_aload_n (pc := 89) D0_copyFrom_89 rfl ?_
  refine J_getf (pc := 90) D0_copyFrom_90 fl0_24 rfl rfl ?_
  refine J_iconst (pc := 93) (v := (nI 0)) D0_copyFrom_93 (by decide) ?_
  refine J_bipush (pc := 94) (v := (nI 10)) D0_copyFrom_94 (by decide) ?_
  refine J_acopy (pc := 96) D0_copyFrom_96 t891 rfl rfl rfl rfl rfl (by decide) (by decide) rfl rfl (by omega) rfl ?_
  refine J_cell (i := 5) (g := U.2.2.2 4) rfl (fun j hj => sb_cpy0 hj) ?_
  refine J_w (w2 := celC 0 (U.1, U.2.1, U.2.2.1, upA (upA (upA (upA (upA (V.2.2.2) 0 (U.2.2.2 0)) 1 (U.2.2.2 1)) 2 (U.2.2.2 2)) 3 (U.2.2.2 3)) 4 (U.2.2.2 4)) ++ celC 10 U) rfl ?_
  refine J_aload_n (pc := 99) D0_copyFrom_99 rfl ?_
  refine J_getf (pc := 100) D0_copyFrom_100 fl0_27 rfl rfl ?_
  refine J_iconst (pc := 103) (v := (nI 0)) D0_copyFrom_103 (by decide) ?_
  refine J_aload_n (pc := 104) D0_copyFrom_104 rfl ?_
  refine J_getf (pc := 105) D0_copyFrom_105 fl0_27 rfl rfl ?_
  refine J_iconst (pc := 108) (v := (nI 0)) D0_copyFrom_108 (by decide) ?_
  refine J_bipush (pc := 109) (v := (nI 8)) D0_copyFrom_109 (by decide) ?_
  refine J_acopy (pc := 111) D0_copyFrom_111 t891 rfl rfl rfl rfl rfl (by decide) (by decide) rfl rfl (by omega) rfl ?_
  refine J_cell (i := 6) (g := U.2.2.2 5) rfl (fun j hj => sb_cpy0 hj) ?_
  refine J_w (w2 := celC 0 (U.1, U.2.1, U.2.2.1, upA (upA (upA (upA (upA (upA (V.2.2.2) 0 (U.2.2.2 0)) 1 (U.2.2.2 1)) 2 (U.2.2.2 2)) 3 (U.2.2.2 3)) 4 (U.2.2.2 4)) 5 (U.2.2.2 5)) ++ celC 10 U) rfl ?_
  refine J_aload_n (pc := 114) D0_copyFrom_114 rfl ?_
  refine J_getf (pc := 115) D0_copyFrom_115 fl0_30 rfl rfl ?_
  refine J_iconst (pc := 118) (v := (nI 0)) D0_copyFrom_118 (by decide) ?_
  refine J_aload_n (pc := 119) D0_copyFrom_119 rfl ?_
  refine J_getf (pc := 120) D0_copyFrom_120 fl0_30 rfl rfl ?_
  refine J_iconst (pc := 123) (v := (nI 0)) D0_copyFrom_123 (by decide) ?_
  refine J_iconst (pc := 124) (v := (nI 5)) D0_copyFrom_124 (by decide) ?_
  refine J_acopy (pc := 125) D0_copyFrom_125 t891 rfl rfl rfl rfl rfl (by decide) (by decide) rfl rfl (by omega) rfl ?_
  refine J_cell (i := 7) (g := U.2.2.2 6) rfl (fun j hj => sb_cpy0 hj) ?_
  refine J_w (w2 := celC 0 (U.1, U.2.1, U.2.2.1, upA (upA (upA (upA (upA (upA (upA (V.2.2.2) 0 (U.2.2.2 0)) 1 (U.2.2.2 1)) 2 (U.2.2.2 2)) 3 (U.2.2.2 3)) 4 (U.2.2.2 4)) 5 (U.2.2.2 5)) 6 (U.2.2.2 6)) ++ celC 10 U) rfl ?_
  refine J_aload_n (pc := 128) D0_copyFrom_128 rfl ?_
  refine J_getf (pc := 129) D0_copyFrom_129 fl0_33 rfl rfl ?_
  refine J_iconst (pc := 132) (v := (nI 0)) D0_copyFrom_132 (by decide) ?_
  refine J_aload_n (pc := 133) D0_copyFrom_133 rfl ?_
  refine J_getf (pc := 134) D0_copyFrom_134 fl0_33 rfl rfl ?_
  refine J_iconst (pc := 137) (v := (nI 0)) D0_copyFrom_137 (by decide) ?_
  refine J_iconst (pc := 138) (v := (nI 5)) D0_copyFrom_138 (by decide) ?_
  refine J_acopy (pc := 139) D0_copyFrom_139 t891 rfl rfl rfl rfl rfl (by decide) (by decide) rfl rfl (by omega) rfl ?_
  refine J_cell (i := 8) (g := U.2.2.2 7) rfl (fun j hj => sb_cpy0 hj) ?_
  refine J_w (w2 := celC 0 (U.1, U.2.1, U.2.2.1, upA (upA (upA (upA (upA (upA (upA (upA (V.2.2.2) 0 (U.2.2.2 0)) 1 (U.2.2.2 1)) 2 (U.2.2.2 2)) 3 (U.2.2.2 3)) 4 (U.2.2.2 4)) 5 (U.2.2.2 5)) 6 (U.2.2.2 6)) 7 (U.2.2.2 7)) ++ celC 10 U) rfl ?_
  refine J_aload_n (pc := 142) D0_copyFrom_142 rfl ?_
  refine J_getf (pc := 143) D0_copyFrom_143 fl0_36 rfl rfl ?_
  refine J_iconst (pc := 146) (v := (nI 0)) D0_copyFrom_146 (by decide) ?_
  refine J_aload_n (pc := 147) D0_copyFrom_147 rfl ?_
  refine J_getf (pc := 148) D0_copyFrom_148 fl0_36 rfl rfl ?_
  refine J_iconst (pc := 151) (v := (nI 0)) D0_copyFrom_151 (by decide) ?_
  refine J_bipush (pc := 152) (v := (nI 6)) D0_copyFrom_152 (by decide) ?_
  refine J_acopy (pc := 154) D0_copyFrom_154 t891 rfl rfl rfl rfl rfl (by decide) (by decide) rfl rfl (by omega) rfl ?_
  refine J_cell (i := 9) (g := U.2.2.2 8) rfl (fun j hj => sb_cpy0 hj) ?_
  refine J_w (w2 := celC 0 (U.1, U.2.1, U.2.2.1, upA (upA (upA (upA (upA (upA (upA (upA (upA (V.2.2.2) 0 (U.2.2.2 0)) 1 (U.2.2.2 1)) 2 (U.2.2.2 2)) 3 (U.2.2.2 3)) 4 (U.2.2.2 4)) 5 (U.2.2.2 5)) 6 (U.2.2.2 6)) 7 (U.2.2.2 7)) 8 (U.2.2.2 8)) ++ celC 10 U) rfl ?_
  refine J_vret (pc := 157) D0_copyFrom_157 rfl ?_
  exact ⟨rfl, rfl⟩
def lieF (a : Nat → Nat → Int32) (b : Nat) : Nat → Nat → Int32 := upA (upA a 3 (upd (a 3) b (nI 0))) 8 (upd (a 8) (a 0 b).toNatClampNeg (a 8 (a 0 b).toNatClampNeg + nI 1))
def lieV (V : CV) (b : Nat) : CV := (V.1, V.2.1, V.2.2.1, lieF V.2.2.2 b)
theorem lieF_e {a : Nat → Nat → Int32} {b β : Nat} (h : a 0 b = nI β) (hβ : β < 6) : lieF a b = upA (upA a 3 (upd (a 3) b (nI 0))) 8 (upd (a 8) β (a 8 β + nI 1)) := by
  unfold lieF
  rw [h, nI_clamp (by omega)]
theorem yl_lie {d : Nat} {V : CV} {b β : Nat} (hb : b < 10) (h2 : V.2.2.2 0 b = nI β) (h1 : β < 6) : Tr d 0 0 m0_lie [.ref 0, .int (nI b)] (celW V) (fun r w' => r = none ∧ w' = celW (lieV V b)) := by
  have := c0_lie (d := d) (y := V.1) (l := V.2.1) (th := V.2.2.1) (a := V.2.2.2) (b := b) hb h2 h1
  rw [← lieF_e h2 h1] at this
  exact this
def laS (T : TV) (V : CV) (b : Nat) : CV := lieV (V.1, V.2.1, V.2.2.1, upA (upA (upA V.2.2.2 0 (upd (V.2.2.2 0) b (T.2.1 7 b))) 1 (upd (V.2.2.2 1) b (T.2.1 8 b))) 2 (upd (V.2.2.2 2) b (T.2.1 9 b))) b
def laL (T : TV) : Nat → Nat → CV → CV
  | 0, _, V => V
  | g + 1, b, V => laL T g (b + 1) (laS T V b)
def la0 (T : TV) (V : CV) : CV := (nI 0, (T.1 16).toInt64, nI 0, upA (upA (upA (upA (upA (upA V.2.2.2 3 (fun _ => nI 3)) 4 (fun _ => -1)) 5 (fun _ => -1)) 6 (fun _ => nI 0)) 7 (fun _ => nI 0)) 8 (fun _ => nI 0))
def layF (T : TV) (nb : Nat) (V : CV) : CV := laL T nb 0 (la0 T V)
theorem L0_layDown {d np nb nn : Nat} {T : TV} (hT : WT T np nb nn) : ∀ (g b : Nat) (V : CV), b + g = nb → J m0_layDown (d + 1) 0 0 28 69 [(0, .ref 0), (1, .ref 10), (2, .int (nI b))] [] (celC 0 V ++ toldC 10 T) 0 0 (fun r w' => r = none ∧ w' = celC 0 (laL T g b V) ++ toldC 10 T) := by
  obtain ⟨-, eb, -, -, hnb, -, -, -, -, -, hbin⟩ := id hT
  intro g
  induction g with
  | zero =>
    intro b V hb
    refine J_iload_n (pc := 69) D0_layDown_69 rfl ?_
    refine J_aload_n (pc := 70) D0_layDown_70 rfl ?_
    refine J_getf (pc := 71) D0_layDown_71 fl0_61 rfl rfl ?_
    refine J_icmp_ge (pc := 74) (tgt := 124) D0_layDown_74 (by decide) (fun h74 => ?_) (fun h74 => absurd (by show T.1 3 ≤ nI b; rw [eb]; exact nI_le (by omega) (by omega)) h74)
    refine J_vret (pc := 124) D0_layDown_124 rfl ?_
    exact ⟨rfl, rfl⟩
  | succ g ih =>
    intro b V hb
    obtain ⟨β, hβ, e0⟩ := hbin b (by omega)
    refine J_iload_n (pc := 69) D0_layDown_69 rfl ?_
    refine J_aload_n (pc := 70) D0_layDown_70 rfl ?_
    refine J_getf (pc := 71) D0_layDown_71 fl0_61 rfl rfl ?_
    refine J_icmp_ge (pc := 74) (tgt := 124) D0_layDown_74 (by decide) (fun h74 => absurd h74 (by show ¬ T.1 3 ≤ nI b; rw [eb]; exact nI_ge (by omega) (by omega))) (fun h74 => ?_)
    refine J_aload_n (pc := 77) D0_layDown_77 rfl ?_
    refine J_getf (pc := 78) D0_layDown_78 fl0_9 rfl rfl ?_
    refine J_iload_n (pc := 81) D0_layDown_81 rfl ?_
    refine J_aload_n (pc := 82) D0_layDown_82 rfl ?_
    refine J_getf (pc := 83) D0_layDown_83 fl0_64 rfl rfl ?_
    refine J_iload_n (pc := 86) D0_layDown_86 rfl ?_
    refine J_iald (pc := 87) D0_layDown_87 rfl rfl (by omega) rfl ?_
    refine J_iast (pc := 88) D0_layDown_88 rfl rfl (by omega) rfl ?_
    refine J_aload_n (pc := 89) D0_layDown_89 rfl ?_
    refine J_getf (pc := 90) D0_layDown_90 fl0_15 rfl rfl ?_
    refine J_iload_n (pc := 93) D0_layDown_93 rfl ?_
    refine J_aload_n (pc := 94) D0_layDown_94 rfl ?_
    refine J_getf (pc := 95) D0_layDown_95 fl0_65 rfl rfl ?_
    refine J_iload_n (pc := 98) D0_layDown_98 rfl ?_
    refine J_iald (pc := 99) D0_layDown_99 rfl rfl (by omega) rfl ?_
    refine J_iast (pc := 100) D0_layDown_100 rfl rfl (by omega) rfl ?_
    refine J_aload_n (pc := 101) D0_layDown_101 rfl ?_
    refine J_getf (pc := 102) D0_layDown_102 fl0_18 rfl rfl ?_
    refine J_iload_n (pc := 105) D0_layDown_105 rfl ?_
    refine J_aload_n (pc := 106) D0_layDown_106 rfl ?_
    refine J_getf (pc := 107) D0_layDown_107 fl0_66 rfl rfl ?_
    refine J_iload_n (pc := 110) D0_layDown_110 rfl ?_
    refine J_iald (pc := 111) D0_layDown_111 rfl rfl (by omega) rfl ?_
    refine J_iast (pc := 112) D0_layDown_112 rfl rfl (by omega) rfl ?_
    refine J_w (w2 := celC 0 (V.1, V.2.1, V.2.2.1, upA (upA (upA V.2.2.2 0 (upd (V.2.2.2 0) b (T.2.1 7 b))) 1 (upd (V.2.2.2 1) b (T.2.1 8 b))) 2 (upd (V.2.2.2 2) b (T.2.1 9 b))) ++ toldC 10 T) rfl ?_
    refine J_aload_n (pc := 113) D0_layDown_113 rfl ?_
    refine J_iload_n (pc := 114) D0_layDown_114 rfl ?_
    refine J_callV (pc := 115) (ι := [0, 1, 2, 3, 4, 5, 6, 7, 8, 9]) (ac := [.int _]) D0_layDown_115 m0_lie_v t424 (yl_lie (d := d) (V := (V.1, V.2.1, V.2.2.1, upA (upA (upA V.2.2.2 0 (upd (V.2.2.2 0) b (T.2.1 7 b))) 1 (upd (V.2.2.2 1) b (T.2.1 8 b))) 2 (upd (V.2.2.2 2) b (T.2.1 9 b)))) (b := b) (β := β) (by omega) (by show upd (V.2.2.2 0) b (T.2.1 7 b) b = nI β; rw [pk_us]; exact e0) hβ) (by omega) rfl rfl ⟨rfl, rfl⟩ rfl rfl rfl rfl rfl (fun r w' hq hl => ?_)
    obtain ⟨rfl, rfl⟩ := hq
    refine J_w (w2 := celC 0 (laS T V b) ++ toldC 10 T) rfl ?_
    refine J_iinc (pc := 118) D0_layDown_118 rfl (nI_inc _) rfl ?_
    refine J_goto (pc := 121) (tgt := 69) D0_layDown_121 (by decide) ?_
    exact ih (b + 1) _ (by omega)
theorem c0_layDown {d np nb nn : Nat} {T : TV} {V : CV} (hT : WT T np nb nn) : Tr (d + 1) 0 0 m0_layDown [.ref 0, .ref 10] (celC 0 V ++ toldC 10 T) (fun r w' => r = none ∧ w' = celC 0 (layF T nb V) ++ toldC 10 T) := by
  refine Tr.intro (by decide) rfl ?_
  refine J_aload_n (pc := 0) D0_layDown_0 rfl ?_
  refine J_iconst (pc := 1) (v := (nI 0)) D0_layDown_1 (by decide) ?_
  refine J_putf (pc := 2) D0_layDown_2 fp0_39 rfl Fit.int rfl ?_
  refine J_aload_n (pc := 5) D0_layDown_5 rfl ?_
  refine J_aload_n (pc := 6) D0_layDown_6 rfl ?_
  refine J_getf (pc := 7) D0_layDown_7 fl0_43 rfl rfl ?_
  refine J_i2l (pc := 10) D0_layDown_10 ?_
  refine J_putf (pc := 11) D0_layDown_11 fp0_48 rfl Fit.long rfl ?_
  refine J_aload_n (pc := 14) D0_layDown_14 rfl ?_
  refine J_iconst (pc := 15) (v := (nI 0)) D0_layDown_15 (by decide) ?_
  refine J_putf (pc := 16) D0_layDown_16 fp0_52 rfl Fit.int rfl ?_
  refine J_aload_n (pc := 19) D0_layDown_19 rfl ?_
  refine J_getf (pc := 20) D0_layDown_20 fl0_21 rfl rfl ?_
  refine J_iconst (pc := 23) (v := (nI 3)) D0_layDown_23 (by decide) ?_
  refine J_callS (pc := 24) (ι := [4]) (ac := [.ref 0, .int _]) D0_layDown_24 mJ_fill_s t423 (cJ_fill (d := d) rfl) (by omega) ⟨rfl, rfl⟩ rfl rfl rfl rfl rfl (fun r w' hq hl => ?_)
  obtain ⟨rfl, rfl⟩ := hq
  refine J_aload_n (pc := 27) D0_layDown_27 rfl ?_
  refine J_getf (pc := 28) D0_layDown_28 fl0_24 rfl rfl ?_
  refine J_iconst (pc := 31) (v := (-1)) D0_layDown_31 (by decide) ?_
  refine J_callS (pc := 32) (ι := [5]) (ac := [.ref 0, .int _]) D0_layDown_32 mJ_fill_s t423 (cJ_fill (d := d) rfl) (by omega) ⟨rfl, rfl⟩ rfl rfl rfl rfl rfl (fun r w' hq hl => ?_)
  obtain ⟨rfl, rfl⟩ := hq
  refine J_aload_n (pc := 35) D0_layDown_35 rfl ?_
  refine J_getf (pc := 36) D0_layDown_36 fl0_27 rfl rfl ?_
  refine J_iconst (pc := 39) (v := (-1)) D0_layDown_39 (by decide) ?_
  refine J_callS (pc := 40) (ι := [6]) (ac := [.ref 0, .int _]) D0_layDown_40 mJ_fill_s t423 (cJ_fill (d := d) rfl) (by omega) ⟨rfl, rfl⟩ rfl rfl rfl rfl rfl (fun r w' hq hl => ?_)
  obtain ⟨rfl, rfl⟩ := hq
  refine J_aload_n (pc := 43) D0_layDown_43 rfl ?_
  refine J_getf (pc := 44) D0_layDown_44 fl0_30 rfl rfl ?_
  refine J_iconst (pc := 47) (v := (nI 0)) D0_layDown_47 (by decide) ?_
  refine J_callS (pc := 48) (ι := [7]) (ac := [.ref 0, .int _]) D0_layDown_48 mJ_fill_s t423 (cJ_fill (d := d) rfl) (by omega) ⟨rfl, rfl⟩ rfl rfl rfl rfl rfl (fun r w' hq hl => ?_)
  obtain ⟨rfl, rfl⟩ := hq
  refine J_aload_n (pc := 51) D0_layDown_51 rfl ?_
  refine J_getf (pc := 52) D0_layDown_52 fl0_33 rfl rfl ?_
  refine J_iconst (pc := 55) (v := (nI 0)) D0_layDown_55 (by decide) ?_
  refine J_callS (pc := 56) (ι := [8]) (ac := [.ref 0, .int _]) D0_layDown_56 mJ_fill_s t423 (cJ_fill (d := d) rfl) (by omega) ⟨rfl, rfl⟩ rfl rfl rfl rfl rfl (fun r w' hq hl => ?_)
  obtain ⟨rfl, rfl⟩ := hq
  refine J_aload_n (pc := 59) D0_layDown_59 rfl ?_
  refine J_getf (pc := 60) D0_layDown_60 fl0_36 rfl rfl ?_
  refine J_iconst (pc := 63) (v := (nI 0)) D0_layDown_63 (by decide) ?_
  refine J_callS (pc := 64) (ι := [9]) (ac := [.ref 0, .int _]) D0_layDown_64 mJ_fill_s t423 (cJ_fill (d := d) rfl) (by omega) ⟨rfl, rfl⟩ rfl rfl rfl rfl rfl (fun r w' hq hl => ?_)
  obtain ⟨rfl, rfl⟩ := hq
  refine J_iconst (pc := 67) (v := (nI 0)) D0_layDown_67 (by decide) ?_
  refine J_istore_n (pc := 68) D0_layDown_68 rfl ?_
  refine J_w (w2 := celC 0 (la0 T V) ++ toldC 10 T) rfl ?_
  exact L0_layDown hT nb 0 _ (by omega)
theorem c8_start {d : Nat} {t c q k a b e f : Value} {x : Int32} {i j : Nat} : Tr d 0 0 m8_start [.ref 0, .ref i, .ref j, .int x] [.inr (8, [t, c, a, b, e, q, k])] (fun r w' => r = none ∧ w' = [.inr (8, [.ref i, .ref j, .int x, .int (nI 1), .int (nI 1), q, k])]) := by
  refine Tr.intro (by decide) rfl ?_
  refine J_aload_n (pc := 0) D8_start_0 rfl ?_
  refine J_aload_n (pc := 1) D8_start_1 rfl ?_
  refine J_putf (pc := 2) D8_start_2 fp8_19 rfl Fit.obj rfl ?_
  refine J_aload_n (pc := 5) D8_start_5 rfl ?_
  refine J_aload_n (pc := 6) D8_start_6 rfl ?_
  refine J_putf (pc := 7) D8_start_7 fp8_23 rfl Fit.obj rfl ?_
  refine J_aload_n (pc := 10) D8_start_10 rfl ?_
  refine J_iload_n (pc := 11) D8_start_11 rfl ?_
  refine J_putf (pc := 12) D8_start_12 fp8_27 rfl Fit.int rfl ?_
  refine J_aload_n (pc := 15) D8_start_15 rfl ?_
  refine J_iconst (pc := 16) (v := (nI 1)) D8_start_16 (by decide) ?_
  refine J_putf (pc := 17) D8_start_17 fp8_31 rfl (Fit.zb (by first | exact Or.inl rfl | exact Or.inr rfl)) rfl ?_
  refine J_aload_n (pc := 20) D8_start_20 rfl ?_
  refine J_iconst (pc := 21) (v := (nI 1)) D8_start_21 (by decide) ?_
  refine J_putf (pc := 22) D8_start_22 fp8_35 rfl (Fit.zb (by first | exact Or.inl rfl | exact Or.inr rfl)) rfl ?_
  refine J_vret (pc := 25) D8_start_25 rfl ?_
  exact ⟨rfl, rfl⟩
/-- Undos: count; arrays 1 deed, 2 bottle, 3 before -/
def undC (o : Nat) (c : Nat) (a : Nat → Nat → Int32) : List EC := [.inr (7, [.int (nI c), .ref (o + 1), .ref (o + 2), .ref (o + 3)]), iA 20 (a 1), iA 20 (a 2), iA 20 (a 3)]
theorem c7_clear {d : Nat} {c : Nat} {a : Nat → Nat → Int32} : Tr d 0 0 m7_clear [.ref 0] (undC 0 c a) (fun r w' => r = none ∧ w' = undC 0 0 a) := by
  refine Tr.intro (by decide) rfl ?_
  refine J_aload_n (pc := 0) D7_clear_0 rfl ?_
  refine J_iconst (pc := 1) (v := (nI 0)) D7_clear_1 (by decide) ?_
  refine J_putf (pc := 2) D7_clear_2 fp7_21 rfl Fit.int rfl ?_
  refine J_vret (pc := 5) D7_clear_5 rfl ?_
  exact ⟨rfl, rfl⟩
def shF (f : Nat → Int32) : Nat → Int32 := fun j => if j < 19 then f (j + 1) else f j
theorem shF_cpy {f : Nat → Int32} {j : Nat} : va_cpy f f 1 0 19 j = shF f j := by
  unfold shF va_cpy
  by_cases h : j < 19
  · rw [if_pos ⟨by omega, by omega⟩, if_pos h, show 1 + (j - 0) = j + 1 by omega]
  · rw [if_neg (by omega), if_neg h]
theorem c7_forgetFirst {d : Nat} {c : Nat} {a : Nat → Nat → Int32} : Tr (d + 1) 0 0 m7_forgetFirst [.ref 0] (undC 0 c a) (fun r w' => r = none ∧ w' = undC 0 19 (fun k => shF (a k))) := by
  refine Tr.intro (by decide) rfl ?_
  refine J_aload_n (pc := 0) D7_forgetFirst_0 rfl ?_
  refine J_getf (pc := 1) D7_forgetFirst_1 fl7_9 rfl rfl ?_
  refine J_iconst (pc := 4) (v := (nI 1)) D7_forgetFirst_4 (by decide) ?_
  refine J_aload_n (pc := 5) D7_forgetFirst_5 rfl ?_
  refine J_getf (pc := 6) D7_forgetFirst_6 fl7_9 rfl rfl ?_
  refine J_iconst (pc := 9) (v := (nI 0)) D7_forgetFirst_9 (by decide) ?_
  refine J_bipush (pc := 10) (v := (nI 19)) D7_forgetFirst_10 (by decide) ?_
  refine J_acopy (pc := 12) D7_forgetFirst_12 t792 rfl rfl rfl rfl rfl (by decide) (by decide) rfl rfl (by omega) rfl ?_
  refine J_cell (i := 1) (g := shF (a 1)) rfl (fun j hj => shF_cpy) ?_
  refine J_aload_n (pc := 15) D7_forgetFirst_15 rfl ?_
  refine J_getf (pc := 16) D7_forgetFirst_16 fl7_15 rfl rfl ?_
  refine J_iconst (pc := 19) (v := (nI 1)) D7_forgetFirst_19 (by decide) ?_
  refine J_aload_n (pc := 20) D7_forgetFirst_20 rfl ?_
  refine J_getf (pc := 21) D7_forgetFirst_21 fl7_15 rfl rfl ?_
  refine J_iconst (pc := 24) (v := (nI 0)) D7_forgetFirst_24 (by decide) ?_
  refine J_bipush (pc := 25) (v := (nI 19)) D7_forgetFirst_25 (by decide) ?_
  refine J_acopy (pc := 27) D7_forgetFirst_27 t792 rfl rfl rfl rfl rfl (by decide) (by decide) rfl rfl (by omega) rfl ?_
  refine J_cell (i := 2) (g := shF (a 2)) rfl (fun j hj => shF_cpy) ?_
  refine J_aload_n (pc := 30) D7_forgetFirst_30 rfl ?_
  refine J_getf (pc := 31) D7_forgetFirst_31 fl7_18 rfl rfl ?_
  refine J_iconst (pc := 34) (v := (nI 1)) D7_forgetFirst_34 (by decide) ?_
  refine J_aload_n (pc := 35) D7_forgetFirst_35 rfl ?_
  refine J_getf (pc := 36) D7_forgetFirst_36 fl7_18 rfl rfl ?_
  refine J_iconst (pc := 39) (v := (nI 0)) D7_forgetFirst_39 (by decide) ?_
  refine J_bipush (pc := 40) (v := (nI 19)) D7_forgetFirst_40 (by decide) ?_
  refine J_acopy (pc := 42) D7_forgetFirst_42 t792 rfl rfl rfl rfl rfl (by decide) (by decide) rfl rfl (by omega) rfl ?_
  refine J_cell (i := 3) (g := shF (a 3)) rfl (fun j hj => shF_cpy) ?_
  refine J_aload_n (pc := 45) D7_forgetFirst_45 rfl ?_
  refine J_bipush (pc := 46) (v := (nI 19)) D7_forgetFirst_46 (by decide) ?_
  refine J_putf (pc := 48) D7_forgetFirst_48 fp7_21 rfl Fit.int rfl ?_
  refine J_vret (pc := 51) D7_forgetFirst_51 rfl ?_
  exact ⟨rfl, rfl⟩
def adU (c : Nat) (a : Nat → Nat → Int32) (x b z : Int32) : Nat → Nat → Int32 := upA (upA (upA a 1 (upd (a 1) c x)) 2 (upd (a 2) c b)) 3 (upd (a 3) c z)
theorem L7_add {d c : Nat} {a : Nat → Nat → Int32} {x b z : Int32} (hc : c < 20) : J m7_add (d + 2) 0 0 4 13 [(0, .ref 0), (1, .int x), (2, .int b), (3, .int z)] [] (undC 0 c a) 0 0 (fun r w' => r = none ∧ w' = undC 0 (c + 1) (adU c a x b z)) := by
  refine J_aload_n (pc := 13) D7_add_13 rfl ?_
  refine J_getf (pc := 14) D7_add_14 fl7_9 rfl rfl ?_
  refine J_aload_n (pc := 17) D7_add_17 rfl ?_
  refine J_getf (pc := 18) D7_add_18 fl7_21 rfl rfl ?_
  refine J_iload_n (pc := 21) D7_add_21 rfl ?_
  refine J_iast (pc := 22) D7_add_22 rfl rfl (by omega) rfl ?_
  refine J_aload_n (pc := 23) D7_add_23 rfl ?_
  refine J_getf (pc := 24) D7_add_24 fl7_15 rfl rfl ?_
  refine J_aload_n (pc := 27) D7_add_27 rfl ?_
  refine J_getf (pc := 28) D7_add_28 fl7_21 rfl rfl ?_
  refine J_iload_n (pc := 31) D7_add_31 rfl ?_
  refine J_iast (pc := 32) D7_add_32 rfl rfl (by omega) rfl ?_
  refine J_aload_n (pc := 33) D7_add_33 rfl ?_
  refine J_getf (pc := 34) D7_add_34 fl7_18 rfl rfl ?_
  refine J_aload_n (pc := 37) D7_add_37 rfl ?_
  refine J_getf (pc := 38) D7_add_38 fl7_21 rfl rfl ?_
  refine J_iload_n (pc := 41) D7_add_41 rfl ?_
  refine J_iast (pc := 42) D7_add_42 rfl rfl (by omega) rfl ?_
  refine J_aload_n (pc := 43) D7_add_43 rfl ?_
  refine J_dup (pc := 44) D7_add_44 rfl ?_
  refine J_getf (pc := 45) D7_add_45 fl7_21 rfl rfl ?_
  refine J_iconst (pc := 48) (v := (nI 1)) D7_add_48 (by decide) ?_
  refine J_iadd (pc := 49) D7_add_49 ?_
  refine J_st [.int (nI (c + 1)), .ref 0] (by rw [show nI c + nI 1 = nI (c + 1) from nI_1 c]) ?_
  refine J_putf (pc := 50) D7_add_50 fp7_21 rfl Fit.int rfl ?_
  refine J_vret (pc := 53) D7_add_53 rfl ?_
  exact ⟨rfl, rfl⟩
def addU (c : Nat) (a : Nat → Nat → Int32) (x b z : Int32) : Nat × (Nat → Nat → Int32) := if c < 20 then (c + 1, adU c a x b z) else (20, adU 19 (fun k => shF (a k)) x b z)
theorem c7_add {d c : Nat} {a : Nat → Nat → Int32} {x b z : Int32} (hc : c ≤ 20) : Tr (d + 2) 0 0 m7_add [.ref 0, .int x, .int b, .int z] (undC 0 c a) (fun r w' => r = none ∧ w' = undC 0 (addU c a x b z).1 (addU c a x b z).2) := by
  refine Tr.intro (by decide) rfl ?_
  refine J_aload_n (pc := 0) D7_add_0 rfl ?_
  refine J_getf (pc := 1) D7_add_1 fl7_21 rfl rfl ?_
  refine J_bipush (pc := 4) (v := (nI 20)) D7_add_4 (by decide) ?_
  refine J_icmp_lt (pc := 6) (tgt := 13) D7_add_6 (by decide) (fun h6 => ?_) (fun h6 => ?_)
  · have h6' := Int32.not_le.mpr h6
    have hlt := (nI_ltI (by omega) (by omega)).mp h6
    rw [addU, if_pos hlt]
    exact L7_add hlt
  · have h6' := Int32.not_lt.mp h6
    have hlt := (nI_leI (by omega) (by omega)).mp h6'
    refine J_aload_n (pc := 9) D7_add_9 rfl ?_
    refine J_callVT (pc := 10) (ac := []) D7_add_10 m7_forgetFirst_v t788 (c7_forgetFirst (d := d)) (by omega) rfl rfl rfl rfl rfl rfl rfl (fun r w' hq hl => ?_)
    obtain ⟨rfl, rfl⟩ := hq
    rw [addU, if_neg (by omega)]
    exact L7_add (c := 19) (by omega)
