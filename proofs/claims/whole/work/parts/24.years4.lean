/-! YEARS: needs, a whole year (own; walks by program wk.py) -/
def haF (a : Nat → Nat → Int32) (p q : Nat) : Nat → Nat → Int32 := if (a 6 p >>> (nI q &&& 31)) &&& nI 1 = 0 then upA (upA a 6 (upd (a 6) p (a 6 p ||| (nI 1 <<< (nI q &&& 31))))) 7 (upd (a 7) q (a 7 q + nI 1)) else a
theorem yl_hate {d : Nat} {V : CV} {p q : Nat} (hp : p < 5) (hq : q < 5) : Tr d 0 0 m0_hate [.ref 0, .int (nI p), .int (nI q)] (celW V) (fun r w' => r = none ∧ w' = celW (V.1, V.2.1, V.2.2.1, haF V.2.2.2 p q)) := c0_hate (y := V.1) (l := V.2.1) (th := V.2.2.1) (a := V.2.2.2) hp hq
theorem wkL_lt {T : TV} {V : CV} {n nb : Nat} {ow : Int32} : ∀ (g b : Nat) (ac : Option Nat), b + g = nb → (∀ w, ac = some w → w < nb) → ∀ w, wkL T V n ow g b ac = some w → w < nb
  | 0, _, ac, _, h => h
  | g + 1, b, ac, hb, h => wkL_lt g (b + 1) _ (by omega) (fun w hw => by
    unfold wkS at hw
    split at hw
    · cases hw; omega
    · exact h w hw)
theorem weF_lt {T : TV} {V : CV} {n nb w : Nat} {ow : Int32} (h : weF T nb V n ow = some w) : w < nb := wkL_lt nb 0 none (by omega) (fun _ h => by cases h) w h
def meM (a : Nat → Nat → Int32) (b : Nat) (p : Int32) (n : Nat) (x : Int32) : Nat → Nat → Int32 := upA (upA (lvF a b (nI 1)) 4 (upd (a 4) b p)) 5 (upd (a 5) n x)
def meetF (T : TV) (nb : Nat) (V : CV) (n : Nat) : CV := match weF T nb V n (nI 1) with
  | some b => (V.1, V.2.1, V.2.2.1, meM V.2.2.2 b (T.2.1 11 n) n (nI 1))
  | none => match weF T nb V n (nI 0) with
    | some b => (V.1, V.2.1, V.2.2.1, haF (meM V.2.2.2 b (T.2.1 11 n) n (nI 2)) (T.2.1 11 n).toNatClampNeg (T.2.1 6 b).toNatClampNeg)
    | none => (V.1, V.2.1, V.2.2.1, upA V.2.2.2 5 (upd (V.2.2.2 5) n (nI 0)))
theorem meetF_1 {T : TV} {nb : Nat} {V : CV} {n b : Nat} (h : weF T nb V n (nI 1) = some b) : meetF T nb V n = (V.1, V.2.1, V.2.2.1, meM V.2.2.2 b (T.2.1 11 n) n (nI 1)) := by unfold meetF; rw [h]
theorem meetF_2 {T : TV} {nb : Nat} {V : CV} {n b : Nat} (h : weF T nb V n (nI 1) = none) (h2 : weF T nb V n (nI 0) = some b) : meetF T nb V n = (V.1, V.2.1, V.2.2.1, haF (meM V.2.2.2 b (T.2.1 11 n) n (nI 2)) (T.2.1 11 n).toNatClampNeg (T.2.1 6 b).toNatClampNeg) := by unfold meetF; rw [h]; simp only []; rw [h2]
theorem meetF_3 {T : TV} {nb : Nat} {V : CV} {n : Nat} (h : weF T nb V n (nI 1) = none) (h2 : weF T nb V n (nI 0) = none) : meetF T nb V n = (V.1, V.2.1, V.2.2.1, upA V.2.2.2 5 (upd (V.2.2.2 5) n (nI 0))) := by unfold meetF; rw [h]; simp only []; rw [h2]
theorem nI_ne1 {b : Nat} (h : b < 10) : ¬ nI b = -1 := fun e => absurd (show nI b < 0 by rw [e]; decide) (nI_pos (by omega))
theorem L8_meet51 {d np nb nn : Nat} {y : Int32 × Int32 × Int32} {q : Nat → Int32} {k : Nat → Int64} {T : TV} {V : CV} {n b p : Nat} {ow : Option Nat} (hT : WT T np nb nn) (hV : WV V nb) (hn : n < nn) (hb : b < nb) (ep : T.2.1 11 n = nI p) (hp : p < np) (hS : (ow = some b ∧ weF T nb V n (nI 1) = some b) ∨ (ow = none ∧ weF T nb V n (nI 1) = none ∧ weF T nb V n (nI 0) = some b)) :
    J m8_meet (d + 2) 0 0 31 51 [(0, .ref 0), (1, .int (nI n)), (2, .int (nI p)), (3, .int (wkI ow)), (4, .int (nI b))] [] (yrsW y q k T V) 0 0 (fun r w' => r = none ∧ w' = yrsW y q k T (meetF T nb V n)) := by
  obtain ⟨-, eb, -, hnp, hnb, hnn, -, hat, -⟩ := id hT
  obtain ⟨q1, hq1, eq1⟩ := hat b hb
  rcases hS with ⟨rfl, hw⟩ | ⟨rfl, hw, hw2⟩
  · refine J_aload_n (pc := 51) D8_meet_51 rfl ?_
    refine J_getf (pc := 52) D8_meet_52 fl8_23 rfl rfl ?_
    refine J_iload (pc := 55) D8_meet_55 rfl ?_
    refine J_iconst (pc := 57) (v := (nI 1)) D8_meet_57 (by decide) ?_
    refine J_callV (pc := 58) (ι := [21, 22, 23, 24, 25, 26, 27, 28, 29, 30]) (ac := [.int _, .int _]) D8_meet_58 m0_leave_v t861 (yl_leave (d := d + 1) (V := V) (x := nI 1) hV hb hnb) (by omega) rfl rfl ⟨rfl, rfl⟩ rfl rfl rfl rfl rfl (fun r w' hq hl => ?_)
    obtain ⟨rfl, rfl⟩ := hq
    refine J_w (w2 := yrsW y q k T (lvV V b (nI 1))) rfl ?_
    refine J_aload_n (pc := 61) D8_meet_61 rfl ?_
    refine J_getf (pc := 62) D8_meet_62 fl8_23 rfl rfl ?_
    refine J_getf (pc := 65) D8_meet_65 fl8_149 rfl rfl ?_
    refine J_iload (pc := 68) D8_meet_68 rfl ?_
    refine J_iload_n (pc := 70) D8_meet_70 rfl ?_
    refine J_iast (pc := 71) D8_meet_71 rfl rfl (by omega) rfl ?_
    refine J_aload_n (pc := 72) D8_meet_72 rfl ?_
    refine J_getf (pc := 73) D8_meet_73 fl8_23 rfl rfl ?_
    refine J_getf (pc := 76) D8_meet_76 fl8_146 rfl rfl ?_
    refine J_iload_n (pc := 79) D8_meet_79 rfl ?_
    refine J_iload_n (pc := 80) D8_meet_80 rfl ?_
    refine J_iconst (pc := 81) (v := (-1)) D8_meet_81 (by decide) ?_
    refine J_icmp_eq (pc := 82) (tgt := 89) D8_meet_82 (by decide) (fun h82 => absurd h82 (nI_ne1 (b := b) (by omega))) (fun h82 => ?_)
    refine J_iconst (pc := 85) (v := (nI 1)) D8_meet_85 (by decide) ?_
    refine J_goto (pc := 86) (tgt := 90) D8_meet_86 (by decide) ?_
    refine J_iast (pc := 90) D8_meet_90 rfl rfl (by omega) rfl ?_
    refine J_iload_n (pc := 91) D8_meet_91 rfl ?_
    refine J_iconst (pc := 92) (v := (-1)) D8_meet_92 (by decide) ?_
    refine J_icmp_ne (pc := 93) (tgt := 114) D8_meet_93 (by decide) (fun h93 => ?_) (fun h93 => absurd h93 (nI_ne1 (b := b) (by omega)))
    refine J_vret (pc := 114) D8_meet_114 rfl ?_
    refine ⟨rfl, ?_⟩
    rw [meetF_1 hw, ep]
    rfl
  · refine J_aload_n (pc := 51) D8_meet_51 rfl ?_
    refine J_getf (pc := 52) D8_meet_52 fl8_23 rfl rfl ?_
    refine J_iload (pc := 55) D8_meet_55 rfl ?_
    refine J_iconst (pc := 57) (v := (nI 1)) D8_meet_57 (by decide) ?_
    refine J_callV (pc := 58) (ι := [21, 22, 23, 24, 25, 26, 27, 28, 29, 30]) (ac := [.int _, .int _]) D8_meet_58 m0_leave_v t861 (yl_leave (d := d + 1) (V := V) (x := nI 1) hV hb hnb) (by omega) rfl rfl ⟨rfl, rfl⟩ rfl rfl rfl rfl rfl (fun r w' hq hl => ?_)
    obtain ⟨rfl, rfl⟩ := hq
    refine J_w (w2 := yrsW y q k T (lvV V b (nI 1))) rfl ?_
    refine J_aload_n (pc := 61) D8_meet_61 rfl ?_
    refine J_getf (pc := 62) D8_meet_62 fl8_23 rfl rfl ?_
    refine J_getf (pc := 65) D8_meet_65 fl8_149 rfl rfl ?_
    refine J_iload (pc := 68) D8_meet_68 rfl ?_
    refine J_iload_n (pc := 70) D8_meet_70 rfl ?_
    refine J_iast (pc := 71) D8_meet_71 rfl rfl (by omega) rfl ?_
    refine J_aload_n (pc := 72) D8_meet_72 rfl ?_
    refine J_getf (pc := 73) D8_meet_73 fl8_23 rfl rfl ?_
    refine J_getf (pc := 76) D8_meet_76 fl8_146 rfl rfl ?_
    refine J_iload_n (pc := 79) D8_meet_79 rfl ?_
    refine J_iload_n (pc := 80) D8_meet_80 rfl ?_
    refine J_iconst (pc := 81) (v := (-1)) D8_meet_81 (by decide) ?_
    refine J_icmp_eq (pc := 82) (tgt := 89) D8_meet_82 (by decide) (fun h82 => ?_) (fun h82 => absurd rfl h82)
    refine J_iconst (pc := 89) (v := (nI 2)) D8_meet_89 (by decide) ?_
    refine J_iast (pc := 90) D8_meet_90 rfl rfl (by omega) rfl ?_
    refine J_iload_n (pc := 91) D8_meet_91 rfl ?_
    refine J_iconst (pc := 92) (v := (-1)) D8_meet_92 (by decide) ?_
    refine J_icmp_ne (pc := 93) (tgt := 114) D8_meet_93 (by decide) (fun h93 => absurd rfl h93) (fun h93 => ?_)
    refine J_w (w2 := yrsW y q k T (V.1, V.2.1, V.2.2.1, meM V.2.2.2 b (nI p) n (nI 2))) rfl ?_
    refine J_aload_n (pc := 96) D8_meet_96 rfl ?_
    refine J_getf (pc := 97) D8_meet_97 fl8_23 rfl rfl ?_
    refine J_iload_n (pc := 100) D8_meet_100 rfl ?_
    refine J_aload_n (pc := 101) D8_meet_101 rfl ?_
    refine J_getf (pc := 102) D8_meet_102 fl8_19 rfl rfl ?_
    refine J_getf (pc := 105) D8_meet_105 fl8_152 rfl rfl ?_
    refine J_iload (pc := 108) D8_meet_108 rfl ?_
    refine J_iald (pc := 110) D8_meet_110 rfl rfl (by omega) rfl ?_
    refine J_st [.int (nI q1), .int (nI p), .ref 21] (by rw [eq1]; rfl) ?_
    refine J_callV (pc := 111) (ι := [21, 22, 23, 24, 25, 26, 27, 28, 29, 30]) (ac := [.int _, .int _]) D8_meet_111 m0_hate_v t875 (yl_hate (d := d + 1) (V := (V.1, V.2.1, V.2.2.1, meM V.2.2.2 b (nI p) n (nI 2))) (p := p) (q := q1) (by omega) (by omega)) (by omega) rfl rfl ⟨rfl, rfl⟩ rfl rfl rfl rfl rfl (fun r w' hq hl => ?_)
    obtain ⟨rfl, rfl⟩ := hq
    refine J_vret (pc := 114) D8_meet_114 rfl ?_
    refine ⟨rfl, ?_⟩
    rw [meetF_2 hw hw2, ep, eq1, nI_clamp (by omega), nI_clamp (by omega)]
    rfl
theorem c8_meet {d np nb nn : Nat} {y : Int32 × Int32 × Int32} {q : Nat → Int32} {k : Nat → Int64} {T : TV} {V : CV} {n : Nat} (hT : WT T np nb nn) (hV : WV V nb) (hn : n < nn) : Tr (d + 2) 0 0 m8_meet [.ref 0, .int (nI n)] (yrsW y q k T V) (fun r w' => r = none ∧ w' = yrsW y q k T (meetF T nb V n)) := by
  obtain ⟨-, eb, -, hnp, hnb, hnn, -, hat, hne, -⟩ := id hT
  obtain ⟨p, hp, ep⟩ := hne n hn
  refine Tr.intro (by decide) rfl ?_
  refine J_aload_n (pc := 0) D8_meet_0 rfl ?_
  refine J_getf (pc := 1) D8_meet_1 fl8_19 rfl rfl ?_
  refine J_getf (pc := 4) D8_meet_4 fl8_139 rfl rfl ?_
  refine J_iload_n (pc := 7) D8_meet_7 rfl ?_
  refine J_iald (pc := 8) D8_meet_8 rfl rfl (by omega) rfl ?_
  refine J_st [.int (nI p)] (by rw [ep]) ?_
  refine J_istore_n (pc := 9) D8_meet_9 rfl ?_
  refine J_aload_n (pc := 10) D8_meet_10 rfl ?_
  refine J_iload_n (pc := 11) D8_meet_11 rfl ?_
  refine J_iconst (pc := 12) (v := (nI 1)) D8_meet_12 (by decide) ?_
  refine J_callVTR (pc := 13) (ac := [.int _, .int _]) D8_meet_13 m8_weakest_v t870 (c8_weakest (d := d) (ow := nI 1) hT hn) (by omega) rfl rfl rfl rfl (fun _ => rfl) rfl rfl rfl ?_
  refine J_istore_n (pc := 16) D8_meet_16 rfl ?_
  refine J_iload_n (pc := 17) D8_meet_17 rfl ?_
  refine J_iconst (pc := 18) (v := (-1)) D8_meet_18 (by decide) ?_
  refine J_icmp_eq (pc := 19) (tgt := 26) D8_meet_19 (by decide) (fun h19 => ?_) (fun h19 => ?_)
  · have h19' := eq_true h19
    have e1 := wkI_n h19 (fun w hw => by have := weF_lt hw; omega)
    refine J_aload_n (pc := 26) D8_meet_26 rfl ?_
    refine J_iload_n (pc := 27) D8_meet_27 rfl ?_
    refine J_iconst (pc := 28) (v := (nI 0)) D8_meet_28 (by decide) ?_
    refine J_callVTR (pc := 29) (ac := [.int _, .int _]) D8_meet_29 m8_weakest_v t870 (c8_weakest (d := d) (ow := nI 0) hT hn) (by omega) rfl rfl rfl rfl (fun _ => rfl) rfl rfl rfl ?_
    refine J_istore (pc := 32) D8_meet_32 rfl ?_
    refine J_iload (pc := 34) D8_meet_34 rfl ?_
    refine J_iconst (pc := 36) (v := (-1)) D8_meet_36 (by decide) ?_
    refine J_icmp_ne (pc := 37) (tgt := 51) D8_meet_37 (by decide) (fun h37 => ?_) (fun h37 => ?_)
    · obtain ⟨b2, e2⟩ := wkI_s h37
      have hb2 := weF_lt e2
      rw [e2]
      rw [e1]
      exact L8_meet51 (ow := none) hT hV hn hb2 ep hp (Or.inr ⟨rfl, e1, e2⟩)
    · have h37' := eq_true h37
      have e2 := wkI_n h37 (fun w hw => by have := weF_lt hw; omega)
      refine J_aload_n (pc := 40) D8_meet_40 rfl ?_
      refine J_getf (pc := 41) D8_meet_41 fl8_23 rfl rfl ?_
      refine J_getf (pc := 44) D8_meet_44 fl8_146 rfl rfl ?_
      refine J_iload_n (pc := 47) D8_meet_47 rfl ?_
      refine J_iconst (pc := 48) (v := (nI 0)) D8_meet_48 (by decide) ?_
      refine J_iast (pc := 49) D8_meet_49 rfl rfl (by omega) rfl ?_
      refine J_vret (pc := 50) D8_meet_50 rfl ?_
      refine ⟨rfl, ?_⟩
      rw [meetF_3 e1 e2]
      rfl
  · obtain ⟨b1, e1⟩ := wkI_s h19
    have hb1 := weF_lt e1
    rw [e1]
    refine J_iload_n (pc := 22) D8_meet_22 rfl ?_
    refine J_goto (pc := 23) (tgt := 32) D8_meet_23 (by decide) ?_
    refine J_istore (pc := 32) D8_meet_32 rfl ?_
    refine J_iload (pc := 34) D8_meet_34 rfl ?_
    refine J_iconst (pc := 36) (v := (-1)) D8_meet_36 (by decide) ?_
    refine J_icmp_ne (pc := 37) (tgt := 51) D8_meet_37 (by decide) (fun h37 => ?_) (fun h37 => absurd h37 (nI_ne1 (b := b1) (by omega)))
    exact L8_meet51 (ow := some b1) hT hV hn hb1 ep hp (Or.inl ⟨rfl, e1⟩)
theorem crL_V {T : TV} {nb : Nat} : ∀ (g b : Nat) (V : CV), WV V nb → WV (crL T g b V) nb
  | 0, _, _, h => h
  | g + 1, b, V, h => crL_V g (b + 1) _ (crS_V h)
theorem agL_V {T : TV} {nb : Nat} : ∀ (g b : Nat) (V : CV), WV V nb → WV (agL T g b V) nb
  | 0, _, _, h => h
  | g + 1, b, V, h => agL_V g (b + 1) _ (agS_V h)
theorem goS_0 {T : TV} {bin : Int32} {b : Nat} {S : GS} : (goS T bin b S).1.2.2.2 0 = S.1.2.2.2 0 := by
  unfold goS
  split <;> rfl
theorem goI_0 {T : TV} {bin : Int32} : ∀ (g b : Nat) (S : GS), (goI T bin g b S).1.2.2.2 0 = S.1.2.2.2 0
  | 0, _, _ => rfl
  | g + 1, b, S => (goI_0 g (b + 1) _).trans goS_0
theorem goO_0 {T : TV} {nb : Nat} : ∀ (g x : Nat) (S : GS), (goO T nb g x S).1.2.2.2 0 = S.1.2.2.2 0
  | 0, _, _ => rfl
  | g + 1, x, S => by
    unfold goO
    split
    · exact (goO_0 g (x + 1) _).trans (goI_0 _ _ _)
    · rfl
theorem goOffF_0 {T : TV} {y : Int32 × Int32 × Int32} {nb : Nat} {V : CV} {b : Nat} : (goOffF T y nb V b).2.2.2 0 = V.2.2.2 0 := by
  unfold goOffF
  split
  · rfl
  · exact goO_0 _ _ _
theorem haF_0 {a : Nat → Nat → Int32} {p q : Nat} : haF a p q 0 = a 0 := by
  unfold haF
  split <;> rfl
theorem meetF_0 {T : TV} {nb : Nat} {V : CV} {n : Nat} : (meetF T nb V n).2.2.2 0 = V.2.2.2 0 := by
  unfold meetF
  split
  · rfl
  · split
    · exact haF_0
    · rfl
theorem WV.of {V V' : CV} {nb : Nat} (h : WV V nb) (e : V'.2.2.2 0 = V.2.2.2 0) : WV V' nb := fun b hb => by rw [e]; exact h b hb
def p3S (T : TV) (y : Int32 × Int32 × Int32) (nb : Nat) (V : CV) (b : Nat) : CV := if V.2.2.2 3 b = 0 ∧ V.2.2.2 2 b = 0 then goOffF T y nb V b else V
def p3L (T : TV) (y : Int32 × Int32 × Int32) (nb : Nat) : Nat → Nat → CV → CV
  | 0, _, V => V
  | g + 1, b, V => p3L T y nb g (b + 1) (p3S T y nb V b)
def p4S (T : TV) (nb : Nat) (V : CV) (n : Nat) : CV := if T.2.1 12 n = V.1 then meetF T nb V n else V
def p4L (T : TV) (nb : Nat) : Nat → Nat → CV → CV
  | 0, _, V => V
  | g + 1, n, V => p4L T nb g (n + 1) (p4S T nb V n)
theorem p3S_V {T : TV} {y : Int32 × Int32 × Int32} {nb b : Nat} {V : CV} (h : WV V nb) : WV (p3S T y nb V b) nb := by
  unfold p3S
  split
  · exact h.of goOffF_0
  · exact h
theorem p4S_V {T : TV} {nb n : Nat} {V : CV} (h : WV V nb) : WV (p4S T nb V n) nb := by
  unfold p4S
  split
  · exact h.of meetF_0
  · exact h
theorem p3L_V {T : TV} {y : Int32 × Int32 × Int32} {nb : Nat} : ∀ (g b : Nat) (V : CV), WV V nb → WV (p3L T y nb g b V) nb
  | 0, _, _, h => h
  | g + 1, b, V, h => p3L_V g (b + 1) _ (p3S_V h)
theorem p4L_V {T : TV} {nb : Nat} : ∀ (g b : Nat) (V : CV), WV V nb → WV (p4L T nb g b V) nb
  | 0, _, _, h => h
  | g + 1, b, V, h => p4L_V g (b + 1) _ (p4S_V h)
def incY (V : CV) : CV := (V.1 + nI 1, V.2)
def p2F (T : TV) (y : Int32 × Int32 × Int32) (nb nn : Nat) (V : CV) : CV := incY (p4L T nb nn 0 (p3L T y nb nb 0 (if y.2.2 = 0 then V else agL T nb 0 V)))
def passF (T : TV) (y : Int32 × Int32 × Int32) (nb nn : Nat) (V : CV) : CV := p2F T y nb nn (if (thF y T V).1 = 0 then (thF y T V).2 else creepF T nb (thF y T V).2)
theorem thF_V {y : Int32 × Int32 × Int32} {T : TV} {V : CV} {nb : Nat} (h : WV V nb) : WV (thF y T V).2 nb := by
  unfold thF
  split
  · exact h
  · split
    · exact h
    · split <;> exact h.of rfl
theorem passF_V {T : TV} {y : Int32 × Int32 × Int32} {nb nn : Nat} {V : CV} (h : WV V nb) : WV (passF T y nb nn V) nb := by
  have h1 : WV (if (thF y T V).1 = 0 then (thF y T V).2 else creepF T nb (thF y T V).2) nb := by
    split
    · exact thF_V h
    · exact crL_V _ _ _ (thF_V h)
  have h2 : ∀ V, WV V nb → WV (if y.2.2 = 0 then V else agL T nb 0 V) nb := by
    intro V h
    split
    · exact h
    · exact agL_V _ _ _ h
  exact p4L_V _ _ _ (p3L_V _ _ _ (h2 _ h1))
abbrev yV (y : Int32 × Int32 × Int32) (T : TV) (V : CV) : Option Value → List EC → Prop := fun r w' => r = none ∧ ∃ q' k', w' = yrsW y q' k' T V
theorem L8_p71 {d np nb nn : Nat} {y : Int32 × Int32 × Int32} {T : TV} (hT : WT T np nb nn) : ∀ (g n : Nat) (V : CV) (q : Nat → Int32) (k : Nat → Int64), n + g = nn → WV V nb → J m8_passOne (d + 5) 0 0 31 71 [(0, .ref 0), (1, .int (nI n))] [] (yrsW y q k T V) 0 0 (yV y T (incY (p4L T nb g n V))) := by
  obtain ⟨-, eb, en, -, hnb, hnn, -⟩ := id hT
  intro g
  induction g with
  | zero =>
    intro n V q k hn hV
    refine J_iload_n (pc := 71) D8_passOne_71 rfl ?_
    refine J_aload_n (pc := 72) D8_passOne_72 rfl ?_
    refine J_getf (pc := 73) D8_passOne_73 fl8_19 rfl rfl ?_
    refine J_getf (pc := 76) D8_passOne_76 fl8_69 rfl rfl ?_
    refine J_icmp_ge (pc := 79) (tgt := 112) D8_passOne_79 (by decide) (fun h79 => ?_) (fun h79 => absurd (by rw [en]; exact nI_le (by omega) (by omega)) h79)
    refine J_aload_n (pc := 112) D8_passOne_112 rfl ?_
    refine J_getf (pc := 113) D8_passOne_113 fl8_23 rfl rfl ?_
    refine J_dup (pc := 116) D8_passOne_116 rfl ?_
    refine J_getf (pc := 117) D8_passOne_117 fl8_75 rfl rfl ?_
    refine J_iconst (pc := 120) (v := (nI 1)) D8_passOne_120 (by decide) ?_
    refine J_iadd (pc := 121) D8_passOne_121 ?_
    refine J_putf (pc := 122) D8_passOne_122 fp8_75 rfl Fit.int rfl ?_
    refine J_vret (pc := 125) D8_passOne_125 rfl ?_
    exact ⟨rfl, q, k, rfl⟩
  | succ g ih =>
    intro n V q k hn hV
    refine J_iload_n (pc := 71) D8_passOne_71 rfl ?_
    refine J_aload_n (pc := 72) D8_passOne_72 rfl ?_
    refine J_getf (pc := 73) D8_passOne_73 fl8_19 rfl rfl ?_
    refine J_getf (pc := 76) D8_passOne_76 fl8_69 rfl rfl ?_
    refine J_icmp_ge (pc := 79) (tgt := 112) D8_passOne_79 (by decide) (fun h79 => absurd h79 (by rw [en]; exact nI_ge (by omega) (by omega))) (fun h79 => ?_)
    refine J_aload_n (pc := 82) D8_passOne_82 rfl ?_
    refine J_getf (pc := 83) D8_passOne_83 fl8_19 rfl rfl ?_
    refine J_getf (pc := 86) D8_passOne_86 fl8_72 rfl rfl ?_
    refine J_iload_n (pc := 89) D8_passOne_89 rfl ?_
    refine J_iald (pc := 90) D8_passOne_90 rfl rfl (by omega) rfl ?_
    refine J_aload_n (pc := 91) D8_passOne_91 rfl ?_
    refine J_getf (pc := 92) D8_passOne_92 fl8_23 rfl rfl ?_
    refine J_getf (pc := 95) D8_passOne_95 fl8_75 rfl rfl ?_
    refine J_icmp_ne (pc := 98) (tgt := 106) D8_passOne_98 (by decide) (fun h98 => ?_) (fun h98 => ?_)
    · refine J_iinc (pc := 106) D8_passOne_106 rfl (nI_inc _) rfl ?_
      refine J_goto (pc := 109) (tgt := 71) D8_passOne_109 (by decide) ?_
      refine J_w (w2 := yrsW y q k T (p4S T nb V n)) (by rw [p4S, if_neg h98]) ?_
      exact ih (n + 1) _ q k (by omega) (p4S_V hV)
    · have h98' := eq_true h98
      refine J_aload_n (pc := 101) D8_passOne_101 rfl ?_
      refine J_iload_n (pc := 102) D8_passOne_102 rfl ?_
      refine J_callVT (pc := 103) (ac := [.int _]) D8_passOne_103 m8_meet_v t866 (c8_meet (d := d + 2) hT hV (n := n) (by omega)) (by omega) rfl rfl rfl rfl rfl rfl rfl (fun r w' hq hl => ?_)
      obtain ⟨rfl, rfl⟩ := hq
      refine J_iinc (pc := 106) D8_passOne_106 rfl (nI_inc _) rfl ?_
      refine J_goto (pc := 109) (tgt := 71) D8_passOne_109 (by decide) ?_
      refine J_w (w2 := yrsW y q k T (p4S T nb V n)) (by rw [p4S, if_pos h98]) ?_
      exact ih (n + 1) _ q k (by omega) (p4S_V hV)
theorem L8_p24 {d np nb nn : Nat} {y : Int32 × Int32 × Int32} {T : TV} (hT : WT T np nb nn) : ∀ (g b : Nat) (V : CV) (q : Nat → Int32) (k : Nat → Int64), b + g = nb → WV V nb → J m8_passOne (d + 5) 0 0 31 24 [(0, .ref 0), (1, .int (nI b))] [] (yrsW y q k T V) 0 0 (yV y T (incY (p4L T nb nn 0 (p3L T y nb g b V)))) := by
  obtain ⟨-, eb, en, -, hnb, hnn, -⟩ := id hT
  intro g
  induction g with
  | zero =>
    intro b V q k hb hV
    refine J_iload_n (pc := 24) D8_passOne_24 rfl ?_
    refine J_aload_n (pc := 25) D8_passOne_25 rfl ?_
    refine J_getf (pc := 26) D8_passOne_26 fl8_19 rfl rfl ?_
    refine J_getf (pc := 29) D8_passOne_29 fl8_51 rfl rfl ?_
    refine J_icmp_ge (pc := 32) (tgt := 69) D8_passOne_32 (by decide) (fun h32 => ?_) (fun h32 => absurd (by rw [eb]; exact nI_le (by omega) (by omega)) h32)
    refine J_iconst (pc := 69) (v := (nI 0)) D8_passOne_69 (by decide) ?_
    refine J_istore_n (pc := 70) D8_passOne_70 rfl ?_
    exact L8_p71 hT nn 0 V q k (by omega) hV
  | succ g ih =>
    intro b V q k hb hV
    refine J_iload_n (pc := 24) D8_passOne_24 rfl ?_
    refine J_aload_n (pc := 25) D8_passOne_25 rfl ?_
    refine J_getf (pc := 26) D8_passOne_26 fl8_19 rfl rfl ?_
    refine J_getf (pc := 29) D8_passOne_29 fl8_51 rfl rfl ?_
    refine J_icmp_ge (pc := 32) (tgt := 69) D8_passOne_32 (by decide) (fun h32 => absurd h32 (by rw [eb]; exact nI_ge (by omega) (by omega))) (fun h32 => ?_)
    refine J_aload_n (pc := 35) D8_passOne_35 rfl ?_
    refine J_getf (pc := 36) D8_passOne_36 fl8_23 rfl rfl ?_
    refine J_iload_n (pc := 39) D8_passOne_39 rfl ?_
    refine J_callVR (pc := 40) (ι := [21, 22, 23, 24, 25, 26, 27, 28, 29, 30]) (ac := [.int _]) D8_passOne_40 m0_isLying_v t836 (c0_isLying (d := d + 4) (V := V) (by omega)) (by omega) rfl rfl ⟨rfl, rfl⟩ rfl rfl (fun _ => rfl) rfl rfl rfl ?_
    refine J_if_eq (pc := 43) (tgt := 63) D8_passOne_43 (by decide) (fun h43 => ?_) (fun h43 => ?_)
    · have h43' := eq_true h43
      replace h43 := i01_z h43
      refine J_iinc (pc := 63) D8_passOne_63 rfl (nI_inc _) rfl ?_
      refine J_goto (pc := 66) (tgt := 24) D8_passOne_66 (by decide) ?_
      refine J_w (w2 := yrsW y q k T (p3S T y nb V b)) (by rw [p3S, if_neg (fun z => h43 z.1)]) ?_
      exact ih (b + 1) _ _ _ (by omega) (p3S_V hV)
    · replace h43 := i01_nz h43
      refine J_aload_n (pc := 46) D8_passOne_46 rfl ?_
      refine J_getf (pc := 47) D8_passOne_47 fl8_23 rfl rfl ?_
      refine J_getf (pc := 50) D8_passOne_50 fl8_62 rfl rfl ?_
      refine J_iload_n (pc := 53) D8_passOne_53 rfl ?_
      refine J_iald (pc := 54) D8_passOne_54 rfl rfl (by omega) rfl ?_
      refine J_if_ne (pc := 55) (tgt := 63) D8_passOne_55 (by decide) (fun h55 => ?_) (fun h55 => ?_)
      · refine J_iinc (pc := 63) D8_passOne_63 rfl (nI_inc _) rfl ?_
        refine J_goto (pc := 66) (tgt := 24) D8_passOne_66 (by decide) ?_
        refine J_w (w2 := yrsW y q k T (p3S T y nb V b)) (by rw [p3S, if_neg (fun z => h55 z.2)]) ?_
        exact ih (b + 1) _ _ _ (by omega) (p3S_V hV)
      · have h55' := eq_true h55
        refine J_aload_n (pc := 58) D8_passOne_58 rfl ?_
        refine J_iload_n (pc := 59) D8_passOne_59 rfl ?_
        refine J_callVT (pc := 60) (ac := [.int _]) D8_passOne_60 m8_goOff_v t857 (c8_goOff (d := d) hT hV (b := b) (by omega)) (by omega) rfl rfl rfl rfl rfl rfl rfl (fun r w' hq hl => ?_)
        obtain ⟨rfl, q2, k2, rfl⟩ := hq
        refine J_iinc (pc := 63) D8_passOne_63 rfl (nI_inc _) rfl ?_
        refine J_goto (pc := 66) (tgt := 24) D8_passOne_66 (by decide) ?_
        refine J_w (w2 := yrsW y q2 k2 T (p3S T y nb V b)) (by rw [p3S, if_pos ⟨h43, h55⟩]) ?_
        exact ih (b + 1) _ _ _ (by omega) (p3S_V hV)
theorem L8_p11 {d np nb nn : Nat} {y : Int32 × Int32 × Int32} {T : TV} (hT : WT T np nb nn) (V : CV) (q : Nat → Int32) (k : Nat → Int64) (hV : WV V nb) : J m8_passOne (d + 5) 0 0 31 11 [(0, .ref 0)] [] (yrsW y q k T V) 0 0 (yV y T (p2F T y nb nn V)) := by
  refine J_aload_n (pc := 11) D8_passOne_11 rfl ?_
  refine J_getf (pc := 12) D8_passOne_12 fl8_35 rfl rfl ?_
  refine J_if_eq (pc := 15) (tgt := 22) D8_passOne_15 (by decide) (fun h15 => ?_) (fun h15 => ?_)
  · have h15' := eq_true h15
    refine J_iconst (pc := 22) (v := (nI 0)) D8_passOne_22 (by decide) ?_
    refine J_istore_n (pc := 23) D8_passOne_23 rfl ?_
    rw [p2F, if_pos h15]
    exact L8_p24 hT nb 0 _ _ _ (by omega) hV
  · refine J_aload_n (pc := 18) D8_passOne_18 rfl ?_
    refine J_callVT (pc := 19) (ac := []) D8_passOne_19 m8_age_v t852 (c8_age (d := d) hT hV) (by omega) rfl rfl rfl rfl rfl rfl rfl (fun r w' hq hl => ?_)
    obtain ⟨rfl, k2, rfl⟩ := hq
    refine J_iconst (pc := 22) (v := (nI 0)) D8_passOne_22 (by decide) ?_
    refine J_istore_n (pc := 23) D8_passOne_23 rfl ?_
    rw [p2F, if_neg h15]
    exact L8_p24 hT nb 0 _ _ _ (by omega) (agL_V _ _ _ hV)
theorem c8_passOne {d np nb nn : Nat} {y : Int32 × Int32 × Int32} {q : Nat → Int32} {k : Nat → Int64} {T : TV} {V : CV} (hT : WT T np nb nn) (hV : WV V nb) : Tr (d + 5) 0 0 m8_passOne [.ref 0] (yrsW y q k T V) (yV y T (passF T y nb nn V)) := by
  refine Tr.intro (by decide) rfl ?_
  refine J_aload_n (pc := 0) D8_passOne_0 rfl ?_
  refine J_callVT (pc := 1) (ac := []) D8_passOne_1 m8_isThundering_v t823 (c8_isThundering (d := d + 4)) (by omega) rfl rfl rfl rfl rfl rfl rfl (fun r w' hq hl => ?_)
  obtain ⟨rfl, rfl⟩ := hq
  refine J_if_eq (pc := 4) (tgt := 11) D8_passOne_4 (by decide) (fun h4 => ?_) (fun h4 => ?_)
  · have h4' := eq_true h4
    rw [passF, if_pos h4]
    exact L8_p11 hT _ _ _ (thF_V hV)
  · refine J_aload_n (pc := 7) D8_passOne_7 rfl ?_
    refine J_callVT (pc := 8) (ac := []) D8_passOne_8 m8_creep_v t832 (c8_creep (d := d) hT (thF_V hV)) (by omega) rfl rfl rfl rfl rfl rfl rfl (fun r w' hq hl => ?_)
    obtain ⟨rfl, k2, rfl⟩ := hq
    rw [passF, if_neg h4]
    exact L8_p11 hT _ _ _ (crL_V _ _ _ (thF_V hV))
def passN (T : TV) (y : Int32 × Int32 × Int32) (nb nn : Nat) : Nat → CV → CV
  | 0, V => V
  | g + 1, V => passN T y nb nn g (passF T y nb nn V)
theorem passN_V {T : TV} {y : Int32 × Int32 × Int32} {nb nn : Nat} : ∀ (g : Nat) (V : CV), WV V nb → WV (passN T y nb nn g V) nb
  | 0, _, h => h
  | g + 1, V, h => passN_V g _ (passF_V h)
theorem L8_pass {d np nb nn n : Nat} {y : Int32 × Int32 × Int32} {T : TV} (hT : WT T np nb nn) (hn : n < 1000) : ∀ (g i : Nat) (V : CV) (q : Nat → Int32) (k : Nat → Int64), i + g = n → WV V nb → J m8_pass (d + 6) 0 0 31 2 [(0, .ref 0), (1, .int (nI n)), (2, .int (nI i))] [] (yrsW y q k T V) 0 0 (yV y T (passN T y nb nn g V)) := by
  intro g
  induction g with
  | zero =>
    intro i V q k hi hV
    refine J_iload_n (pc := 2) D8_pass_2 rfl ?_
    refine J_iload_n (pc := 3) D8_pass_3 rfl ?_
    refine J_icmp_ge (pc := 4) (tgt := 17) D8_pass_4 (by decide) (fun h4 => ?_) (fun h4 => absurd (nI_le (by omega) (by omega)) h4)
    refine J_vret (pc := 17) D8_pass_17 rfl ?_
    exact ⟨rfl, q, k, rfl⟩
  | succ g ih =>
    intro i V q k hi hV
    refine J_iload_n (pc := 2) D8_pass_2 rfl ?_
    refine J_iload_n (pc := 3) D8_pass_3 rfl ?_
    refine J_icmp_ge (pc := 4) (tgt := 17) D8_pass_4 (by decide) (fun h4 => absurd h4 (nI_ge (by omega) (by omega))) (fun h4 => ?_)
    refine J_aload_n (pc := 7) D8_pass_7 rfl ?_
    refine J_callVT (pc := 8) (ac := []) D8_pass_8 m8_passOne_v t819 (c8_passOne (d := d) hT hV) (by omega) rfl rfl rfl rfl rfl rfl rfl (fun r w' hq hl => ?_)
    obtain ⟨rfl, q2, k2, rfl⟩ := hq
    refine J_iinc (pc := 11) D8_pass_11 rfl (nI_inc _) rfl ?_
    refine J_goto (pc := 14) (tgt := 2) D8_pass_14 (by decide) ?_
    exact ih (i + 1) _ q2 k2 (by omega) (passF_V hV)
theorem c8_pass {d np nb nn n : Nat} {y : Int32 × Int32 × Int32} {q : Nat → Int32} {k : Nat → Int64} {T : TV} {V : CV} (hT : WT T np nb nn) (hV : WV V nb) (hn : n < 1000) : Tr (d + 6) 0 0 m8_pass [.ref 0, .int (nI n)] (yrsW y q k T V) (yV y T (passN T y nb nn n V)) := by
  refine Tr.intro (by decide) rfl ?_
  refine J_iconst (pc := 0) (v := (nI 0)) D8_pass_0 (by decide) ?_
  refine J_istore_n (pc := 1) D8_pass_1 rfl ?_
  exact L8_pass hT hn n 0 V q k (by omega) hV
