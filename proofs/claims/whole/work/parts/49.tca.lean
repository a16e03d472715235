/-! TEMPERCELLAR: serve, images, racking (own; walks by program wk.py) -/
abbrev EV : Type := Nat × Nat × Int32 × (Nat → Int32)
def tcY (tl hi : Int32) (T : TV) (V : CV) (S : SB) (U : UV) (N : NV) (E : EV) (R : Nat → Int32) (I : CV) (tail : List EC) : List EC := tcX tl hi T V S (undC 42 U.1 U.2 ++ (seeC 46 N.1 N.2.1 N.2.2 ++ (.inr (4, [.ref E.1, .ref E.2.1, .int E.2.2.1, .ref 54]) :: iA 8 E.2.2.2 :: iA 4 R :: (celC 56 I ++ tail))))
def svN (T : TV) (V : CV) (nb nn : Nat) : Int32 := nI (mostF T V nb nn 0 (bitsF (V.2.2.2 3) (nI 0) 10))
def svE (x : Int32) : Int32 := if x = -1 then -2 else x
def svF (T : TV) (V : CV) (nb nn : Nat) (bo : Nat → Int32) (x : Int32) : Int32 := if ixB nn x = true ∧ V.2.2.2 5 x.toNatClampNeg = -1 then svE (arF T V nb nn bo x.toNatClampNeg) else -1
theorem c9_served {d np nb nn : Nat} {tl hi : Int32} {T : TV} {V : CV} {S : SB} {U : UV} {N : NV} {E : EV} {R : Nat → Int32} {I : CV} (hT : WT T np nb nn) : Tr (d + 6) 0 0 m9_served [.ref 0] (tcY tl hi T V S U N E R I []) (fun r w' => r = some (.int (svN T V nb nn)) ∧ ∃ E', w' = tcY tl hi T V S U N E' R I []) := by
  refine Tr.intro (by decide) rfl ?_
  refine J_aload_n (pc := 0) D9_served_0 rfl ?_
  refine J_getf (pc := 1) D9_served_1 fl9_82 rfl rfl ?_
  refine J_aload_n (pc := 4) D9_served_4 rfl ?_
  refine J_getf (pc := 5) D9_served_5 fl9_18 rfl rfl ?_
  refine J_aload_n (pc := 8) D9_served_8 rfl ?_
  refine J_getf (pc := 9) D9_served_9 fl9_46 rfl rfl ?_
  refine J_callVP (pc := 12) (ι := [53, 54, 1, 2, 3, 4, 5, 6, 7, 8, 9, 10, 11, 12, 13, 14, 15, 16, 17, 18, 19, 20, 21, 22, 23, 24, 25, 26, 27, 28, E.1, E.2.1]) (ac := [.ref 2, .ref 20]) D9_served_12 m4_arrange_v t951 (c4_arrange (d := d) (t := .ref 30) (c := .ref 31) (mo := E.2.2.1) (bo := E.2.2.2) (T := T) (V := V) hT) (by omega) rfl rfl ⟨rfl, rfl⟩ rfl rfl rfl rfl rfl (fun r w' hq hl => ?_)
  obtain ⟨bo2, ebo2⟩ : ∃ z9, arF T V nb nn E.2.2.2 = z9 := ⟨_, rfl⟩
  obtain ⟨mo2, emo2⟩ : ∃ z9, nI (mostF T V nb nn 0 (bitsF (V.2.2.2 3) (nI 0) 10)) = z9 := ⟨_, rfl⟩
  rw [ebo2, emo2] at hq
  obtain ⟨rfl, rfl⟩ := hq
  refine ⟨tcY tl hi T V S U N (1, 19, mo2, bo2) R I [], ⟨rfl, ⟨rfl, rfl⟩, rfl⟩, ?_⟩
  refine J_aload_n (pc := 15) D9_served_15 rfl ?_
  refine J_getf (pc := 16) D9_served_16 fl9_82 rfl rfl ?_
  refine J_getf (pc := 19) D9_served_19 fl9_291 rfl rfl ?_
  refine J_iret (pc := 22) D9_served_22 rfl ?_
  exact ⟨by rw [svN, emo2]; try rfl, _, rfl⟩
theorem c9_serve {d np nb nn : Nat} {tl hi : Int32} {T : TV} {V : CV} {S : SB} {U : UV} {N : NV} {E : EV} {R : Nat → Int32} {I : CV} (hT : WT T np nb nn) {x : Int32} : Tr (d + 6) 0 0 m9_serve [.ref 0, .int x] (tcY tl hi T V S U N E R I []) (fun r w' => r = some (.int (svF T V nb nn E.2.2.2 x)) ∧ ∃ E', w' = tcY tl hi T V S U N E' R I []) := by
  have hnn := hT.2.2.2.2.2.1
  refine Tr.intro (by decide) rfl ?_
  refine J_aload_n (pc := 0) D9_serve_0 rfl ?_
  refine J_iload_n (pc := 1) D9_serve_1 rfl ?_
  refine J_callVAR (pc := 2) (ac := [.int _]) D9_serve_2 m9_isNeed_v t735 (c9_isNeed (d := d) (V := V) hT) (by omega) rfl rfl rfl rfl rfl (fun _ => rfl) rfl rfl rfl ?_
  refine J_if_eq (pc := 5) (tgt := 21) D9_serve_5 (by decide) (fun h5 => ?_) (fun h5 => ?_)
  · have h5' := eq_true h5
    replace h5 := i01_z h5
    refine J_iconst (pc := 21) (v := (-1)) D9_serve_21 (by decide) ?_
    refine J_iret (pc := 22) D9_serve_22 rfl ?_
    exact ⟨by rw [svF, if_neg (fun q => h5 q.1)], E, rfl⟩
  · replace h5 := i01_nz h5
    obtain ⟨x9, hx9, rfl⟩ := ixB_t h5 (by omega)
    refine J_aload_n (pc := 8) D9_serve_8 rfl ?_
    refine J_getf (pc := 9) D9_serve_9 fl9_46 rfl rfl ?_
    refine J_getf (pc := 12) D9_serve_12 fl9_202 rfl rfl ?_
    refine J_iload_n (pc := 15) D9_serve_15 rfl ?_
    refine J_iald (pc := 16) D9_serve_16 rfl rfl (by omega) rfl ?_
    refine J_iconst (pc := 17) (v := (-1)) D9_serve_17 (by decide) ?_
    refine J_icmp_eq (pc := 18) (tgt := 23) D9_serve_18 (by decide) (fun h18 => ?_) (fun h18 => ?_)
    · have h18' := eq_true h18
      refine J_aload_n (pc := 23) D9_serve_23 rfl ?_
      refine J_getf (pc := 24) D9_serve_24 fl9_82 rfl rfl ?_
      refine J_aload_n (pc := 27) D9_serve_27 rfl ?_
      refine J_getf (pc := 28) D9_serve_28 fl9_18 rfl rfl ?_
      refine J_aload_n (pc := 31) D9_serve_31 rfl ?_
      refine J_getf (pc := 32) D9_serve_32 fl9_46 rfl rfl ?_
      refine J_callVP (pc := 35) (ι := [53, 54, 1, 2, 3, 4, 5, 6, 7, 8, 9, 10, 11, 12, 13, 14, 15, 16, 17, 18, 19, 20, 21, 22, 23, 24, 25, 26, 27, 28, E.1, E.2.1]) (ac := [.ref 2, .ref 20]) D9_serve_35 m4_arrange_v t951 (c4_arrange (d := d) (t := .ref 30) (c := .ref 31) (mo := E.2.2.1) (bo := E.2.2.2) (T := T) (V := V) hT) (by omega) rfl rfl ⟨rfl, rfl⟩ rfl rfl rfl rfl rfl (fun r w' hq hl => ?_)
      obtain ⟨bo2, ebo2⟩ : ∃ z9, arF T V nb nn E.2.2.2 = z9 := ⟨_, rfl⟩
      obtain ⟨mo2, emo2⟩ : ∃ z9, nI (mostF T V nb nn 0 (bitsF (V.2.2.2 3) (nI 0) 10)) = z9 := ⟨_, rfl⟩
      rw [ebo2, emo2] at hq
      obtain ⟨rfl, rfl⟩ := hq
      refine ⟨tcY tl hi T V S U N (1, 19, mo2, bo2) R I [], ⟨rfl, ⟨rfl, rfl⟩, rfl⟩, ?_⟩
      refine J_aload_n (pc := 38) D9_serve_38 rfl ?_
      refine J_getf (pc := 39) D9_serve_39 fl9_82 rfl rfl ?_
      refine J_getf (pc := 42) D9_serve_42 fl9_288 rfl rfl ?_
      refine J_iload_n (pc := 45) D9_serve_45 rfl ?_
      refine J_iald (pc := 46) D9_serve_46 rfl rfl (by omega) rfl ?_
      refine J_istore_n (pc := 47) D9_serve_47 rfl ?_
      refine J_iload_n (pc := 48) D9_serve_48 rfl ?_
      refine J_iconst (pc := 49) (v := (-1)) D9_serve_49 (by decide) ?_
      refine J_icmp_ne (pc := 50) (tgt := 58) D9_serve_50 (by decide) (fun h50 => ?_) (fun h50 => ?_)
      · refine J_iload_n (pc := 58) D9_serve_58 rfl ?_
        refine J_iret (pc := 59) D9_serve_59 rfl ?_
        exact ⟨by rw [svF, if_pos ⟨h5, by rw [nI_clamp (by omega)]; exact h18⟩, nI_clamp (by omega), ebo2, svE, if_neg h50]; try rfl, _, rfl⟩
      · have h50' := eq_true h50
        refine J_bipush (pc := 53) (v := (-2)) D9_serve_53 (by decide) ?_
        refine J_goto (pc := 55) (tgt := 59) D9_serve_55 (by decide) ?_
        refine J_iret (pc := 59) D9_serve_59 rfl ?_
        exact ⟨by rw [svF, if_pos ⟨h5, by rw [nI_clamp (by omega)]; exact h18⟩, nI_clamp (by omega), ebo2, svE, if_pos h50]; try rfl, _, rfl⟩
    · refine J_iconst (pc := 21) (v := (-1)) D9_serve_21 (by decide) ?_
      refine J_iret (pc := 22) D9_serve_22 rfl ?_
      exact ⟨by rw [svF, if_neg (fun q => h18 (by have := q.2; rw [nI_clamp (by omega)] at this; exact this))], E, rfl⟩
theorem c9_keep {d np nb nn : Nat} {tl hi : Int32} {T : TV} {V : CV} {S : SB} {U : UV} {N : NV} {E : EV} {R : Nat → Int32} {I : CV} : Tr (d + 2) 0 0 m9_keep [.ref 0] (tcY tl hi T V S U N E R I []) (fun r w' => r = some (.int V.1) ∧ w' = tcY tl (nI 1) T V S U N E R V []) := by
  refine Tr.intro (by decide) rfl ?_
  refine J_aload_n (pc := 0) D9_keep_0 rfl ?_
  refine J_getf (pc := 1) D9_keep_1 fl9_50 rfl rfl ?_
  refine J_aload_n (pc := 4) D9_keep_4 rfl ?_
  refine J_getf (pc := 5) D9_keep_5 fl9_46 rfl rfl ?_
  refine J_callVP (pc := 8) (ι := [56, 57, 58, 59, 60, 61, 62, 63, 64, 65, 19, 20, 21, 22, 23, 24, 25, 26, 27, 28]) (ac := [.ref 10]) D9_keep_8 m0_copyFrom_v t887 (c0_copyFrom (d := d) (V := I) (U := V)) (by omega) rfl rfl ⟨rfl, rfl⟩ rfl rfl rfl rfl rfl (fun r w' hq hl => ?_)
  obtain ⟨rfl, rfl⟩ := hq
  refine ⟨tcY tl hi T V S U N E R V [], ⟨rfl, ⟨rfl, rfl⟩, rfl⟩, ?_⟩
  refine J_aload_n (pc := 11) D9_keep_11 rfl ?_
  refine J_iconst (pc := 12) (v := (nI 1)) D9_keep_12 (by decide) ?_
  refine J_putf (pc := 13) D9_keep_13 fp9_113 rfl (Fit.zb (by first | exact Or.inl rfl | exact Or.inr rfl)) rfl ?_
  refine J_aload_n (pc := 16) D9_keep_16 rfl ?_
  refine J_getf (pc := 17) D9_keep_17 fl9_46 rfl rfl ?_
  refine J_getf (pc := 20) D9_keep_20 fl9_243 rfl rfl ?_
  refine J_iret (pc := 23) D9_keep_23 rfl ?_
  exact ⟨rfl, rfl⟩
def bkV (hi : Int32) (V I : CV) : CV := if hi = 0 then V else I
def bkU (hi : Int32) (U : UV) : UV := if hi = 0 then U else (0, U.2)
def bkA (hi : Int32) (I : CV) : Int32 := if hi = 0 then -1 else I.1
theorem c9_back {d np nb nn : Nat} {tl hi : Int32} {T : TV} {V : CV} {S : SB} {U : UV} {N : NV} {E : EV} {R : Nat → Int32} {I : CV} : Tr (d + 2) 0 0 m9_back [.ref 0] (tcY tl hi T V S U N E R I []) (fun r w' => r = some (.int (bkA hi I)) ∧ w' = tcY tl hi T (bkV hi V I) S (bkU hi U) N E R I []) := by
  refine Tr.intro (by decide) rfl ?_
  refine J_aload_n (pc := 0) D9_back_0 rfl ?_
  refine J_getf (pc := 1) D9_back_1 fl9_113 rfl rfl ?_
  refine J_if_ne (pc := 4) (tgt := 9) D9_back_4 (by decide) (fun h4 => ?_) (fun h4 => ?_)
  · refine J_aload_n (pc := 9) D9_back_9 rfl ?_
    refine J_getf (pc := 10) D9_back_10 fl9_46 rfl rfl ?_
    refine J_aload_n (pc := 13) D9_back_13 rfl ?_
    refine J_getf (pc := 14) D9_back_14 fl9_50 rfl rfl ?_
    refine J_callVP (pc := 17) (ι := [19, 20, 21, 22, 23, 24, 25, 26, 27, 28, 56, 57, 58, 59, 60, 61, 62, 63, 64, 65]) (ac := [.ref 10]) D9_back_17 m0_copyFrom_v t887 (c0_copyFrom (d := d) (V := V) (U := I)) (by omega) rfl rfl ⟨rfl, rfl⟩ rfl rfl rfl rfl rfl (fun r w' hq hl => ?_)
    obtain ⟨rfl, rfl⟩ := hq
    refine ⟨tcY tl hi T I S U N E R I [], ⟨rfl, ⟨rfl, rfl⟩, rfl⟩, ?_⟩
    refine J_aload_n (pc := 20) D9_back_20 rfl ?_
    refine J_getf (pc := 21) D9_back_21 fl9_68 rfl rfl ?_
    refine J_callVP (pc := 24) (ι := [42, 43, 44, 45]) (ac := []) D9_back_24 m7_clear_v t690 (c7_clear (d := d) (c := U.1) (a := U.2)) (by omega) rfl rfl ⟨rfl, rfl⟩ rfl rfl rfl rfl rfl (fun r w' hq hl => ?_)
    obtain ⟨rfl, rfl⟩ := hq
    refine ⟨tcY tl hi T I S (0, U.2) N E R I [], ⟨rfl, ⟨rfl, rfl⟩, rfl⟩, ?_⟩
    refine J_aload_n (pc := 27) D9_back_27 rfl ?_
    refine J_getf (pc := 28) D9_back_28 fl9_46 rfl rfl ?_
    refine J_getf (pc := 31) D9_back_31 fl9_243 rfl rfl ?_
    refine J_iret (pc := 34) D9_back_34 rfl ?_
    exact ⟨by rw [bkA, if_neg h4], by rw [bkV, if_neg h4, bkU, if_neg h4]⟩
  · have h4' := eq_true h4
    refine J_iconst (pc := 7) (v := (-1)) D9_back_7 (by decide) ?_
    refine J_iret (pc := 8) D9_back_8 rfl ?_
    exact ⟨by rw [bkA, if_pos h4], by rw [bkV, if_pos h4, bkU, if_pos h4]⟩
def byW (w c k : Int32) : Int32 := (w >>> ((nI 2 * (c - nI 1 - k)) &&& 31)) &&& nI 3
theorem c9_binByWay {d : Nat} {w c k : Int32} : TR d m9_binByWay [.int w, .int c, .int k] [] (.int (byW w c k)) := by
  refine Tr.intro (by decide) rfl ?_
  refine J_iload_n (pc := 0) D9_binByWay_0 rfl ?_
  refine J_iconst (pc := 1) (v := (nI 2)) D9_binByWay_1 (by decide) ?_
  refine J_iload_n (pc := 2) D9_binByWay_2 rfl ?_
  refine J_iconst (pc := 3) (v := (nI 1)) D9_binByWay_3 (by decide) ?_
  refine J_isub (pc := 4) D9_binByWay_4 ?_
  refine J_iload_n (pc := 5) D9_binByWay_5 rfl ?_
  refine J_isub (pc := 6) D9_binByWay_6 ?_
  refine J_imul (pc := 7) D9_binByWay_7 ?_
  refine J_ishr (pc := 8) D9_binByWay_8 ?_
  refine J_iconst (pc := 9) (v := (nI 3)) D9_binByWay_9 (by decide) ?_
  refine J_iand (pc := 10) D9_binByWay_10 ?_
  refine J_iret (pc := 11) D9_binByWay_11 rfl ?_
  exact ⟨rfl, rfl⟩
theorem byW_lt (w c k : Int32) : ∃ q, q < 6 ∧ byW w c k = nI q := by
  obtain ⟨j, hj, e⟩ := pk_andE (w >>> ((nI 2 * (c - nI 1 - k)) &&& 31)) (m := nI 3) 2 (by decide)
  exact ⟨j, by omega, e⟩
def frL (V : CV) : Nat → Nat → Nat → (Nat → Int32) → Nat × (Nat → Int32)
  | 0, _, c, R => (c, R)
  | g + 1, b, c, R => if c < 4 then (if V.2.2.2 3 b = 0 then frL V g (b + 1) (c + 1) (upd R c (nI b)) else frL V g (b + 1) c R) else (c, R)
theorem frL_le {V : CV} : ∀ (g b c : Nat) (R : Nat → Int32), c ≤ 4 → (frL V g b c R).1 ≤ 4
  | 0, _, _, _, h => h
  | g + 1, b, c, R, h => by
    unfold frL
    split
    · split
      · exact frL_le g _ _ _ (by omega)
      · exact frL_le g _ _ _ h
    · exact h
def RW (R : Nat → Int32) (c nb : Nat) : Prop := ∀ w, w < c → ∃ b, b < nb ∧ R w = nI b
theorem frL_W {V : CV} {nb : Nat} : ∀ (g b c : Nat) (R : Nat → Int32), b + g = nb → RW R c nb → RW (frL V g b c R).2 (frL V g b c R).1 nb
  | 0, _, _, _, _, h => h
  | g + 1, b, c, R, hb, h => by
    unfold frL
    split
    · split
      · refine frL_W g (b + 1) (c + 1) _ (by omega) (fun w hw => ?_)
        by_cases e : w = c
        · subst e; exact ⟨b, by omega, pk_us⟩
        · obtain ⟨b', h1, h2⟩ := h w (by omega)
          exact ⟨b', h1, (pk_un e).trans h2⟩
      · exact frL_W g (b + 1) c R (by omega) h
    · exact h
theorem L9_findRacked {d np nb nn : Nat} {tl hi : Int32} {T : TV} {V : CV} {S : SB} {U : UV} {N : NV} {E : EV} {I : CV} (hT : WT T np nb nn) : ∀ (g b c : Nat) (R : Nat → Int32), b + g = nb → c ≤ 4 → J m9_findRacked (d + 1) 0 0 66 4 [(0, .ref 0), (1, .int (nI c)), (2, .int (nI b))] [] (tcY tl hi T V S U N E R I []) 0 0 (fun r w' => r = some (.int (nI (frL V g b c R).1)) ∧ w' = tcY tl hi T V S U N E (frL V g b c R).2 I []) := by
  have hnb := hT.2.2.2.2.1
  intro g
  induction g with
  | zero =>
    intro b c R hb hc
    refine J_iload_n (pc := 4) D9_findRacked_4 rfl ?_
    refine J_aload_n (pc := 5) D9_findRacked_5 rfl ?_
    refine J_getf (pc := 6) D9_findRacked_6 fl9_18 rfl rfl ?_
    refine J_getf (pc := 9) D9_findRacked_9 fl9_208 rfl rfl ?_
    refine J_st [.int (nI nb), .int (nI b)] (by rw [← hT.2.1]; try rfl) ?_
    refine J_icmp_ge (pc := 12) (tgt := 47) D9_findRacked_12 (by decide) (fun h12 => ?_) (fun h12 => absurd (nI_le (by omega) (by omega)) h12)
    refine J_iload_n (pc := 47) D9_findRacked_47 rfl ?_
    refine J_iret (pc := 48) D9_findRacked_48 rfl ?_
    exact ⟨rfl, rfl⟩
  | succ g ih =>
    intro b c R hb hc
    refine J_iload_n (pc := 4) D9_findRacked_4 rfl ?_
    refine J_aload_n (pc := 5) D9_findRacked_5 rfl ?_
    refine J_getf (pc := 6) D9_findRacked_6 fl9_18 rfl rfl ?_
    refine J_getf (pc := 9) D9_findRacked_9 fl9_208 rfl rfl ?_
    refine J_st [.int (nI nb), .int (nI b)] (by rw [← hT.2.1]; try rfl) ?_
    refine J_icmp_ge (pc := 12) (tgt := 47) D9_findRacked_12 (by decide) (fun h12 => absurd h12 (nI_ge (by omega) (by omega))) (fun h12 => ?_)
    refine J_iload_n (pc := 15) D9_findRacked_15 rfl ?_
    refine J_iconst (pc := 16) (v := (nI 4)) D9_findRacked_16 (by decide) ?_
    refine J_icmp_ge (pc := 17) (tgt := 47) D9_findRacked_17 (by decide) (fun h17 => ?_) (fun h17 => ?_)
    · have h17' := Int32.not_lt.mpr h17
      have hc4 := (nI_leI (by omega) (by omega)).mp h17
      refine J_iload_n (pc := 47) D9_findRacked_47 rfl ?_
      refine J_iret (pc := 48) D9_findRacked_48 rfl ?_
      exact ⟨by rw [frL, if_neg (by omega)], by rw [frL, if_neg (by omega)]⟩
    · have h17' := Int32.not_le.mp h17
      have hc4 := (nI_ltI (by omega) (by omega)).mp h17'
      refine J_aload_n (pc := 20) D9_findRacked_20 rfl ?_
      refine J_getf (pc := 21) D9_findRacked_21 fl9_46 rfl rfl ?_
      refine J_iload_n (pc := 24) D9_findRacked_24 rfl ?_
      refine J_callVR (pc := 25) (ι := [19, 20, 21, 22, 23, 24, 25, 26, 27, 28]) (ac := [.int _]) D9_findRacked_25 m0_isLying_v t717 (c0_isLying (d := d) (V := V) (b := b) (by omega)) (by omega) rfl rfl ⟨rfl, rfl⟩ rfl rfl (fun _ => rfl) rfl rfl rfl ?_
      refine J_if_eq (pc := 28) (tgt := 41) D9_findRacked_28 (by decide) (fun h28 => ?_) (fun h28 => ?_)
      · have h28' := eq_true h28
        replace h28 := i01_z h28
        refine J_iinc (pc := 41) D9_findRacked_41 rfl (nI_inc _) rfl ?_
        refine J_goto (pc := 44) (tgt := 4) D9_findRacked_44 (by decide) ?_
        rw [frL, if_pos hc4, if_neg h28]
        skip
        exact ih (b + 1) c R (by omega) (by omega)
      · replace h28 := i01_nz h28
        refine J_aload_n (pc := 31) D9_findRacked_31 rfl ?_
        refine J_getf (pc := 32) D9_findRacked_32 fl9_86 rfl rfl ?_
        refine J_iload_n (pc := 35) D9_findRacked_35 rfl ?_
        refine J_iload_n (pc := 36) D9_findRacked_36 rfl ?_
        refine J_iast (pc := 37) D9_findRacked_37 rfl rfl (by omega) rfl ?_
        refine J_iinc (pc := 38) D9_findRacked_38 rfl (nI_inc _) rfl ?_
        refine J_iinc (pc := 41) D9_findRacked_41 rfl (nI_inc _) rfl ?_
        refine J_goto (pc := 44) (tgt := 4) D9_findRacked_44 (by decide) ?_
        rw [frL, if_pos hc4, if_pos h28]
        refine J_w (w2 := tcY tl hi T V S U N E (upd R c (nI b)) I []) rfl ?_
        exact ih (b + 1) (c + 1) (upd R c (nI b)) (by omega) (by omega)
theorem c9_findRacked {d np nb nn : Nat} {tl hi : Int32} {T : TV} {V : CV} {S : SB} {U : UV} {N : NV} {E : EV} {R : Nat → Int32} {I : CV} (hT : WT T np nb nn) : Tr (d + 1) 0 0 m9_findRacked [.ref 0] (tcY tl hi T V S U N E R I []) (fun r w' => r = some (.int (nI (frL V nb 0 0 R).1)) ∧ w' = tcY tl hi T V S U N E (frL V nb 0 0 R).2 I []) := by
  refine Tr.intro (by decide) rfl ?_
  refine J_iconst (pc := 0) (v := (nI 0)) D9_findRacked_0 (by decide) ?_
  refine J_istore_n (pc := 1) D9_findRacked_1 rfl ?_
  refine J_iconst (pc := 2) (v := (nI 0)) D9_findRacked_2 (by decide) ?_
  refine J_istore_n (pc := 3) D9_findRacked_3 rfl ?_
  exact L9_findRacked hT nb 0 0 R (by omega) (by omega)
def mvL (R : Nat → Int32) (way : Int32) (c : Nat) : Nat → Nat → CV → CV
  | 0, _, X => X
  | g + 1, w, X => mvL R way c g (w + 1) (mvV X (R w).toNatClampNeg (byW way (nI c) (nI w)).toNatClampNeg)
def yrL (T : TV) (V : CV) (nb nn : Nat) (few : Int32) : Nat → Int32 → CV → Int32
  | 0, of, _ => of
  | g + 1, of, X => if of < few then yrL T V nb nn few g (offN (passF T y1 nb nn X) - offN V) (passF T y1 nb nn X) else of
theorem mvV_V {X : CV} {nb b q : Nat} (hq : q < 6) (h : WV X nb) : WV (mvV X b q) nb := fun j hj => by
  by_cases e : j = b
  · subst e; exact ⟨q, hq, pk_us⟩
  · obtain ⟨β, h1, h2⟩ := h j hj
    exact ⟨β, h1, (pk_un e).trans h2⟩
theorem mvL_V {R : Nat → Int32} {way : Int32} {c nb : Nat} : ∀ (g w : Nat) (X : CV), WV X nb → WV (mvL R way c g w X) nb
  | 0, _, _, h => h
  | g + 1, w, X, h => by
    obtain ⟨q, hq, e⟩ := byW_lt way (nI c) (nI w)
    exact mvL_V g (w + 1) _ (mvV_V (by rw [e, nI_clamp (by omega)]; exact hq) h)
def oiF (T : TV) (V : CV) (nb nn : Nat) (R : Nat → Int32) (c n : Nat) (way few : Int32) : Int32 := yrL T V nb nn few n (nI 0) (mvL R way c c 0 V)
theorem L9_oi47 {d np nb nn : Nat} {tl hi : Int32} {T : TV} {V : CV} {U : UV} {N : NV} {E : EV} {R : Nat → Int32} {I : CV} (hT : WT T np nb nn) {c n : Nat} {way few : Int32} (hn : n ≤ 60) : ∀ (g y : Nat) (of : Int32) (X : CV) (q : Nat → Int32) (k : Nat → Int64), WV X nb → y + g = n → J m9_offIfRacked (d + 6) 0 0 66 47 [(0, .ref 0), (1, .int way), (2, .int (nI c)), (3, .int (nI n)), (4, .int few), (5, .int of), (6, .int (nI y))] [] (tcY tl hi T V (X, y1, q, k, 1, 29) U N E R I []) 0 0 (fun r w' => r = some (.int (yrL T V nb nn few g of X)) ∧ ∃ S', w' = tcY tl hi T V S' U N E R I []) := by
  intro g
  induction g with
  | zero =>
    intro y of X q k hX hy
    refine J_iload (pc := 47) D9_offIfRacked_47 rfl ?_
    refine J_iload_n (pc := 49) D9_offIfRacked_49 rfl ?_
    refine J_icmp_ge (pc := 50) (tgt := 79) D9_offIfRacked_50 (by decide) (fun h50 => ?_) (fun h50 => absurd (nI_le (by omega) (by omega)) h50)
    refine J_iload (pc := 79) D9_offIfRacked_79 rfl ?_
    refine J_iret (pc := 81) D9_offIfRacked_81 rfl ?_
    exact ⟨rfl, _, rfl⟩
  | succ g ih =>
    intro y of X q k hX hy
    refine J_iload (pc := 47) D9_offIfRacked_47 rfl ?_
    refine J_iload_n (pc := 49) D9_offIfRacked_49 rfl ?_
    refine J_icmp_ge (pc := 50) (tgt := 79) D9_offIfRacked_50 (by decide) (fun h50 => absurd h50 (nI_ge (by omega) (by omega))) (fun h50 => ?_)
    refine J_iload (pc := 53) D9_offIfRacked_53 rfl ?_
    refine J_iload (pc := 55) D9_offIfRacked_55 rfl ?_
    refine J_icmp_ge (pc := 57) (tgt := 79) D9_offIfRacked_57 (by decide) (fun h57 => ?_) (fun h57 => ?_)
    · have h57' := Int32.not_lt.mpr h57
      refine J_iload (pc := 79) D9_offIfRacked_79 rfl ?_
      refine J_iret (pc := 81) D9_offIfRacked_81 rfl ?_
      exact ⟨by rw [yrL, if_neg (Int32.not_lt.mpr h57)], _, rfl⟩
    · have h57' := Int32.not_le.mp h57
      refine J_aload_n (pc := 60) D9_offIfRacked_60 rfl ?_
      refine J_getf (pc := 61) D9_offIfRacked_61 fl9_61 rfl rfl ?_
      refine J_callVP (pc := 64) (ι := [39, 40, 41, 1, 2, 3, 4, 5, 6, 7, 8, 9, 10, 11, 12, 13, 14, 15, 16, 17, 18, 29, 30, 31, 32, 33, 34, 35, 36, 37, 38]) (ac := []) D9_offIfRacked_64 m8_passOne_v t926 (c8_passOne (d := d) (y := y1) (q := q) (k := k) (T := T) (V := X) hT hX) (by omega) rfl rfl ⟨rfl, rfl⟩ rfl rfl rfl rfl rfl (fun r w' hq hl => ?_)
      obtain ⟨rfl, q1, k1, rfl⟩ := hq
      refine ⟨tcY tl hi T V (passF T y1 nb nn X, y1, q1, k1, 1, 29) U N E R I [], ⟨rfl, ⟨rfl, rfl⟩, rfl⟩, ?_⟩
      have hX2 : WV (passF T y1 nb nn X) nb := passF_V hX
      revert hX2
      obtain ⟨X2, eX2⟩ : ∃ z9, passF T y1 nb nn X = z9 := ⟨_, rfl⟩
      rw [eX2]
      intro hX2
      refine J_aload_n (pc := 67) D9_offIfRacked_67 rfl ?_
      refine J_callVAR (pc := 68) (ac := []) D9_offIfRacked_68 m9_moreOff_v t892 (c9_moreOff (d := d) (V := V) (S := (X2, y1, q1, k1, 1, 29))) (by omega) rfl rfl rfl rfl rfl (fun _ => rfl) rfl rfl rfl ?_
      refine J_istore (pc := 71) D9_offIfRacked_71 rfl ?_
      refine J_iinc (pc := 73) D9_offIfRacked_73 rfl (nI_inc _) rfl ?_
      refine J_goto (pc := 76) (tgt := 47) D9_offIfRacked_76 (by decide) ?_
      rw [yrL, if_pos h57', eX2]
      exact ih (y + 1) _ X2 q1 k1 hX2 (by omega)
theorem L9_oi8 {d np nb nn : Nat} {tl hi : Int32} {T : TV} {V : CV} {U : UV} {N : NV} {E : EV} {R : Nat → Int32} {I : CV} (hT : WT T np nb nn) {c n : Nat} {way few : Int32} (hn : n ≤ 60) (hc : c ≤ 4) (hR : RW R c nb) : ∀ (g w : Nat) (X : CV) (q : Nat → Int32) (k : Nat → Int64), WV X nb → w + g = c → J m9_offIfRacked (d + 6) 0 0 66 8 [(0, .ref 0), (1, .int way), (2, .int (nI c)), (3, .int (nI n)), (4, .int few), (5, .int (nI w))] [] (tcY tl hi T V (X, y1, q, k, 1, 29) U N E R I []) 0 0 (fun r w' => r = some (.int (yrL T V nb nn few n (nI 0) (mvL R way c g w X))) ∧ ∃ S', w' = tcY tl hi T V S' U N E R I []) := by
  have hnb := hT.2.2.2.2.1
  intro g
  induction g with
  | zero =>
    intro w X q k hX hw
    refine J_iload (pc := 8) D9_offIfRacked_8 rfl ?_
    refine J_iload_n (pc := 10) D9_offIfRacked_10 rfl ?_
    refine J_icmp_ge (pc := 11) (tgt := 41) D9_offIfRacked_11 (by decide) (fun h11 => ?_) (fun h11 => absurd (nI_le (by omega) (by omega)) h11)
    refine J_iconst (pc := 41) (v := (nI 0)) D9_offIfRacked_41 (by decide) ?_
    refine J_istore (pc := 42) D9_offIfRacked_42 rfl ?_
    refine J_iconst (pc := 44) (v := (nI 0)) D9_offIfRacked_44 (by decide) ?_
    refine J_istore (pc := 45) D9_offIfRacked_45 rfl ?_
    exact L9_oi47 hT hn n 0 (nI 0) X q k hX (by omega)
  | succ g ih =>
    intro w X q k hX hw
    obtain ⟨b9, hb9, eb9⟩ := hR w (by omega)
    obtain ⟨q9, hq9, eq9⟩ := byW_lt way (nI c) (nI w)
    obtain ⟨β, hβ, eβ⟩ := hX b9 hb9
    refine J_iload (pc := 8) D9_offIfRacked_8 rfl ?_
    refine J_iload_n (pc := 10) D9_offIfRacked_10 rfl ?_
    refine J_icmp_ge (pc := 11) (tgt := 41) D9_offIfRacked_11 (by decide) (fun h11 => absurd h11 (nI_ge (by omega) (by omega))) (fun h11 => ?_)
    refine J_aload_n (pc := 14) D9_offIfRacked_14 rfl ?_
    refine J_getf (pc := 15) D9_offIfRacked_15 fl9_53 rfl rfl ?_
    refine J_aload_n (pc := 18) D9_offIfRacked_18 rfl ?_
    refine J_getf (pc := 19) D9_offIfRacked_19 fl9_86 rfl rfl ?_
    refine J_iload (pc := 22) D9_offIfRacked_22 rfl ?_
    refine J_iald (pc := 24) D9_offIfRacked_24 rfl rfl (by omega) rfl ?_
    refine J_iload_n (pc := 25) D9_offIfRacked_25 rfl ?_
    refine J_iload_n (pc := 26) D9_offIfRacked_26 rfl ?_
    refine J_iload (pc := 27) D9_offIfRacked_27 rfl ?_
    refine J_callSR (pc := 29) (ι := []) (ac := [.int _, .int _, .int _]) D9_offIfRacked_29 m9_binByWay_s t944 (c9_binByWay (d := d)) (by omega) ⟨rfl, rfl⟩ rfl rfl (fun _ => rfl) rfl rfl rfl ?_
    refine J_st [.int (nI q9), .int (nI b9), .ref 29] (by rw [← eq9, ← eb9]; try rfl) ?_
    refine J_callVP (pc := 32) (ι := [29, 30, 31, 32, 33, 34, 35, 36, 37, 38]) (ac := [.int _, .int _]) D9_offIfRacked_32 m0_move_v t795 (yl_move (d := d) (V := X) (b := b9) (q := q9) (by omega) eβ hβ hq9) (by omega) rfl rfl ⟨rfl, rfl⟩ rfl rfl rfl rfl rfl (fun r w' hq hl => ?_)
    obtain ⟨rfl, rfl⟩ := hq
    refine ⟨tcY tl hi T V (mvV X b9 q9, y1, q, k, 1, 29) U N E R I [], ⟨rfl, ⟨rfl, rfl⟩, rfl⟩, ?_⟩
    refine J_iinc (pc := 35) D9_offIfRacked_35 rfl (nI_inc _) rfl ?_
    refine J_goto (pc := 38) (tgt := 8) D9_offIfRacked_38 (by decide) ?_
    rw [mvL, eb9, eq9, nI_clamp (by omega), nI_clamp (by omega)]
    exact ih (w + 1) _ q k (mvV_V hq9 hX) (by omega)
theorem c9_offIfRacked {d np nb nn : Nat} {tl hi : Int32} {T : TV} {V : CV} {U : UV} {N : NV} {E : EV} {R : Nat → Int32} {I : CV} {S : SB} (hT : WT T np nb nn) (hV : WV V nb) {c n : Nat} {way few : Int32} (hn : n ≤ 60) (hc : c ≤ 4) (hR : RW R c nb) : Tr (d + 6) 0 0 m9_offIfRacked [.ref 0, .int way, .int (nI c), .int (nI n), .int few] (tcY tl hi T V S U N E R I []) (fun r w' => r = some (.int (oiF T V nb nn R c n way few)) ∧ ∃ S', w' = tcY tl hi T V S' U N E R I []) := by
  refine Tr.intro (by decide) rfl ?_
  refine J_aload_n (pc := 0) D9_offIfRacked_0 rfl ?_
  refine J_iconst (pc := 1) (v := (nI 1)) D9_offIfRacked_1 (by decide) ?_
  refine J_callVA (pc := 2) (ac := [.int _]) D9_offIfRacked_2 m9_startTrial_v t883 (c9_startTrial (d := d) (V := V) (S := S)) (by omega) rfl rfl rfl rfl rfl rfl rfl rfl (fun r w' hq hl => ?_)
  obtain ⟨rfl, rfl⟩ := hq
  obtain ⟨q0, eq0⟩ : ∃ q, q = S.2.2.1 := ⟨_, rfl⟩
  obtain ⟨k0, ek0⟩ : ∃ q, q = S.2.2.2.1 := ⟨_, rfl⟩
  refine J_w (w2 := tcY tl hi T V (V, y1, q0, k0, 1, 29) U N E R I []) (by subst eq0 ek0; rfl) ?_
  refine J_iconst (pc := 5) (v := (nI 0)) D9_offIfRacked_5 (by decide) ?_
  refine J_istore (pc := 6) D9_offIfRacked_6 rfl ?_
  exact L9_oi8 hT hn hc hR c 0 V q0 k0 hV (by omega)
def rgL (T : TV) (V : CV) (nb nn : Nat) (R : Nat → Int32) (c n : Nat) : Nat → Nat → Int32 → Int32 → Int32 × Int32
  | 0, _, few, best => (few, best)
  | g + 1, w, few, best => if 0 < few then (if oiF T V nb nn R c n (nI w) few < few then rgL T V nb nn R c n g (w + 1) (oiF T V nb nn R c n (nI w) few) (nI w) else rgL T V nb nn R c n g (w + 1) few best) else (few, best)
def rgE (c : Nat) (x : Int32) (P : Int32 × Int32) : Int32 := if x = nI 4 then P.1 else byW P.2 (nI c) x
def rgR (T : TV) (V : CV) (nb nn c n : Nat) (R : Nat → Int32) (x : Int32) : Int32 := if x < nI 4 ∧ nI c ≤ x then -2 else rgE c x (rgL T V nb nn R c n (4 ^ c) 0 (nI 11) (nI 0))
def rgF (T : TV) (V : CV) (nb nn : Nat) (R : Nat → Int32) (n x : Int32) : Int32 := if (nI 1 ≤ n ∧ n ≤ nI 60) ∧ ixB 5 x = true then rgR T V nb nn (frL V nb 0 0 R).1 n.toNatClampNeg (frL V nb 0 0 R).2 x else -1
theorem ways_e : ∀ c, c ≤ 4 → nI 1 <<< ((nI 2 * nI c) &&& 31) = nI (4 ^ c) := by decide
theorem L9_rg101 {d np nb nn : Nat} {tl hi : Int32} {T : TV} {V : CV} {U : UV} {N : NV} {E : EV} {R : Nat → Int32} {I : CV} {S : SB} {c n : Nat} {x few best : Int32} : J m9_racking (d + 7) 0 0 66 101 [(0, .ref 0), (2, .int x), (3, .int (nI c)), (5, .int few), (6, .int best)] [] (tcY tl hi T V S U N E R I []) 0 0 (fun r w' => r = some (.int (rgE c x (few, best))) ∧ ∃ S' R', w' = tcY tl hi T V S' U N E R' I []) := by
  refine J_iload_n (pc := 101) D9_racking_101 rfl ?_
  refine J_iconst (pc := 102) (v := (nI 4)) D9_racking_102 (by decide) ?_
  refine J_icmp_ne (pc := 103) (tgt := 111) D9_racking_103 (by decide) (fun h103 => ?_) (fun h103 => ?_)
  · refine J_iload (pc := 111) D9_racking_111 rfl ?_
    refine J_iload_n (pc := 113) D9_racking_113 rfl ?_
    refine J_iload_n (pc := 114) D9_racking_114 rfl ?_
    refine J_callSR (pc := 115) (ι := []) (ac := [.int _, .int _, .int _]) D9_racking_115 m9_binByWay_s t944 (c9_binByWay (d := d)) (by omega) ⟨rfl, rfl⟩ rfl rfl (fun _ => rfl) rfl rfl rfl ?_
    refine J_iret (pc := 118) D9_racking_118 rfl ?_
    exact ⟨by rw [rgE, if_neg h103]; try rfl, _, _, rfl⟩
  · have h103' := eq_true h103
    refine J_iload (pc := 106) D9_racking_106 rfl ?_
    refine J_goto (pc := 108) (tgt := 118) D9_racking_108 (by decide) ?_
    refine J_iret (pc := 118) D9_racking_118 rfl ?_
    exact ⟨by rw [rgE, if_pos h103]; try rfl, _, _, rfl⟩
theorem L9_rg {d np nb nn : Nat} {tl hi : Int32} {T : TV} {V : CV} {U : UV} {N : NV} {E : EV} {R : Nat → Int32} {I : CV} (hT : WT T np nb nn) (hV : WV V nb) {c n : Nat} {x : Int32} (hn : n ≤ 60) (hc : c ≤ 4) (hR : RW R c nb) (h4 : 4 ^ c ≤ 256) : ∀ (g w : Nat) (few best : Int32) (S : SB), w + g = 4 ^ c → J m9_racking (d + 7) 0 0 66 56 [(0, .ref 0), (1, .int (nI n)), (2, .int x), (3, .int (nI c)), (4, .int (nI (4 ^ c))), (5, .int few), (6, .int best), (7, .int (nI w))] [] (tcY tl hi T V S U N E R I []) 0 0 (fun r w' => r = some (.int (rgE c x (rgL T V nb nn R c n g w few best))) ∧ ∃ S' R', w' = tcY tl hi T V S' U N E R' I []) := by
  intro g
  induction g with
  | zero =>
    intro w few best S hw
    refine J_iload (pc := 56) D9_racking_56 rfl ?_
    refine J_iload (pc := 58) D9_racking_58 rfl ?_
    refine J_icmp_ge (pc := 60) (tgt := 101) D9_racking_60 (by decide) (fun h60 => ?_) (fun h60 => absurd (nI_le (by omega) (by omega)) h60)
    refine J_lk [(0, .ref 0), (2, .int x), (3, .int (nI c)), (5, .int few), (6, .int best)] rfl ?_
    exact L9_rg101 (np := np) (nb := nb) (nn := nn) (n := n)
  | succ g ih =>
    intro w few best S hw
    refine J_iload (pc := 56) D9_racking_56 rfl ?_
    refine J_iload (pc := 58) D9_racking_58 rfl ?_
    refine J_icmp_ge (pc := 60) (tgt := 101) D9_racking_60 (by decide) (fun h60 => absurd h60 (nI_ge (by omega) (by omega))) (fun h60 => ?_)
    refine J_iload (pc := 63) D9_racking_63 rfl ?_
    refine J_if_le (pc := 65) (tgt := 101) D9_racking_65 (by decide) (fun h65 => ?_) (fun h65 => ?_)
    · have h65' := Int32.not_lt.mpr h65
      rw [rgL, if_neg (Int32.not_lt.mpr h65)]
      refine J_lk [(0, .ref 0), (2, .int x), (3, .int (nI c)), (5, .int few), (6, .int best)] rfl ?_
      exact L9_rg101 (np := np) (nb := nb) (nn := nn) (n := n)
    · have h65' := Int32.not_le.mp h65
      refine J_aload_n (pc := 68) D9_racking_68 rfl ?_
      refine J_iload (pc := 69) D9_racking_69 rfl ?_
      refine J_iload_n (pc := 71) D9_racking_71 rfl ?_
      refine J_iload_n (pc := 72) D9_racking_72 rfl ?_
      refine J_iload (pc := 73) D9_racking_73 rfl ?_
      refine J_callVT (pc := 75) (ac := [.int _, .int _, .int _, .int _]) D9_racking_75 m9_offIfRacked_v t940 (c9_offIfRacked (d := d) (S := S) hT hV hn hc hR) (by omega) rfl rfl rfl rfl rfl rfl rfl (fun r w' hq hl => ?_)
      obtain ⟨rfl, S2, rfl⟩ := hq
      obtain ⟨of, eof⟩ : ∃ z9, oiF T V nb nn R c n (nI w) few = z9 := ⟨_, rfl⟩
      refine J_st [.int of] (by subst eof; rfl) ?_
      refine J_istore (pc := 78) D9_racking_78 rfl ?_
      refine J_iload (pc := 80) D9_racking_80 rfl ?_
      refine J_iload (pc := 82) D9_racking_82 rfl ?_
      refine J_icmp_ge (pc := 84) (tgt := 95) D9_racking_84 (by decide) (fun h84 => ?_) (fun h84 => ?_)
      · have h84' := Int32.not_lt.mpr h84
        refine J_iinc (pc := 95) D9_racking_95 rfl (nI_inc _) rfl ?_
        refine J_goto (pc := 98) (tgt := 56) D9_racking_98 (by decide) ?_
        rw [rgL, if_pos h65', eof, if_neg (Int32.not_lt.mpr h84)]
        refine J_lk [(0, .ref 0), (1, .int (nI n)), (2, .int x), (3, .int (nI c)), (4, .int (nI (4 ^ c))), (5, .int few), (6, .int best), (7, .int (nI (w + 1)))] rfl ?_
        exact ih (w + 1) few best S2 (by omega)
      · have h84' := Int32.not_le.mp h84
        refine J_iload (pc := 87) D9_racking_87 rfl ?_
        refine J_istore (pc := 89) D9_racking_89 rfl ?_
        refine J_iload (pc := 91) D9_racking_91 rfl ?_
        refine J_istore (pc := 93) D9_racking_93 rfl ?_
        refine J_iinc (pc := 95) D9_racking_95 rfl (nI_inc _) rfl ?_
        refine J_goto (pc := 98) (tgt := 56) D9_racking_98 (by decide) ?_
        rw [rgL, if_pos h65', eof, if_pos h84']
        refine J_lk [(0, .ref 0), (1, .int (nI n)), (2, .int x), (3, .int (nI c)), (4, .int (nI (4 ^ c))), (5, .int of), (6, .int (nI w)), (7, .int (nI (w + 1)))] rfl ?_
        exact ih (w + 1) of (nI w) S2 (by omega)
theorem c9_racking {d np nb nn : Nat} {tl hi : Int32} {T : TV} {V : CV} {U : UV} {N : NV} {E : EV} {R : Nat → Int32} {I : CV} {S : SB} (hT : WT T np nb nn) (hV : WV V nb) {n x : Int32} : Tr (d + 7) 0 0 m9_racking [.ref 0, .int n, .int x] (tcY tl hi T V S U N E R I []) (fun r w' => r = some (.int (rgF T V nb nn R n x)) ∧ ∃ S' R', w' = tcY tl hi T V S' U N E R' I []) := by
  refine Tr.intro (by decide) rfl ?_
  refine J_iload_n (pc := 0) D9_racking_0 rfl ?_
  refine J_iconst (pc := 1) (v := (nI 1)) D9_racking_1 (by decide) ?_
  refine J_bipush (pc := 2) (v := (nI 60)) D9_racking_2 (by decide) ?_
  refine J_callSR (pc := 4) (ι := []) (ac := [.int _, .int _, .int _]) D9_racking_4 m9_isAmong_s t712 (c9_isAmong (d := d + 6)) (by omega) ⟨rfl, rfl⟩ rfl rfl (fun _ => rfl) rfl rfl rfl ?_
  refine J_if_eq (pc := 7) (tgt := 19) D9_racking_7 (by decide) (fun h7 => ?_) (fun h7 => ?_)
  · have h7' := eq_true h7
    replace h7 := i01_z h7
    refine J_iconst (pc := 19) (v := (-1)) D9_racking_19 (by decide) ?_
    refine J_iret (pc := 20) D9_racking_20 rfl ?_
    exact ⟨by rw [rgF, if_neg (fun q => h7 q.1)], S, R, rfl⟩
  · replace h7 := i01_nz h7
    refine J_iload_n (pc := 10) D9_racking_10 rfl ?_
    refine J_iconst (pc := 11) (v := (nI 0)) D9_racking_11 (by decide) ?_
    refine J_iconst (pc := 12) (v := (nI 4)) D9_racking_12 (by decide) ?_
    refine J_callSR (pc := 13) (ι := []) (ac := [.int _, .int _, .int _]) D9_racking_13 m9_isAmong_s t712 (c9_isAmong (d := d + 6)) (by omega) ⟨rfl, rfl⟩ rfl rfl (fun _ => rfl) rfl rfl rfl ?_
    refine J_st [.int (i01 (ixB 5 x = true))] (by rw [← ixB_m (n := 4) (by decide)]; try rfl) ?_
    refine J_if_ne (pc := 16) (tgt := 21) D9_racking_16 (by decide) (fun h16 => ?_) (fun h16 => ?_)
    · replace h16 := i01_nz h16
      refine J_aload_n (pc := 21) D9_racking_21 rfl ?_
      refine J_callVT (pc := 22) (ac := []) D9_racking_22 m9_findRacked_v t936 (c9_findRacked (d := d) (S := S) hT) (by omega) rfl rfl rfl rfl rfl rfl rfl (fun r w' hq hl => ?_)
      obtain ⟨rfl, rfl⟩ := hq
      have hc := frL_le (V := V) nb 0 0 R (by omega)
      have hR := frL_W (V := V) (nb := nb) nb 0 0 R (by omega) (fun w hw => absurd hw (Nat.not_lt_zero w))
      rw [rgF, if_pos ⟨h7, h16⟩]
      revert hc hR
      generalize frL V nb 0 0 R = P
      intro hc hR
      obtain ⟨c, R2⟩ := P
      obtain ⟨n9, hn9, rfl⟩ := nI_of2 (M := nI 60) (n := 60) rfl (Int32.not_lt.mpr (Int32.le_trans (show (0 : Int32) ≤ nI 1 by decide) h7.1)) h7.2
      rw [nI_clamp (by omega)]
      refine J_istore_n (pc := 25) D9_racking_25 rfl ?_
      refine J_iload_n (pc := 26) D9_racking_26 rfl ?_
      refine J_iconst (pc := 27) (v := (nI 4)) D9_racking_27 (by decide) ?_
      refine J_icmp_ge (pc := 28) (tgt := 39) D9_racking_28 (by decide) (fun h28 => ?_) (fun h28 => ?_)
      · have h28' := Int32.not_lt.mpr h28
        refine J_iconst (pc := 39) (v := (nI 1)) D9_racking_39 (by decide) ?_
        refine J_iconst (pc := 40) (v := (nI 2)) D9_racking_40 (by decide) ?_
        refine J_iload_n (pc := 41) D9_racking_41 rfl ?_
        refine J_imul (pc := 42) D9_racking_42 ?_
        refine J_ishl (pc := 43) D9_racking_43 ?_
        refine J_st [.int (nI (4 ^ c))] (by rw [← ways_e c hc]; try rfl) ?_
        refine J_istore (pc := 44) D9_racking_44 rfl ?_
        refine J_bipush (pc := 46) (v := (nI 11)) D9_racking_46 (by decide) ?_
        refine J_istore (pc := 48) D9_racking_48 rfl ?_
        refine J_iconst (pc := 50) (v := (nI 0)) D9_racking_50 (by decide) ?_
        refine J_istore (pc := 51) D9_racking_51 rfl ?_
        refine J_iconst (pc := 53) (v := (nI 0)) D9_racking_53 (by decide) ?_
        refine J_istore (pc := 54) D9_racking_54 rfl ?_
        rw [rgR, if_neg (fun q => absurd q.1 (Int32.not_lt.mpr h28))]
        have h4 : 4 ^ c ≤ 256 := Nat.pow_le_pow_right (n := 4) (by omega) hc
        exact L9_rg (n := n9) hT hV hn9 hc hR h4 (4 ^ c) 0 (nI 11) (nI 0) S (Nat.zero_add _)
      · have h28' := Int32.not_le.mp h28
        refine J_iload_n (pc := 31) D9_racking_31 rfl ?_
        refine J_iload_n (pc := 32) D9_racking_32 rfl ?_
        refine J_icmp_lt (pc := 33) (tgt := 39) D9_racking_33 (by decide) (fun h33 => ?_) (fun h33 => ?_)
        · have h33' := Int32.not_le.mpr h33
          refine J_iconst (pc := 39) (v := (nI 1)) D9_racking_39 (by decide) ?_
          refine J_iconst (pc := 40) (v := (nI 2)) D9_racking_40 (by decide) ?_
          refine J_iload_n (pc := 41) D9_racking_41 rfl ?_
          refine J_imul (pc := 42) D9_racking_42 ?_
          refine J_ishl (pc := 43) D9_racking_43 ?_
          refine J_st [.int (nI (4 ^ c))] (by rw [← ways_e c hc]; try rfl) ?_
          refine J_istore (pc := 44) D9_racking_44 rfl ?_
          refine J_bipush (pc := 46) (v := (nI 11)) D9_racking_46 (by decide) ?_
          refine J_istore (pc := 48) D9_racking_48 rfl ?_
          refine J_iconst (pc := 50) (v := (nI 0)) D9_racking_50 (by decide) ?_
          refine J_istore (pc := 51) D9_racking_51 rfl ?_
          refine J_iconst (pc := 53) (v := (nI 0)) D9_racking_53 (by decide) ?_
          refine J_istore (pc := 54) D9_racking_54 rfl ?_
          rw [rgR, if_neg (fun q => absurd q.2 (Int32.not_le.mpr h33))]
          have h4 : 4 ^ c ≤ 256 := Nat.pow_le_pow_right (n := 4) (by omega) hc
          exact L9_rg (n := n9) hT hV hn9 hc hR h4 (4 ^ c) 0 (nI 11) (nI 0) S (Nat.zero_add _)
        · have h33' := Int32.not_lt.mp h33
          refine J_bipush (pc := 36) (v := (-2)) D9_racking_36 (by decide) ?_
          refine J_iret (pc := 38) D9_racking_38 rfl ?_
          exact ⟨by rw [rgR, if_pos ⟨h28', h33'⟩], _, _, rfl⟩
    · have h16' := eq_true h16
      replace h16 := i01_z h16
      refine J_iconst (pc := 19) (v := (-1)) D9_racking_19 (by decide) ?_
      refine J_iret (pc := 20) D9_racking_20 rfl ?_
      exact ⟨by rw [rgF, if_neg (fun q => h16 q.2)], S, R, rfl⟩
