/-! UNDOS.takeLatest, SEEN (own; walks by program wk.py) -/
theorem J_zastN {M : JM} {d mc ms n0 pc k n : Nat} {ls : List (Nat × Value)} {st : List Value} {w : List EC} {Q : Option Value → List EC → Prop} {i N b : Nat} {f : Nat → Int32} {j x : Int32} (hd : decode M.2.1 pc = .ok (.bastore, 1)) (hw : w[i]? = some (.inl (.boolean, N, .inl f))) (hj : j = nI b) (hb : b < N) (hN : Nat.blt N 2147483648 = true) (hx : vp_nar .boolean x = x) (kk : J M d mc ms n0 (pc + 1) ls st (w.set i (.inl (.boolean, N, .inl (upd f b x)))) k n Q) : J M d mc ms n0 pc ls (.int x :: .int j :: .ref i :: st) w k n Q := J_zast hd hw hj hb hN (by rw [hx]; exact kk)
abbrev zA (n : Nat) (f : Nat → Int32) : EC := .inl (.boolean, n, .inl f)
def mvF (a : Nat → Nat → Int32) (b q : Nat) : Nat → Nat → Int32 := upA (upA a 0 (upd (a 0) b (nI q))) 8 (upd (upd (a 8) (a 0 b).toNatClampNeg (a 8 (a 0 b).toNatClampNeg - nI 1)) q (upd (a 8) (a 0 b).toNatClampNeg (a 8 (a 0 b).toNatClampNeg - nI 1) q + nI 1))
def mvV (V : CV) (b q : Nat) : CV := (V.1, V.2.1, V.2.2.1, mvF V.2.2.2 b q)
theorem yl_move {d : Nat} {V : CV} {b β q : Nat} (hb : b < 10) (h2 : V.2.2.2 0 b = nI β) (h1 : β < 6) (hq : q < 6) : Tr d 0 0 m0_move [.ref 0, .int (nI b), .int (nI q)] (celW V) (fun r w' => r = none ∧ w' = celW (mvV V b q)) := by
  have := c0_move (d := d) (y := V.1) (l := V.2.1) (th := V.2.2.1) (a := V.2.2.2) (b := b) hb h2 h1 hq
  rw [show upA (upA V.2.2.2 0 (upd (V.2.2.2 0) b (nI q))) 8 (upd (upd (V.2.2.2 8) β (V.2.2.2 8 β - nI 1)) q (upd (V.2.2.2 8) β (V.2.2.2 8 β - nI 1) q + nI 1)) = mvF V.2.2.2 b q by unfold mvF; rw [h2, nI_clamp (by omega)]] at this
  exact this
def coV (V : CV) (b : Nat) (x : Int32) : CV := (V.1, V.2.1, V.2.2.1, upA V.2.2.2 2 (upd (V.2.2.2 2) b x))
def tkV (a : Nat → Nat → Int32) (c : Nat) (V : CV) : CV := if a 1 c = 0 then mvV V (a 2 c).toNatClampNeg (a 3 c).toNatClampNeg else if a 1 c = nI 1 then coV V (a 2 c).toNatClampNeg (a 3 c) else lieV V (a 2 c).toNatClampNeg
theorem nI_sub1 (c : Nat) : nI (c + 1) - nI 1 = nI c := nI_pred c
theorem c7_takeLatest {d c b β : Nat} {a : Nat → Nat → Int32} {V : CV} (hc : c < 20) (hb : b < 10) (eb : a 2 c = nI b) (hβ : β < 6) (e0 : V.2.2.2 0 b = nI β) (h0 : a 1 c = 0 → ∃ q, q < 6 ∧ a 3 c = nI q) : Tr (d + 1) 0 0 m7_takeLatest [.ref 0, .ref 4] (undC 0 (c + 1) a ++ celC 4 V) (fun r w' => r = none ∧ w' = undC 0 c a ++ celC 4 (tkV a c V)) := by
  refine Tr.intro (by decide) rfl ?_
  refine J_aload_n (pc := 0) D7_takeLatest_0 rfl ?_
  refine J_getf (pc := 1) D7_takeLatest_1 fl7_21 rfl rfl ?_
  refine J_if_gt (pc := 4) (tgt := 8) D7_takeLatest_4 (by decide) (fun h4 => ?_) (fun h4 => absurd (by rw [← nI_0]; exact nI_lt (by omega) (by omega)) h4)
  refine J_aload_n (pc := 8) D7_takeLatest_8 rfl ?_
  refine J_dup (pc := 9) D7_takeLatest_9 rfl ?_
  refine J_getf (pc := 10) D7_takeLatest_10 fl7_21 rfl rfl ?_
  refine J_iconst (pc := 13) (v := (nI 1)) D7_takeLatest_13 (by decide) ?_
  refine J_isub (pc := 14) D7_takeLatest_14 ?_
  refine J_st [.int (nI c), .ref 0] (by rw [nI_sub1]) ?_
  refine J_putf (pc := 15) D7_takeLatest_15 fp7_21 rfl Fit.int rfl ?_
  refine J_w (w2 := undC 0 c a ++ celC 4 V) rfl ?_
  refine J_aload_n (pc := 18) D7_takeLatest_18 rfl ?_
  refine J_getf (pc := 19) D7_takeLatest_19 fl7_9 rfl rfl ?_
  refine J_aload_n (pc := 22) D7_takeLatest_22 rfl ?_
  refine J_getf (pc := 23) D7_takeLatest_23 fl7_21 rfl rfl ?_
  refine J_iald (pc := 26) D7_takeLatest_26 rfl rfl (by omega) rfl ?_
  refine J_if_ne (pc := 27) (tgt := 55) D7_takeLatest_27 (by decide) (fun h27 => ?_) (fun h27 => ?_)
  · refine J_aload_n (pc := 55) D7_takeLatest_55 rfl ?_
    refine J_getf (pc := 56) D7_takeLatest_56 fl7_9 rfl rfl ?_
    refine J_aload_n (pc := 59) D7_takeLatest_59 rfl ?_
    refine J_getf (pc := 60) D7_takeLatest_60 fl7_21 rfl rfl ?_
    refine J_iald (pc := 63) D7_takeLatest_63 rfl rfl (by omega) rfl ?_
    refine J_iconst (pc := 64) (v := (nI 1)) D7_takeLatest_64 (by decide) ?_
    refine J_icmp_ne (pc := 65) (tgt := 94) D7_takeLatest_65 (by decide) (fun h65 => ?_) (fun h65 => ?_)
    · refine J_aload_n (pc := 94) D7_takeLatest_94 rfl ?_
      refine J_aload_n (pc := 95) D7_takeLatest_95 rfl ?_
      refine J_getf (pc := 96) D7_takeLatest_96 fl7_15 rfl rfl ?_
      refine J_aload_n (pc := 99) D7_takeLatest_99 rfl ?_
      refine J_getf (pc := 100) D7_takeLatest_100 fl7_21 rfl rfl ?_
      refine J_iald (pc := 103) D7_takeLatest_103 rfl rfl (by omega) rfl ?_
      refine J_st [.int (nI b), .ref 4] (by rw [eb]) ?_
      refine J_callV (pc := 104) (ι := [4, 5, 6, 7, 8, 9, 10, 11, 12, 13]) (ac := [.int _]) D7_takeLatest_104 m0_lie_v t1107 (yl_lie (d := d) (V := V) hb e0 hβ) (by omega) rfl rfl ⟨rfl, rfl⟩ rfl rfl rfl rfl rfl (fun r w' hq1 hl => ?_)
      obtain ⟨rfl, rfl⟩ := hq1
      refine J_vret (pc := 107) D7_takeLatest_107 rfl ?_
      refine ⟨rfl, ?_⟩
      simp only [tkV, h27, h65, ↓reduceIte]
      rw [eb, nI_clamp (by omega)]
      rfl
    · have h65' := eq_true h65
      refine J_aload_n (pc := 68) D7_takeLatest_68 rfl ?_
      refine J_getf (pc := 69) D7_takeLatest_69 fl7_40 rfl rfl ?_
      refine J_aload_n (pc := 72) D7_takeLatest_72 rfl ?_
      refine J_getf (pc := 73) D7_takeLatest_73 fl7_15 rfl rfl ?_
      refine J_aload_n (pc := 76) D7_takeLatest_76 rfl ?_
      refine J_getf (pc := 77) D7_takeLatest_77 fl7_21 rfl rfl ?_
      refine J_iald (pc := 80) D7_takeLatest_80 rfl rfl (by omega) rfl ?_
      refine J_st [.int (nI b), .ref 7] (by rw [eb]) ?_
      refine J_aload_n (pc := 81) D7_takeLatest_81 rfl ?_
      refine J_getf (pc := 82) D7_takeLatest_82 fl7_18 rfl rfl ?_
      refine J_aload_n (pc := 85) D7_takeLatest_85 rfl ?_
      refine J_getf (pc := 86) D7_takeLatest_86 fl7_21 rfl rfl ?_
      refine J_iald (pc := 89) D7_takeLatest_89 rfl rfl (by omega) rfl ?_
      refine J_iast (pc := 90) D7_takeLatest_90 rfl rfl (by omega) rfl ?_
      refine J_goto (pc := 91) (tgt := 107) D7_takeLatest_91 (by decide) ?_
      refine J_vret (pc := 107) D7_takeLatest_107 rfl ?_
      refine ⟨rfl, ?_⟩
      simp only [tkV, h27, h65', ↓reduceIte]
      rw [eb, nI_clamp (by omega)]
      rfl
  · have h27' := eq_true h27
    refine J_aload_n (pc := 30) D7_takeLatest_30 rfl ?_
    refine J_aload_n (pc := 31) D7_takeLatest_31 rfl ?_
    refine J_getf (pc := 32) D7_takeLatest_32 fl7_15 rfl rfl ?_
    refine J_aload_n (pc := 35) D7_takeLatest_35 rfl ?_
    refine J_getf (pc := 36) D7_takeLatest_36 fl7_21 rfl rfl ?_
    refine J_iald (pc := 39) D7_takeLatest_39 rfl rfl (by omega) rfl ?_
    refine J_st [.int (nI b), .ref 4] (by rw [eb]) ?_
    refine J_aload_n (pc := 40) D7_takeLatest_40 rfl ?_
    refine J_getf (pc := 41) D7_takeLatest_41 fl7_18 rfl rfl ?_
    refine J_aload_n (pc := 44) D7_takeLatest_44 rfl ?_
    refine J_getf (pc := 45) D7_takeLatest_45 fl7_21 rfl rfl ?_
    refine J_iald (pc := 48) D7_takeLatest_48 rfl rfl (by omega) rfl ?_
    obtain ⟨q, hq, eq⟩ := h0 h27
    refine J_st [.int (nI q), .int (nI b), .ref 4] (by rw [eq]) ?_
    refine J_callV (pc := 49) (ι := [4, 5, 6, 7, 8, 9, 10, 11, 12, 13]) (ac := [.int _, .int _]) D7_takeLatest_49 m0_move_v t1106 (yl_move (d := d) (V := V) hb e0 hβ hq) (by omega) rfl rfl ⟨rfl, rfl⟩ rfl rfl rfl rfl rfl (fun r w' hq1 hl => ?_)
    obtain ⟨rfl, rfl⟩ := hq1
    refine J_goto (pc := 52) (tgt := 107) D7_takeLatest_52 (by decide) ?_
    refine J_vret (pc := 107) D7_takeLatest_107 rfl ?_
    refine ⟨rfl, ?_⟩
    simp only [tkV, h27', ↓reduceIte]
    rw [eb, nI_clamp (by omega), eq, nI_clamp (by omega)]
    rfl
/-- Seen: count, knownBy; arrays 2 years, 3 bottle, 4 isOff, 5 strikes, 6 isStruck, 7 isKnown -/
def seeC (o : Nat) (c : Nat) (kb : Int32) (a : Nat → Nat → Int32) : List EC := [.inr (3, [.int (nI c), .int kb, .ref (o + 1), .ref (o + 2), .ref (o + 3), .ref (o + 4), .ref (o + 5), .ref (o + 6)]), iA 24 (a 2), iA 24 (a 3), zA 24 (a 4), iA 24 (a 5), zA 24 (a 6), zA 24 (a 7)]
theorem c3_clear {d c : Nat} {kb : Int32} {a : Nat → Nat → Int32} : Tr d 0 0 m3_clear [.ref 0] (seeC 0 c kb a) (fun r w' => r = none ∧ w' = seeC 0 0 (-1) a) := by
  refine Tr.intro (by decide) rfl ?_
  refine J_aload_n (pc := 0) D3_clear_0 rfl ?_
  refine J_iconst (pc := 1) (v := (nI 0)) D3_clear_1 (by decide) ?_
  refine J_putf (pc := 2) D3_clear_2 fp3_35 rfl Fit.int rfl ?_
  refine J_aload_n (pc := 5) D3_clear_5 rfl ?_
  refine J_iconst (pc := 6) (v := (-1)) D3_clear_6 (by decide) ?_
  refine J_putf (pc := 7) D3_clear_7 fp3_9 rfl Fit.int rfl ?_
  refine J_vret (pc := 10) D3_clear_10 rfl ?_
  exact ⟨rfl, rfl⟩
def adS (c : Nat) (a : Nat → Nat → Int32) (x b z u : Int32) : Nat → Nat → Int32 := upA (upA (upA (upA a 2 (upd (a 2) c x)) 3 (upd (a 3) c b)) 4 (upd (a 4) c z)) 5 (upd (a 5) c u)
theorem nI_as (c : Nat) : nI (c + 1) - nI 1 = nI c := nI_pred c
theorem c3_add {d c : Nat} {kb x b z : Int32} {a : Nat → Nat → Int32} (hc : c ≤ 24) (hz : vp_nar .boolean z = z) : Tr d 0 0 m3_add [.ref 0, .int x, .int b, .int z] (seeC 0 c kb a) (fun r w' => if c < 24 then r = some (.int (nI c)) ∧ w' = seeC 0 (c + 1) kb (adS c a x b z (-1)) else r = some (.int (-1)) ∧ w' = seeC 0 c kb a) := by
  refine Tr.intro (by decide) rfl ?_
  refine J_aload_n (pc := 0) D3_add_0 rfl ?_
  refine J_getf (pc := 1) D3_add_1 fl3_35 rfl rfl ?_
  refine J_bipush (pc := 4) (v := (nI 24)) D3_add_4 (by decide) ?_
  refine J_icmp_lt (pc := 6) (tgt := 11) D3_add_6 (by decide) (fun h6 => ?_) (fun h6 => ?_)
  · have h6' := Int32.not_le.mpr h6
    have hlt := (nI_ltI (by omega) (by omega)).mp h6
    refine J_aload_n (pc := 11) D3_add_11 rfl ?_
    refine J_getf (pc := 12) D3_add_12 fl3_15 rfl rfl ?_
    refine J_aload_n (pc := 15) D3_add_15 rfl ?_
    refine J_getf (pc := 16) D3_add_16 fl3_35 rfl rfl ?_
    refine J_iload_n (pc := 19) D3_add_19 rfl ?_
    refine J_iast (pc := 20) D3_add_20 rfl rfl (by omega) rfl ?_
    refine J_aload_n (pc := 21) D3_add_21 rfl ?_
    refine J_getf (pc := 22) D3_add_22 fl3_19 rfl rfl ?_
    refine J_aload_n (pc := 25) D3_add_25 rfl ?_
    refine J_getf (pc := 26) D3_add_26 fl3_35 rfl rfl ?_
    refine J_iload_n (pc := 29) D3_add_29 rfl ?_
    refine J_iast (pc := 30) D3_add_30 rfl rfl (by omega) rfl ?_
    refine J_aload_n (pc := 31) D3_add_31 rfl ?_
    refine J_getf (pc := 32) D3_add_32 fl3_22 rfl rfl ?_
    refine J_aload_n (pc := 35) D3_add_35 rfl ?_
    refine J_getf (pc := 36) D3_add_36 fl3_35 rfl rfl ?_
    refine J_iload_n (pc := 39) D3_add_39 rfl ?_
    refine J_zastN (pc := 40) D3_add_40 rfl rfl (by omega) rfl hz ?_
    refine J_aload_n (pc := 41) D3_add_41 rfl ?_
    refine J_getf (pc := 42) D3_add_42 fl3_26 rfl rfl ?_
    refine J_aload_n (pc := 45) D3_add_45 rfl ?_
    refine J_getf (pc := 46) D3_add_46 fl3_35 rfl rfl ?_
    refine J_iconst (pc := 49) (v := (-1)) D3_add_49 (by decide) ?_
    refine J_iast (pc := 50) D3_add_50 rfl rfl (by omega) rfl ?_
    refine J_w (w2 := seeC 0 c kb (adS c a x b z (-1))) rfl ?_
    refine J_aload_n (pc := 51) D3_add_51 rfl ?_
    refine J_dup (pc := 52) D3_add_52 rfl ?_
    refine J_getf (pc := 53) D3_add_53 fl3_35 rfl rfl ?_
    refine J_iconst (pc := 56) (v := (nI 1)) D3_add_56 (by decide) ?_
    refine J_iadd (pc := 57) D3_add_57 ?_
    refine J_st [.int (nI (c + 1)), .ref 0] (by rw [show nI c + nI 1 = nI (c + 1) from nI_1 c]) ?_
    refine J_putf (pc := 58) D3_add_58 fp3_35 rfl Fit.int rfl ?_
    refine J_w (w2 := seeC 0 (c + 1) kb (adS c a x b z (-1))) rfl ?_
    refine J_aload_n (pc := 61) D3_add_61 rfl ?_
    refine J_getf (pc := 62) D3_add_62 fl3_35 rfl rfl ?_
    refine J_iconst (pc := 65) (v := (nI 1)) D3_add_65 (by decide) ?_
    refine J_isub (pc := 66) D3_add_66 ?_
    refine J_st [.int (nI c)] (by rw [nI_as]) ?_
    refine J_iret (pc := 67) D3_add_67 rfl ?_
    rw [if_pos hlt]
    exact ⟨rfl, rfl⟩
  · have h6' := Int32.not_lt.mp h6
    have hlt := (nI_leI (by omega) (by omega)).mp h6'
    refine J_iconst (pc := 9) (v := (-1)) D3_add_9 (by decide) ?_
    refine J_iret (pc := 10) D3_add_10 rfl ?_
    rw [if_neg (by omega)]
    exact ⟨rfl, rfl⟩
theorem c3_addStrike {d c : Nat} {kb x : Int32} {a : Nat → Nat → Int32} (hc : c ≤ 24) : Tr (d + 1) 0 0 m3_addStrike [.ref 0, .int x] (seeC 0 c kb a) (fun r w' => if c < 24 then r = some (.int (nI c)) ∧ w' = seeC 0 (c + 1) kb (adS c a (nI 0) (nI 0) (nI 0) x) else r = some (.int (-1)) ∧ w' = seeC 0 c kb a) := by
  refine Tr.intro (by decide) rfl ?_
  by_cases hlt : c < 24
  · simp only [hlt, ↓reduceIte]
    refine J_aload_n (pc := 0) D3_addStrike_0 rfl ?_
    refine J_iconst (pc := 1) (v := (nI 0)) D3_addStrike_1 (by decide) ?_
    refine J_iconst (pc := 2) (v := (nI 0)) D3_addStrike_2 (by decide) ?_
    refine J_iconst (pc := 3) (v := (nI 0)) D3_addStrike_3 (by decide) ?_
    refine J_callVT (pc := 4) (ac := [.int _, .int _, .int _]) D3_addStrike_4 m3_add_v t1058 (c3_add (d := d) (x := nI 0) (b := nI 0) (z := nI 0) hc (by decide)) (by omega) rfl rfl rfl rfl rfl rfl rfl (fun r w' hq hl => ?_)
    rw [if_pos hlt] at hq
    obtain ⟨rfl, rfl⟩ := hq
    refine J_istore_n (pc := 7) D3_addStrike_7 rfl ?_
    refine J_iload_n (pc := 8) D3_addStrike_8 rfl ?_
    refine J_iconst (pc := 9) (v := (-1)) D3_addStrike_9 (by decide) ?_
    refine J_icmp_eq (pc := 10) (tgt := 20) D3_addStrike_10 (by decide) (fun h10 => absurd h10 (fun e => absurd (show nI c < 0 by rw [e]; decide) (nI_pos (by omega)))) (fun h10 => ?_)
    refine J_aload_n (pc := 13) D3_addStrike_13 rfl ?_
    refine J_getf (pc := 14) D3_addStrike_14 fl3_26 rfl rfl ?_
    refine J_iload_n (pc := 17) D3_addStrike_17 rfl ?_
    refine J_iload_n (pc := 18) D3_addStrike_18 rfl ?_
    refine J_iast (pc := 19) D3_addStrike_19 rfl rfl (by omega) rfl ?_
    refine J_iload_n (pc := 20) D3_addStrike_20 rfl ?_
    refine J_iret (pc := 21) D3_addStrike_21 rfl ?_
    refine ⟨rfl, ?_⟩
    show _ = seeC 0 (c + 1) kb (adS c a (nI 0) (nI 0) (nI 0) x)
    have e : upd (upd (a 5) c (-1)) c x = upd (a 5) c x := by funext j; unfold upd; split <;> rfl
    unfold adS
    rw [← e]
    rfl
  · simp only [hlt, ↓reduceIte]
    refine J_aload_n (pc := 0) D3_addStrike_0 rfl ?_
    refine J_iconst (pc := 1) (v := (nI 0)) D3_addStrike_1 (by decide) ?_
    refine J_iconst (pc := 2) (v := (nI 0)) D3_addStrike_2 (by decide) ?_
    refine J_iconst (pc := 3) (v := (nI 0)) D3_addStrike_3 (by decide) ?_
    refine J_callVT (pc := 4) (ac := [.int _, .int _, .int _]) D3_addStrike_4 m3_add_v t1058 (c3_add (d := d) (x := nI 0) (b := nI 0) (z := nI 0) hc (by decide)) (by omega) rfl rfl rfl rfl rfl rfl rfl (fun r w' hq hl => ?_)
    rw [if_neg hlt] at hq
    obtain ⟨rfl, rfl⟩ := hq
    refine J_istore_n (pc := 7) D3_addStrike_7 rfl ?_
    refine J_iload_n (pc := 8) D3_addStrike_8 rfl ?_
    refine J_iconst (pc := 9) (v := (-1)) D3_addStrike_9 (by decide) ?_
    refine J_icmp_eq (pc := 10) (tgt := 20) D3_addStrike_10 (by decide) (fun h10 => ?_) (fun h10 => absurd rfl h10)
    refine J_iload_n (pc := 20) D3_addStrike_20 rfl ?_
    refine J_iret (pc := 21) D3_addStrike_21 rfl ?_
    exact ⟨rfl, rfl⟩
def knF (c : Nat) (kb : Int32) : Int32 := if kb = -1 then nI c else imin kb (nI c)
theorem c3_knownCount {d c : Nat} {kb : Int32} {a : Nat → Nat → Int32} : TR (d + 1) m3_knownCount [.ref 0] (seeC 0 c kb a) (.int (knF c kb)) := by
  refine Tr.intro (by decide) rfl ?_
  refine J_aload_n (pc := 0) D3_knownCount_0 rfl ?_
  refine J_getf (pc := 1) D3_knownCount_1 fl3_9 rfl rfl ?_
  refine J_iconst (pc := 4) (v := (-1)) D3_knownCount_4 (by decide) ?_
  refine J_icmp_ne (pc := 5) (tgt := 15) D3_knownCount_5 (by decide) (fun h5 => ?_) (fun h5 => ?_)
  · refine J_aload_n (pc := 15) D3_knownCount_15 rfl ?_
    refine J_getf (pc := 16) D3_knownCount_16 fl3_9 rfl rfl ?_
    refine J_aload_n (pc := 19) D3_knownCount_19 rfl ?_
    refine J_getf (pc := 20) D3_knownCount_20 fl3_35 rfl rfl ?_
    refine J_min (pc := 23) D3_knownCount_23 t1075 (by omega) rfl rfl rfl ?_
    refine J_iret (pc := 26) D3_knownCount_26 rfl ?_
    exact ⟨rfl, congrArg (fun q => some (Value.int q)) (by unfold knF; simp only [h5, ↓reduceIte])⟩
  · have h5' := eq_true h5
    refine J_aload_n (pc := 8) D3_knownCount_8 rfl ?_
    refine J_getf (pc := 9) D3_knownCount_9 fl3_35 rfl rfl ?_
    refine J_goto (pc := 12) (tgt := 26) D3_knownCount_12 (by decide) ?_
    refine J_iret (pc := 26) D3_knownCount_26 rfl ?_
    exact ⟨rfl, congrArg (fun q => some (Value.int q)) (by unfold knF; simp only [h5', ↓reduceIte])⟩
theorem inc_m1 (x : Int32) : x + Int32.ofInt (-1) = x - nI 1 := by rw [Int32.sub_eq_add_neg]; rfl
def mkS (a : Nat → Nat → Int32) (i : Nat) : Nat → Nat → Int32 := upA (upA a 7 (upd (a 7) i (i01 (a 6 i = 0 ∧ a 5 i = -1)))) 6 (if ¬ a 5 i = -1 ∧ a 6 i = 0 then upd (a 6) (a 5 i).toNatClampNeg (nI 1) else a 6)
def mkL : Nat → (Nat → Nat → Int32) → Nat → Nat → Int32
  | 0, a => a
  | g + 1, a => mkL g (mkS a g)
/-- what strikes points to places -/
def SW (a : Nat → Nat → Int32) (n : Nat) : Prop := ∀ i, i < n → a 5 i = -1 ∨ ∃ j, j < i ∧ a 5 i = nI j
theorem L3_mark29 {d c n : Nat} {kb : Int32} (hn : n ≤ 24) : ∀ (g : Nat) (a : Nat → Nat → Int32) (ls : List (Nat × Value)), g ≤ n → SW a n → J m3_markKnown (d + 2) 0 0 7 29 [(0, .ref 0), (1, .int (nI n)), (2, .int (nI g - nI 1))] [] (seeC 0 c kb a) 0 0 (fun r w' => r = none ∧ w' = seeC 0 c kb (mkL g a)) := by
  intro g
  induction g with
  | zero =>
    intro a ls hg hS
    refine J_iload_n (pc := 29) D3_markKnown_29 rfl ?_
    refine J_if_lt (pc := 30) (tgt := 104) D3_markKnown_30 (by decide) (fun h30 => ?_) (fun h30 => absurd (by decide) h30)
    refine J_vret (pc := 104) D3_markKnown_104 rfl ?_
    exact ⟨rfl, rfl⟩
  | succ g ih =>
    intro a ls hg hS
    rw [nI_sub1]
    have hg9 : g < 24 := by omega
    have hSg := hS g (by omega)
    refine J_iload_n (pc := 29) D3_markKnown_29 rfl ?_
    refine J_if_lt (pc := 30) (tgt := 104) D3_markKnown_30 (by decide) (fun h30 => absurd h30 (nI_pos (by omega))) (fun h30 => ?_)
    refine J_aload_n (pc := 33) D3_markKnown_33 rfl ?_
    refine J_getf (pc := 34) D3_markKnown_34 fl3_26 rfl rfl ?_
    refine J_iload_n (pc := 37) D3_markKnown_37 rfl ?_
    refine J_iald (pc := 38) D3_markKnown_38 rfl rfl (by omega) rfl ?_
    refine J_iconst (pc := 39) (v := (-1)) D3_markKnown_39 (by decide) ?_
    refine J_icmp_eq (pc := 40) (tgt := 47) D3_markKnown_40 (by decide) (fun h40 => ?_) (fun h40 => ?_)
    · have h40' := eq_true h40
      refine J_iconst (pc := 47) (v := (nI 0)) D3_markKnown_47 (by decide) ?_
      refine J_istore_n (pc := 48) D3_markKnown_48 rfl ?_
      refine J_aload_n (pc := 49) D3_markKnown_49 rfl ?_
      refine J_getf (pc := 50) D3_markKnown_50 fl3_32 rfl rfl ?_
      refine J_iload_n (pc := 53) D3_markKnown_53 rfl ?_
      refine J_aload_n (pc := 54) D3_markKnown_54 rfl ?_
      refine J_getf (pc := 55) D3_markKnown_55 fl3_29 rfl rfl ?_
      refine J_iload_n (pc := 58) D3_markKnown_58 rfl ?_
      refine J_zald (pc := 59) D3_markKnown_59 rfl rfl (by omega) rfl ?_
      refine J_if_ne (pc := 60) (tgt := 71) D3_markKnown_60 (by decide) (fun h60 => ?_) (fun h60 => ?_)
      · refine J_iconst (pc := 71) (v := (nI 0)) D3_markKnown_71 (by decide) ?_
        refine J_zastN (pc := 72) D3_markKnown_72 rfl rfl (by omega) rfl (by decide) ?_
        refine J_iload_n (pc := 73) D3_markKnown_73 rfl ?_
        refine J_if_eq (pc := 74) (tgt := 98) D3_markKnown_74 (by decide) (fun h74 => ?_) (fun h74 => absurd rfl h74)
        refine J_iinc (pc := 98) D3_markKnown_98 rfl (inc_m1 _) rfl ?_
        refine J_goto (pc := 101) (tgt := 29) D3_markKnown_101 (by decide) ?_
        refine J_lk [(0, .ref 0), (1, .int (nI n)), (2, .int (nI g - nI 1))] rfl ?_
        have e9 : mkS a g = upA (upA a 7 (upd (a 7) g (nI 0))) 6 (a 6) := by
          unfold mkS
          rw [i01_f (fun z => h60 z.1)]
          rw [if_neg (fun z => z.1 h40)]
          rfl
        refine J_w (w2 := seeC 0 c kb (mkS a g)) (by rw [e9]; rfl) ?_
        exact ih _ [] (by omega) (fun i hi => by rw [e9]; exact hS i hi)
      · have h60' := eq_true h60
        refine J_iload_n (pc := 63) D3_markKnown_63 rfl ?_
        refine J_if_ne (pc := 64) (tgt := 71) D3_markKnown_64 (by decide) (fun h64 => absurd rfl h64) (fun h64 => ?_)
        refine J_iconst (pc := 67) (v := (nI 1)) D3_markKnown_67 (by decide) ?_
        refine J_goto (pc := 68) (tgt := 72) D3_markKnown_68 (by decide) ?_
        refine J_zastN (pc := 72) D3_markKnown_72 rfl rfl (by omega) rfl (by decide) ?_
        refine J_iload_n (pc := 73) D3_markKnown_73 rfl ?_
        refine J_if_eq (pc := 74) (tgt := 98) D3_markKnown_74 (by decide) (fun h74 => ?_) (fun h74 => absurd rfl h74)
        refine J_iinc (pc := 98) D3_markKnown_98 rfl (inc_m1 _) rfl ?_
        refine J_goto (pc := 101) (tgt := 29) D3_markKnown_101 (by decide) ?_
        refine J_lk [(0, .ref 0), (1, .int (nI n)), (2, .int (nI g - nI 1))] rfl ?_
        have e9 : mkS a g = upA (upA a 7 (upd (a 7) g (nI 1))) 6 (a 6) := by
          unfold mkS
          rw [i01_t ⟨h60, h40⟩]
          rw [if_neg (fun z => z.1 h40)]
          rfl
        refine J_w (w2 := seeC 0 c kb (mkS a g)) (by rw [e9]; rfl) ?_
        exact ih _ [] (by omega) (fun i hi => by rw [e9]; exact hS i hi)
    · obtain ⟨j9, hj9, ej9⟩ := hSg.resolve_left h40
      refine J_iconst (pc := 43) (v := (nI 1)) D3_markKnown_43 (by decide) ?_
      refine J_goto (pc := 44) (tgt := 48) D3_markKnown_44 (by decide) ?_
      refine J_istore_n (pc := 48) D3_markKnown_48 rfl ?_
      refine J_aload_n (pc := 49) D3_markKnown_49 rfl ?_
      refine J_getf (pc := 50) D3_markKnown_50 fl3_32 rfl rfl ?_
      refine J_iload_n (pc := 53) D3_markKnown_53 rfl ?_
      refine J_aload_n (pc := 54) D3_markKnown_54 rfl ?_
      refine J_getf (pc := 55) D3_markKnown_55 fl3_29 rfl rfl ?_
      refine J_iload_n (pc := 58) D3_markKnown_58 rfl ?_
      refine J_zald (pc := 59) D3_markKnown_59 rfl rfl (by omega) rfl ?_
      refine J_if_ne (pc := 60) (tgt := 71) D3_markKnown_60 (by decide) (fun h60 => ?_) (fun h60 => ?_)
      · refine J_iconst (pc := 71) (v := (nI 0)) D3_markKnown_71 (by decide) ?_
        refine J_zastN (pc := 72) D3_markKnown_72 rfl rfl (by omega) rfl (by decide) ?_
        refine J_iload_n (pc := 73) D3_markKnown_73 rfl ?_
        refine J_if_eq (pc := 74) (tgt := 98) D3_markKnown_74 (by decide) (fun h74 => absurd h74 (by decide)) (fun h74 => ?_)
        refine J_aload_n (pc := 77) D3_markKnown_77 rfl ?_
        refine J_getf (pc := 78) D3_markKnown_78 fl3_29 rfl rfl ?_
        refine J_iload_n (pc := 81) D3_markKnown_81 rfl ?_
        refine J_zald (pc := 82) D3_markKnown_82 rfl rfl (by omega) rfl ?_
        refine J_if_ne (pc := 83) (tgt := 98) D3_markKnown_83 (by decide) (fun h83 => ?_) (fun h83 => absurd h83 h60)
        refine J_iinc (pc := 98) D3_markKnown_98 rfl (inc_m1 _) rfl ?_
        refine J_goto (pc := 101) (tgt := 29) D3_markKnown_101 (by decide) ?_
        refine J_lk [(0, .ref 0), (1, .int (nI n)), (2, .int (nI g - nI 1))] rfl ?_
        have e9 : mkS a g = upA (upA a 7 (upd (a 7) g (nI 0))) 6 (a 6) := by
          unfold mkS
          rw [i01_f (fun z => h60 z.1)]
          rw [if_neg (fun z => h60 z.2)]
          rfl
        refine J_w (w2 := seeC 0 c kb (mkS a g)) (by rw [e9]; rfl) ?_
        exact ih _ [] (by omega) (fun i hi => by rw [e9]; exact hS i hi)
      · have h60' := eq_true h60
        refine J_iload_n (pc := 63) D3_markKnown_63 rfl ?_
        refine J_if_ne (pc := 64) (tgt := 71) D3_markKnown_64 (by decide) (fun h64 => ?_) (fun h64 => absurd h64 (by decide))
        refine J_iconst (pc := 71) (v := (nI 0)) D3_markKnown_71 (by decide) ?_
        refine J_zastN (pc := 72) D3_markKnown_72 rfl rfl (by omega) rfl (by decide) ?_
        refine J_iload_n (pc := 73) D3_markKnown_73 rfl ?_
        refine J_if_eq (pc := 74) (tgt := 98) D3_markKnown_74 (by decide) (fun h74 => absurd h74 (by decide)) (fun h74 => ?_)
        refine J_aload_n (pc := 77) D3_markKnown_77 rfl ?_
        refine J_getf (pc := 78) D3_markKnown_78 fl3_29 rfl rfl ?_
        refine J_iload_n (pc := 81) D3_markKnown_81 rfl ?_
        refine J_zald (pc := 82) D3_markKnown_82 rfl rfl (by omega) rfl ?_
        refine J_if_ne (pc := 83) (tgt := 98) D3_markKnown_83 (by decide) (fun h83 => absurd h60 h83) (fun h83 => ?_)
        refine J_aload_n (pc := 86) D3_markKnown_86 rfl ?_
        refine J_getf (pc := 87) D3_markKnown_87 fl3_29 rfl rfl ?_
        refine J_aload_n (pc := 90) D3_markKnown_90 rfl ?_
        refine J_getf (pc := 91) D3_markKnown_91 fl3_26 rfl rfl ?_
        refine J_iload_n (pc := 94) D3_markKnown_94 rfl ?_
        refine J_iald (pc := 95) D3_markKnown_95 rfl rfl (by omega) rfl ?_
        refine J_iconst (pc := 96) (v := (nI 1)) D3_markKnown_96 (by decide) ?_
        refine J_zastN (pc := 97) D3_markKnown_97 rfl ej9 (by omega) rfl (by decide) ?_
        refine J_iinc (pc := 98) D3_markKnown_98 rfl (inc_m1 _) rfl ?_
        refine J_goto (pc := 101) (tgt := 29) D3_markKnown_101 (by decide) ?_
        refine J_lk [(0, .ref 0), (1, .int (nI n)), (2, .int (nI g - nI 1))] rfl ?_
        have e9 : mkS a g = upA (upA a 7 (upd (a 7) g (nI 0))) 6 (upd (a 6) j9 (nI 1)) := by
          unfold mkS
          rw [i01_f (fun z => h40 z.2)]
          rw [if_pos ⟨h40, h60⟩]
          rw [ej9, nI_clamp (by omega)]
          rfl
        refine J_w (w2 := seeC 0 c kb (mkS a g)) (by rw [e9]; rfl) ?_
        exact ih _ [] (by omega) (fun i hi => by rw [e9]; exact hS i hi)
theorem L3_mark7 {d c n : Nat} {kb : Int32} {a : Nat → Nat → Int32} (hn : n ≤ 24) (hS : SW a n) : ∀ (g i : Nat) (f : Nat → Int32), i + g = n → (∀ j, j < 24 → f j = if j < i then 0 else a 6 j) → J m3_markKnown (d + 2) 0 0 7 7 [(0, .ref 0), (1, .int (nI n)), (2, .int (nI i))] [] (seeC 0 c kb (upA a 6 f)) 0 0 (fun r w' => r = none ∧ w' = seeC 0 c kb (mkL n (upA a 6 (fun j => if j < n then 0 else a 6 j)))) := by
  intro g
  induction g with
  | zero =>
    intro i f hi hf
    have hin : i = n := by omega
    subst hin
    refine J_iload_n (pc := 7) D3_markKnown_7 rfl ?_
    refine J_iload_n (pc := 8) D3_markKnown_8 rfl ?_
    refine J_icmp_ge (pc := 9) (tgt := 25) D3_markKnown_9 (by decide) (fun h9 => ?_) (fun h9 => absurd (nI_le (by omega) (by omega)) h9)
    refine J_cell (i := 5) (g := fun j => if j < i then 0 else a 6 j) rfl hf ?_
    refine J_w (w2 := seeC 0 c kb (upA a 6 (fun j => if j < i then 0 else a 6 j))) rfl ?_
    refine J_iload_n (pc := 25) D3_markKnown_25 rfl ?_
    refine J_iconst (pc := 26) (v := (nI 1)) D3_markKnown_26 (by decide) ?_
    refine J_isub (pc := 27) D3_markKnown_27 ?_
    refine J_istore_n (pc := 28) D3_markKnown_28 rfl ?_
    exact L3_mark29 hn i _ [] (by omega) hS
  | succ g ih =>
    intro i f hi hf
    refine J_iload_n (pc := 7) D3_markKnown_7 rfl ?_
    refine J_iload_n (pc := 8) D3_markKnown_8 rfl ?_
    refine J_icmp_ge (pc := 9) (tgt := 25) D3_markKnown_9 (by decide) (fun h9 => absurd h9 (nI_ge (by omega) (by omega))) (fun h9 => ?_)
    refine J_aload_n (pc := 12) D3_markKnown_12 rfl ?_
    refine J_getf (pc := 13) D3_markKnown_13 fl3_29 rfl rfl ?_
    refine J_iload_n (pc := 16) D3_markKnown_16 rfl ?_
    refine J_iconst (pc := 17) (v := (nI 0)) D3_markKnown_17 (by decide) ?_
    refine J_zastN (pc := 18) D3_markKnown_18 rfl rfl (by omega) rfl (by decide) ?_
    refine J_iinc (pc := 19) D3_markKnown_19 rfl (nI_inc _) rfl ?_
    refine J_goto (pc := 22) (tgt := 7) D3_markKnown_22 (by decide) ?_
    refine J_w (w2 := seeC 0 c kb (upA a 6 (upd f i (nI 0)))) rfl ?_
    exact ih (i + 1) _ (by omega) (fun j hj => by
      by_cases e : j = i
      · subst e; rw [pk_us, if_pos (by omega)]; rfl
      · rw [pk_un e, hf j hj]
        by_cases h : j < i
        · rw [if_pos h, if_pos (by omega)]
        · rw [if_neg h, if_neg (by omega)])
def mkF (n : Nat) (a : Nat → Nat → Int32) : Nat → Nat → Int32 := mkL n (upA a 6 (fun j => if j < n then 0 else a 6 j))
theorem c3_markKnown {d c n : Nat} {kb : Int32} {a : Nat → Nat → Int32} (hn : n ≤ 24) (hS : SW a n) (hk : knF c kb = nI n) : Tr (d + 2) 0 0 m3_markKnown [.ref 0] (seeC 0 c kb a) (fun r w' => r = none ∧ w' = seeC 0 c kb (mkF n a)) := by
  refine Tr.intro (by decide) rfl ?_
  refine J_aload_n (pc := 0) D3_markKnown_0 rfl ?_
  refine J_callVTR (pc := 1) (ac := []) D3_markKnown_1 m3_knownCount_v t1071 (c3_knownCount (d := d)) (by omega) rfl rfl rfl rfl (fun _ => rfl) rfl rfl rfl ?_
  rw [hk]
  refine J_istore_n (pc := 4) D3_markKnown_4 rfl ?_
  refine J_iconst (pc := 5) (v := (nI 0)) D3_markKnown_5 (by decide) ?_
  refine J_istore_n (pc := 6) D3_markKnown_6 rfl ?_
  refine J_w (w2 := seeC 0 c kb (upA a 6 (a 6))) rfl ?_
  exact L3_mark7 hn hS n 0 (a 6) (by omega) (fun j hj => by rw [if_neg (by omega)])
def lyL (a : Nat → Nat → Int32) : Nat → Nat → Int32 → Int32
  | 0, _, m => m
  | g + 1, i, m => lyL a g (i + 1) (if a 7 i = 0 then m else imax m (a 2 i))
theorem L3_last {d c n : Nat} {kb : Int32} {a : Nat → Nat → Int32} (hn : n ≤ 24) : ∀ (g i : Nat) (m : Int32), i + g = n → J m3_lastKnownYear (d + 2) 0 0 7 9 [(0, .ref 0), (1, .int m), (2, .int (nI n)), (3, .int (nI i))] [] (seeC 0 c kb a) 0 0 (fun r w' => w' = seeC 0 c kb a ∧ r = some (.int (lyL a g i m))) := by
  intro g
  induction g with
  | zero =>
    intro i m hi
    refine J_iload_n (pc := 9) D3_lastKnownYear_9 rfl ?_
    refine J_iload_n (pc := 10) D3_lastKnownYear_10 rfl ?_
    refine J_icmp_ge (pc := 11) (tgt := 40) D3_lastKnownYear_11 (by decide) (fun h11 => ?_) (fun h11 => absurd (nI_le (by omega) (by omega)) h11)
    refine J_iload_n (pc := 40) D3_lastKnownYear_40 rfl ?_
    refine J_iret (pc := 41) D3_lastKnownYear_41 rfl ?_
    exact ⟨rfl, rfl⟩
  | succ g ih =>
    intro i m hi
    refine J_iload_n (pc := 9) D3_lastKnownYear_9 rfl ?_
    refine J_iload_n (pc := 10) D3_lastKnownYear_10 rfl ?_
    refine J_icmp_ge (pc := 11) (tgt := 40) D3_lastKnownYear_11 (by decide) (fun h11 => absurd h11 (nI_ge (by omega) (by omega))) (fun h11 => ?_)
    refine J_aload_n (pc := 14) D3_lastKnownYear_14 rfl ?_
    refine J_getf (pc := 15) D3_lastKnownYear_15 fl3_32 rfl rfl ?_
    refine J_iload_n (pc := 18) D3_lastKnownYear_18 rfl ?_
    refine J_zald (pc := 19) D3_lastKnownYear_19 rfl rfl (by omega) rfl ?_
    refine J_if_eq (pc := 20) (tgt := 34) D3_lastKnownYear_20 (by decide) (fun h20 => ?_) (fun h20 => ?_)
    · have h20' := eq_true h20
      refine J_iinc (pc := 34) D3_lastKnownYear_34 rfl (nI_inc _) rfl ?_
      refine J_goto (pc := 37) (tgt := 9) D3_lastKnownYear_37 (by decide) ?_
      have z := ih (i + 1) (if a 7 i = 0 then m else imax m (a 2 i)) (by omega)
      rw [if_pos h20] at z
      rw [lyL, if_pos h20]
      exact z
    · refine J_iload_n (pc := 23) D3_lastKnownYear_23 rfl ?_
      refine J_aload_n (pc := 24) D3_lastKnownYear_24 rfl ?_
      refine J_getf (pc := 25) D3_lastKnownYear_25 fl3_15 rfl rfl ?_
      refine J_iload_n (pc := 28) D3_lastKnownYear_28 rfl ?_
      refine J_iald (pc := 29) D3_lastKnownYear_29 rfl rfl (by omega) rfl ?_
      refine J_max (pc := 30) D3_lastKnownYear_30 t1080 (by omega) rfl rfl rfl ?_
      refine J_istore_n (pc := 33) D3_lastKnownYear_33 rfl ?_
      refine J_iinc (pc := 34) D3_lastKnownYear_34 rfl (nI_inc _) rfl ?_
      refine J_goto (pc := 37) (tgt := 9) D3_lastKnownYear_37 (by decide) ?_
      have z := ih (i + 1) (if a 7 i = 0 then m else imax m (a 2 i)) (by omega)
      rw [if_neg h20] at z
      rw [lyL, if_neg h20]
      exact z
theorem c3_lastKnownYear {d c n : Nat} {kb : Int32} {a : Nat → Nat → Int32} (hn : n ≤ 24) (hk : knF c kb = nI n) : TR (d + 2) m3_lastKnownYear [.ref 0] (seeC 0 c kb a) (.int (lyL a n 0 (nI 0))) := by
  refine Tr.intro (by decide) rfl ?_
  refine J_iconst (pc := 0) (v := (nI 0)) D3_lastKnownYear_0 (by decide) ?_
  refine J_istore_n (pc := 1) D3_lastKnownYear_1 rfl ?_
  refine J_aload_n (pc := 2) D3_lastKnownYear_2 rfl ?_
  refine J_callVTR (pc := 3) (ac := []) D3_lastKnownYear_3 m3_knownCount_v t1071 (c3_knownCount (d := d)) (by omega) rfl rfl rfl rfl (fun _ => rfl) rfl rfl rfl ?_
  rw [hk]
  refine J_istore_n (pc := 6) D3_lastKnownYear_6 rfl ?_
  refine J_iconst (pc := 7) (v := (nI 0)) D3_lastKnownYear_7 (by decide) ?_
  refine J_istore_n (pc := 8) D3_lastKnownYear_8 rfl ?_
  exact L3_last hn n 0 _ (by omega)
def agB (a : Nat → Nat → Int32) (y : Int32) (V : CV) (i : Nat) : Bool := decide (a 7 i = 0) || (decide (¬ a 2 i = y) || decide (a 4 i = i01 (V.2.2.2 3 (a 3 i).toNatClampNeg = nI 2)))
def agF (a : Nat → Nat → Int32) (y : Int32) (V : CV) : Nat → Nat → Int32
  | 0, _ => nI 1
  | g + 1, i => bif agB a y V i then agF a y V g (i + 1) else nI 0
theorem L3_agrees {d c n : Nat} {kb y : Int32} {a : Nat → Nat → Int32} {V : CV} (hn : n ≤ 24) (hB : ∀ i, i < n → a 7 i = 0 ∨ ∃ b, b < 10 ∧ a 3 i = nI b) : ∀ (g i : Nat), i + g = n → J m3_agrees (d + 2) 0 0 17 8 [(0, .ref 0), (1, .int y), (2, .ref 7), (3, .int (nI n)), (4, .int (nI i))] [] (seeC 0 c kb a ++ celC 7 V) 0 0 (fun r w' => w' = seeC 0 c kb a ++ celC 7 V ∧ r = some (.int (agF a y V g i))) := by
  intro g
  induction g with
  | zero =>
    intro i hi
    refine J_iload (pc := 8) D3_agrees_8 rfl ?_
    refine J_iload_n (pc := 10) D3_agrees_10 rfl ?_
    refine J_icmp_ge (pc := 11) (tgt := 74) D3_agrees_11 (by decide) (fun h11 => ?_) (fun h11 => absurd (nI_le (by omega) (by omega)) h11)
    refine J_iconst (pc := 74) (v := (nI 1)) D3_agrees_74 (by decide) ?_
    refine J_zret (pc := 75) D3_agrees_75 rfl (by decide) ?_
    exact ⟨rfl, rfl⟩
  | succ g ih =>
    intro i hi
    have hBi := hB i (by omega)
    refine J_iload (pc := 8) D3_agrees_8 rfl ?_
    refine J_iload_n (pc := 10) D3_agrees_10 rfl ?_
    refine J_icmp_ge (pc := 11) (tgt := 74) D3_agrees_11 (by decide) (fun h11 => absurd h11 (nI_ge (by omega) (by omega))) (fun h11 => ?_)
    refine J_aload_n (pc := 14) D3_agrees_14 rfl ?_
    refine J_getf (pc := 15) D3_agrees_15 fl3_32 rfl rfl ?_
    refine J_iload (pc := 18) D3_agrees_18 rfl ?_
    refine J_zald (pc := 20) D3_agrees_20 rfl rfl (by omega) rfl ?_
    refine J_if_eq (pc := 21) (tgt := 68) D3_agrees_21 (by decide) (fun h21 => ?_) (fun h21 => ?_)
    · have h21' := eq_true h21
      refine J_iinc (pc := 68) D3_agrees_68 rfl (nI_inc _) rfl ?_
      refine J_goto (pc := 71) (tgt := 8) D3_agrees_71 (by decide) ?_
      have e9 : agB a y V i = true := by unfold agB; rw [decide_eq_true h21]; rfl
      rw [agF, e9]
      exact ih (i + 1) (by omega)
    · obtain ⟨b9, hb9, eb9⟩ := hBi.resolve_left h21
      refine J_aload_n (pc := 24) D3_agrees_24 rfl ?_
      refine J_getf (pc := 25) D3_agrees_25 fl3_15 rfl rfl ?_
      refine J_iload (pc := 28) D3_agrees_28 rfl ?_
      refine J_iald (pc := 30) D3_agrees_30 rfl rfl (by omega) rfl ?_
      refine J_iload_n (pc := 31) D3_agrees_31 rfl ?_
      refine J_icmp_ne (pc := 32) (tgt := 68) D3_agrees_32 (by decide) (fun h32 => ?_) (fun h32 => ?_)
      · refine J_iinc (pc := 68) D3_agrees_68 rfl (nI_inc _) rfl ?_
        refine J_goto (pc := 71) (tgt := 8) D3_agrees_71 (by decide) ?_
        have e9 : agB a y V i = true := by unfold agB; rw [decide_eq_true h32, Bool.true_or, Bool.or_true]
        rw [agF, e9]
        exact ih (i + 1) (by omega)
      · have h32' := eq_true h32
        refine J_aload_n (pc := 35) D3_agrees_35 rfl ?_
        refine J_getf (pc := 36) D3_agrees_36 fl3_22 rfl rfl ?_
        refine J_iload (pc := 39) D3_agrees_39 rfl ?_
        refine J_zald (pc := 41) D3_agrees_41 rfl rfl (by omega) rfl ?_
        refine J_aload_n (pc := 42) D3_agrees_42 rfl ?_
        refine J_getf (pc := 43) D3_agrees_43 fl3_55 rfl rfl ?_
        refine J_aload_n (pc := 46) D3_agrees_46 rfl ?_
        refine J_getf (pc := 47) D3_agrees_47 fl3_19 rfl rfl ?_
        refine J_iload (pc := 50) D3_agrees_50 rfl ?_
        refine J_iald (pc := 52) D3_agrees_52 rfl rfl (by omega) rfl ?_
        refine J_iald (pc := 53) D3_agrees_53 rfl eb9 (by omega) rfl ?_
        refine J_iconst (pc := 54) (v := (nI 2)) D3_agrees_54 (by decide) ?_
        refine J_icmp_ne (pc := 55) (tgt := 62) D3_agrees_55 (by decide) (fun h55 => ?_) (fun h55 => ?_)
        · refine J_iconst (pc := 62) (v := (nI 0)) D3_agrees_62 (by decide) ?_
          refine J_icmp_eq (pc := 63) (tgt := 68) D3_agrees_63 (by decide) (fun h63 => ?_) (fun h63 => ?_)
          · have h63' := eq_true h63
            replace h63 : a 4 i = 0 := h63
            refine J_iinc (pc := 68) D3_agrees_68 rfl (nI_inc _) rfl ?_
            refine J_goto (pc := 71) (tgt := 8) D3_agrees_71 (by decide) ?_
            have e9 : agB a y V i = true := by unfold agB; rw [eb9, nI_clamp (by omega), i01_f h55, decide_eq_true h63, Bool.or_true, Bool.or_true]
            rw [agF, e9]
            exact ih (i + 1) (by omega)
          · replace h63 : ¬ a 4 i = 0 := h63
            refine J_iconst (pc := 66) (v := (nI 0)) D3_agrees_66 (by decide) ?_
            refine J_zret (pc := 67) D3_agrees_67 rfl (by decide) ?_
            refine ⟨rfl, ?_⟩
            have e9 : agB a y V i = false := by unfold agB; rw [eb9, nI_clamp (by omega), i01_f h55, decide_eq_false h21, decide_eq_false (fun z => z h32), decide_eq_false h63]; rfl
            rw [agF, e9]
            rfl
        · have h55' := eq_true h55
          refine J_iconst (pc := 58) (v := (nI 1)) D3_agrees_58 (by decide) ?_
          refine J_goto (pc := 59) (tgt := 63) D3_agrees_59 (by decide) ?_
          refine J_icmp_eq (pc := 63) (tgt := 68) D3_agrees_63 (by decide) (fun h63 => ?_) (fun h63 => ?_)
          · have h63' := eq_true h63
            replace h63 : a 4 i = 1 := h63
            refine J_iinc (pc := 68) D3_agrees_68 rfl (nI_inc _) rfl ?_
            refine J_goto (pc := 71) (tgt := 8) D3_agrees_71 (by decide) ?_
            have e9 : agB a y V i = true := by unfold agB; rw [eb9, nI_clamp (by omega), i01_t h55, decide_eq_true h63, Bool.or_true, Bool.or_true]
            rw [agF, e9]
            exact ih (i + 1) (by omega)
          · replace h63 : ¬ a 4 i = 1 := h63
            refine J_iconst (pc := 66) (v := (nI 0)) D3_agrees_66 (by decide) ?_
            refine J_zret (pc := 67) D3_agrees_67 rfl (by decide) ?_
            refine ⟨rfl, ?_⟩
            have e9 : agB a y V i = false := by unfold agB; rw [eb9, nI_clamp (by omega), i01_t h55, decide_eq_false h21, decide_eq_false (fun z => z h32), decide_eq_false h63]; rfl
            rw [agF, e9]
            rfl
theorem c3_agrees {d c n : Nat} {kb y : Int32} {a : Nat → Nat → Int32} {V : CV} (hn : n ≤ 24) (hB : ∀ i, i < n → a 7 i = 0 ∨ ∃ b, b < 10 ∧ a 3 i = nI b) (hk : knF c kb = nI n) : TR (d + 2) m3_agrees [.ref 0, .int y, .ref 7] (seeC 0 c kb a ++ celC 7 V) (.int (agF a y V n 0)) := by
  refine Tr.intro (by decide) rfl ?_
  refine J_aload_n (pc := 0) D3_agrees_0 rfl ?_
  refine J_callVR (pc := 1) (ι := [0, 1, 2, 3, 4, 5, 6]) (ac := []) D3_agrees_1 m3_knownCount_v t1071 (c3_knownCount (d := d) (c := c) (kb := kb) (a := a)) (by omega) rfl rfl ⟨rfl, rfl⟩ rfl rfl (fun _ => rfl) rfl rfl rfl ?_
  rw [hk]
  refine J_istore_n (pc := 4) D3_agrees_4 rfl ?_
  refine J_iconst (pc := 5) (v := (nI 0)) D3_agrees_5 (by decide) ?_
  refine J_istore (pc := 6) D3_agrees_6 rfl ?_
  exact L3_agrees hn hB n 0 (by omega)
