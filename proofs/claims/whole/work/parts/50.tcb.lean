/-! TEMPERCELLAR: the tape, texts (own; walks by program wk.py) -/
/-- the reader: its place, told, two flags, fault, place of the fault -/
abbrev GV : Type := Int32 × Nat × Int32 × Int32 × Int32 × Int32
def tcZ (tl hi : Int32) (T : TV) (V : CV) (S : SB) (U : UV) (N : NV) (E : EV) (R : Nat → Int32) (I : CV) (K : TK) (G : GV) (X : TV) : List EC := tcY tl hi T V S U N E R I (.inr (5, [.ref 67, .ref 68, .ref 69, .ref 70, .int (nI K.1), .int (nI K.2.1)]) :: bA 700 K.2.2.1 :: iA 701 K.2.2.2.1 :: iA 701 K.2.2.2.2.1 :: iA 701 K.2.2.2.2.2 :: .inr (2, [.ref 66, .int G.1, .ref G.2.1, .int G.2.2.1, .int G.2.2.2.1, .int G.2.2.2.2.1, .int G.2.2.2.2.2]) :: toldC 72 X)
def thS (tl hi : Int32) : EC := .inr (9, [.ref 67, .int tl, .ref 72, .ref 1, .ref 66, .ref 71, .ref 19, .ref 56, .int hi, .ref 29, .ref 39, .ref 42, .ref 46, .ref 53, .ref 55])
/-- told and spare changed places -/
def tcS (tl hi : Int32) (T : TV) (V : CV) (S : SB) (U : UV) (N : NV) (E : EV) (R : Nat → Int32) (I : CV) (K : TK) (G : GV) (X : TV) : List EC := thS tl hi :: (toldC 1 T ++ (celC 19 V ++ (celC 29 S.1 ++ (.inr (8, [.ref S.2.2.2.2.1, .ref S.2.2.2.2.2, .int S.2.1.1, .int S.2.1.2.1, .int S.2.1.2.2, .ref 40, .ref 41]) :: iA 10 S.2.2.1 :: lA 64 S.2.2.2.1 :: (undC 42 U.1 U.2 ++ (seeC 46 N.1 N.2.1 N.2.2 ++ (.inr (4, [.ref E.1, .ref E.2.1, .int E.2.2.1, .ref 54]) :: iA 8 E.2.2.2 :: iA 4 R :: (celC 56 I ++ (.inr (5, [.ref 67, .ref 68, .ref 69, .ref 70, .int (nI K.1), .int (nI K.2.1)]) :: bA 700 K.2.2.1 :: iA 701 K.2.2.2.1 :: iA 701 K.2.2.2.2.1 :: iA 701 K.2.2.2.2.2 :: .inr (2, [.ref 66, .int G.1, .ref G.2.1, .int G.2.2.1, .int G.2.2.2.1, .int G.2.2.2.2.1, .int G.2.2.2.2.2]) :: toldC 72 X)))))))))
/-! a second name of mskF: no comparing of the worlds themselves -/
def mskG (ι : List Nat) : Nat → List EC → List (Option EC)
  | _, [] => []
  | i, c :: cs => (bif inL i ι then none else some c) :: mskG ι (i + 1) cs
theorem mskG_eq (ι : List Nat) : ∀ (w : List EC) (i : Nat), mskG ι i w = mskF ι i w
  | [], _ => rfl
  | c :: cs, i => by rw [mskG, mskF, mskG_eq ι cs (i + 1)]
theorem Put.of2 (n : Nat) {w : List EC} {ι : List Nat} {w' w2 : List EC} (h1 : w2.length = n) (h2 : w.length = n) (h3 : Sub w2 ι w') (h4 : mskF (ι.take w'.length) 0 w2 = mskG (ι.take w'.length) 0 w) : Put w ι w' w2 := ⟨h1.trans h2.symm, h3, h4.trans (mskG_eq _ _ _)⟩
def byv (x s : Int32) : Int32 := vp_nar .byte (x >>> (s &&& 31)).toInt8.toInt32
def tpK (K : TK) (f : Nat → Int32) : TK := (K.1, K.2.1, f, K.2.2.2)
def pbF (f : Nat → Int32) (t : Nat) (x : Int32) : Nat → Int32 := upd (upd (upd (upd f t (byv x (nI 24))) (t + 1) (byv x (nI 16))) (t + 2) (byv x (nI 8))) (t + 3) (byv x (nI 0))
theorem L9_pb {d : Nat} {hi : Int32} {T : TV} {V : CV} {S : SB} {U : UV} {N : NV} {E : EV} {R : Nat → Int32} {I : CV} {K : TK} {G : GV} {X : TV} {t : Nat} {x sh v : Int32} {Q : Option Value → List EC → Prop} (hs : ¬ sh < 0) (hv : sh + Int32.ofInt (-8) = v) (ht : t < 700) (kk : J m9_putBytes d 0 0 90 3 [(0, .ref 0), (1, .int x), (2, .int v)] [] (tcZ (nI (t + 1)) hi T V S U N E R I (tpK K (upd K.2.2.1 t (byv x sh))) G X) 0 0 Q) : J m9_putBytes d 0 0 90 3 [(0, .ref 0), (1, .int x), (2, .int sh)] [] (tcZ (nI t) hi T V S U N E R I K G X) 0 0 Q := by
  refine J_iload_n (pc := 3) D9_putBytes_3 rfl ?_
  refine J_if_lt (pc := 4) (tgt := 46) D9_putBytes_4 (by decide) (fun h4 => absurd h4 hs) (fun h4 => ?_)
  refine J_aload_n (pc := 7) D9_putBytes_7 rfl ?_
  refine J_getf (pc := 8) D9_putBytes_8 fl9_94 rfl rfl ?_
  refine J_sipush (pc := 11) (v := (nI 700)) D9_putBytes_11 (by decide) ?_
  refine J_icmp_ge (pc := 14) (tgt := 46) D9_putBytes_14 (by decide) (fun h14 => absurd h14 (nI_ge (by omega) (by omega))) (fun h14 => ?_)
  refine J_aload_n (pc := 17) D9_putBytes_17 rfl ?_
  refine J_getf (pc := 18) D9_putBytes_18 fl9_11 rfl rfl ?_
  refine J_aload_n (pc := 21) D9_putBytes_21 rfl ?_
  refine J_getf (pc := 22) D9_putBytes_22 fl9_94 rfl rfl ?_
  refine J_iload_n (pc := 25) D9_putBytes_25 rfl ?_
  refine J_iload_n (pc := 26) D9_putBytes_26 rfl ?_
  refine J_ishr (pc := 27) D9_putBytes_27 ?_
  refine J_i2b (pc := 28) D9_putBytes_28 ?_
  refine J_bast (pc := 29) D9_putBytes_29 rfl rfl (by omega) rfl ?_
  refine J_aload_n (pc := 30) D9_putBytes_30 rfl ?_
  refine J_dup (pc := 31) D9_putBytes_31 rfl ?_
  refine J_getf (pc := 32) D9_putBytes_32 fl9_94 rfl rfl ?_
  refine J_iconst (pc := 35) (v := (nI 1)) D9_putBytes_35 (by decide) ?_
  refine J_iadd (pc := 36) D9_putBytes_36 ?_
  refine J_st [.int (nI (t + 1)), .ref 0] (by rw [← nI_add t 1]; try rfl) ?_
  refine J_putf (pc := 37) D9_putBytes_37 fp9_94 rfl Fit.int rfl ?_
  refine J_iinc (pc := 40) D9_putBytes_40 rfl hv rfl ?_
  refine J_goto (pc := 43) (tgt := 3) D9_putBytes_43 (by decide) ?_
  refine J_w (w2 := tcZ (nI (t + 1)) hi T V S U N E R I (tpK K (upd K.2.2.1 t (byv x sh))) G X) rfl ?_
  exact kk
theorem c9_putBytes {d : Nat} {hi : Int32} {T : TV} {V : CV} {S : SB} {U : UV} {N : NV} {E : EV} {R : Nat → Int32} {I : CV} {K : TK} {G : GV} {X : TV} {t : Nat} {x : Int32} (ht : t + 4 ≤ 700) : Tr d 0 0 m9_putBytes [.ref 0, .int x] (tcZ (nI t) hi T V S U N E R I K G X) (fun r w' => r = none ∧ w' = tcZ (nI (t + 4)) hi T V S U N E R I (tpK K (pbF K.2.2.1 t x)) G X) := by
  refine Tr.intro (by decide) rfl ?_
  refine J_bipush (pc := 0) (v := (nI 24)) D9_putBytes_0 (by decide) ?_
  refine J_istore_n (pc := 2) D9_putBytes_2 rfl ?_
  refine L9_pb (v := nI 16) (by decide) (by decide) (by omega) ?_
  refine L9_pb (v := nI 8) (by decide) (by decide) (by omega) ?_
  refine L9_pb (v := nI 0) (by decide) (by decide) (by omega) ?_
  refine L9_pb (v := -8) (by decide) (by decide) (by omega) ?_
  refine J_iload_n (pc := 3) D9_putBytes_3 rfl ?_
  refine J_if_lt (pc := 4) (tgt := 46) D9_putBytes_4 (by decide) (fun h4 => ?_) (fun h4 => absurd (by decide) h4)
  refine J_vret (pc := 46) D9_putBytes_46 rfl ?_
  exact ⟨rfl, rfl⟩
def fdF (f : Nat → Int32) (t : Nat) (a b c e g : Int32) : Nat → Int32 := pbF (pbF (pbF (pbF (pbF f t a) (t + 4) b) (t + 8) c) (t + 12) e) (t + 16) g
def fdK (K : TK) (t : Nat) (a b c e g : Int32) : TK := if t + 20 ≤ 700 then tpK K (fdF K.2.2.1 t a b c e g) else K
def fdT (t : Nat) : Nat := if t + 20 ≤ 700 then t + 20 else t
def fdA (t : Nat) : Int32 := if t + 20 ≤ 700 then nI (t + 20) else -1
theorem c9_feed {d : Nat} {hi : Int32} {T : TV} {V : CV} {S : SB} {U : UV} {N : NV} {E : EV} {R : Nat → Int32} {I : CV} {K : TK} {G : GV} {X : TV} {t : Nat} {a b c e g : Int32} (ht : t ≤ 700) : Tr (d + 1) 0 0 m9_feed [.ref 0, .int a, .int b, .int c, .int e, .int g] (tcZ (nI t) hi T V S U N E R I K G X) (fun r w' => r = some (.int (fdA t)) ∧ w' = tcZ (nI (fdT t)) hi T V S U N E R I (fdK K t a b c e g) G X) := by
  refine Tr.intro (by decide) rfl ?_
  refine J_aload_n (pc := 0) D9_feed_0 rfl ?_
  refine J_getf (pc := 1) D9_feed_1 fl9_94 rfl rfl ?_
  refine J_bipush (pc := 4) (v := (nI 20)) D9_feed_4 (by decide) ?_
  refine J_iadd (pc := 6) D9_feed_6 ?_
  refine J_st [.int (nI (t + 20))] (by rw [← nI_add t 20]; try rfl) ?_
  refine J_sipush (pc := 7) (v := (nI 700)) D9_feed_7 (by decide) ?_
  refine J_icmp_le (pc := 10) (tgt := 15) D9_feed_10 (by decide) (fun h10 => ?_) (fun h10 => ?_)
  · have h10' := Int32.not_lt.mpr h10
    replace h10 := (nI_leI (by omega) (by omega)).mp h10
    refine J_aload_n (pc := 15) D9_feed_15 rfl ?_
    refine J_iload_n (pc := 16) D9_feed_16 rfl ?_
    refine J_callVT (pc := 17) (ac := [.int _]) D9_feed_17 m9_putBytes_v t478 (c9_putBytes (d := d) (t := t) (K := K) (by omega)) (by omega) rfl rfl rfl rfl rfl rfl rfl (fun r w' hq hl => ?_)
    obtain ⟨rfl, rfl⟩ := hq
    refine J_aload_n (pc := 20) D9_feed_20 rfl ?_
    refine J_iload_n (pc := 21) D9_feed_21 rfl ?_
    refine J_callVT (pc := 22) (ac := [.int _]) D9_feed_22 m9_putBytes_v t478 (c9_putBytes (d := d) (t := t + 4) (K := tpK K (pbF K.2.2.1 t a)) (by omega)) (by omega) rfl rfl rfl rfl rfl rfl rfl (fun r w' hq hl => ?_)
    obtain ⟨rfl, rfl⟩ := hq
    refine J_aload_n (pc := 25) D9_feed_25 rfl ?_
    refine J_iload_n (pc := 26) D9_feed_26 rfl ?_
    refine J_callVT (pc := 27) (ac := [.int _]) D9_feed_27 m9_putBytes_v t478 (c9_putBytes (d := d) (t := t + 4 + 4) (K := tpK K (pbF (pbF K.2.2.1 t a) (t + 4) b)) (by omega)) (by omega) rfl rfl rfl rfl rfl rfl rfl (fun r w' hq hl => ?_)
    obtain ⟨rfl, rfl⟩ := hq
    refine J_aload_n (pc := 30) D9_feed_30 rfl ?_
    refine J_iload (pc := 31) D9_feed_31 rfl ?_
    refine J_callVT (pc := 33) (ac := [.int _]) D9_feed_33 m9_putBytes_v t478 (c9_putBytes (d := d) (t := t + 4 + 4 + 4) (K := tpK K (pbF (pbF (pbF K.2.2.1 t a) (t + 4) b) (t + 8) c)) (by omega)) (by omega) rfl rfl rfl rfl rfl rfl rfl (fun r w' hq hl => ?_)
    obtain ⟨rfl, rfl⟩ := hq
    refine J_aload_n (pc := 36) D9_feed_36 rfl ?_
    refine J_iload (pc := 37) D9_feed_37 rfl ?_
    refine J_callVT (pc := 39) (ac := [.int _]) D9_feed_39 m9_putBytes_v t478 (c9_putBytes (d := d) (t := t + 4 + 4 + 4 + 4) (K := tpK K (pbF (pbF (pbF (pbF K.2.2.1 t a) (t + 4) b) (t + 8) c) (t + 12) e)) (by omega)) (by omega) rfl rfl rfl rfl rfl rfl rfl (fun r w' hq hl => ?_)
    obtain ⟨rfl, rfl⟩ := hq
    refine J_aload_n (pc := 42) D9_feed_42 rfl ?_
    refine J_getf (pc := 43) D9_feed_43 fl9_94 rfl rfl ?_
    refine J_iret (pc := 46) D9_feed_46 rfl ?_
    exact ⟨by rw [fdA, if_pos h10]; try rfl, by rw [fdT, if_pos h10, fdK, if_pos h10]; try rfl⟩
  · have h10' := Int32.not_le.mp h10
    replace h10 := fun q => h10 ((nI_leI (by omega) (by omega)).mpr q)
    refine J_iconst (pc := 13) (v := (-1)) D9_feed_13 (by decide) ?_
    refine J_iret (pc := 14) D9_feed_14 rfl ?_
    exact ⟨by rw [fdA, if_neg h10], by rw [fdT, if_neg h10, fdK, if_neg h10]⟩
def ftF (G : GV) (x : Int32) : Int32 := if x = 0 then G.2.2.2.2.1 else if x = nI 1 then G.2.2.2.2.2 else -1
theorem c9_fault {d : Nat} {hi : Int32} {T : TV} {V : CV} {S : SB} {U : UV} {N : NV} {E : EV} {R : Nat → Int32} {I : CV} {K : TK} {G : GV} {X : TV} {tl x : Int32} : TR d m9_fault [.ref 0, .int x] (tcZ tl hi T V S U N E R I K G X) (.int (ftF G x)) := by
  refine Tr.intro (by decide) rfl ?_
  refine J_iload_n (pc := 0) D9_fault_0 rfl ?_
  refine J_if_ne (pc := 1) (tgt := 12) D9_fault_1 (by decide) (fun h1 => ?_) (fun h1 => ?_)
  · refine J_iload_n (pc := 12) D9_fault_12 rfl ?_
    refine J_iconst (pc := 13) (v := (nI 1)) D9_fault_13 (by decide) ?_
    refine J_icmp_ne (pc := 14) (tgt := 27) D9_fault_14 (by decide) (fun h14 => ?_) (fun h14 => ?_)
    · refine J_iconst (pc := 27) (v := (-1)) D9_fault_27 (by decide) ?_
      refine J_iret (pc := 28) D9_fault_28 rfl ?_
      exact ⟨rfl, by rw [ftF, if_neg h1, if_neg h14]; try rfl⟩
    · have h14' := eq_true h14
      refine J_aload_n (pc := 17) D9_fault_17 rfl ?_
      refine J_getf (pc := 18) D9_fault_18 fl9_39 rfl rfl ?_
      refine J_getf (pc := 21) D9_fault_21 fl9_120 rfl rfl ?_
      refine J_goto (pc := 24) (tgt := 28) D9_fault_24 (by decide) ?_
      refine J_iret (pc := 28) D9_fault_28 rfl ?_
      exact ⟨rfl, by rw [ftF, if_neg h1, if_pos h14]; try rfl⟩
  · have h1' := eq_true h1
    refine J_aload_n (pc := 4) D9_fault_4 rfl ?_
    refine J_getf (pc := 5) D9_fault_5 fl9_39 rfl rfl ?_
    refine J_getf (pc := 8) D9_fault_8 fl9_117 rfl rfl ?_
    refine J_iret (pc := 11) D9_fault_11 rfl ?_
    exact ⟨rfl, by rw [ftF, if_pos h1]; try rfl⟩
theorem raL_le {tp : Nat → Int32} {L : Nat} : ∀ (g p c : Nat) (A : A3), c ≤ p → p ≤ L → (raL tp L g p c A).2.1 ≤ L
  | 0, p, c, A, h, hp => by unfold raL; show c ≤ L; omega
  | g + 1, p, c, A, h, hp => by
    unfold raL
    split
    · split
      · exact raL_le g (p + 1) c A (by omega) (by omega)
      · have := tk1_le (tp := tp) (L := L) (p := p) (by omega)
        exact raL_le g _ (c + 1) _ (by omega) this.2
    · show c ≤ L; omega
theorem rdL_le {K : TK} : ∀ (g l : Nat) (R : RS), (rdL K g l R).1 ≤ l + g
  | 0, l, R => Nat.le_refl _
  | g + 1, l, R => by
    unfold rdL
    split
    · have := rdL_le (K := K) g (l + 1) (linR K R); omega
    · show l ≤ _; omega
def tkK (K : TK) (L : Nat) (X : Nat × Nat × A3) : TK := (L, X.1, K.2.2.1, upd X.2.2.1 X.2.1 (nI 34), upd X.2.2.2.1 X.2.1 (nI L), X.2.2.2.2)
/-- the tokens read of the first L bytes -/
def txK (K : TK) (L : Nat) : TK := tkK K L (raL K.2.2.1 L L 0 0 (K.2.2.2.1, K.2.2.2.2.1, K.2.2.2.2.2))
theorem txK_I {K : TK} {L : Nat} (hL : L ≤ 700) : KI (txK K L) (raL K.2.2.1 L L 0 0 (K.2.2.2.1, K.2.2.2.2.1, K.2.2.2.2.2)).2.1 := ⟨Nat.le_trans (raL_le L 0 0 _ (by omega) (by omega)) hL, pk_us⟩
def txX (K : TK) (X : TV) (L : Nat) : Nat × RS := rdL (txK K L) 700 0 (rd0 X)
def txG (Y : RS) : GV := (nI Y.1.1, 72, Y.2.1.1, Y.2.1.2, Y.1.2.1, Y.1.2.2)
def txQ (t L : Nat) (hi : Int32) (T : TV) (V : CV) (S : SB) (U : UV) (N : NV) (E : EV) (R : Nat → Int32) (I : CV) (K : TK) (G : GV) (X : TV) : Option Value → List EC → Prop := fun r w' =>
  if (txX K X L).2.1.2.1 = 0 then r = some (.int (nI (txX K X L).1)) ∧ w' = tcS (nI 0) (nI 0) T (layF (tvR (txX K X L).2) (txX K X L).2.2.2.1.2.1 V) S (0, U.2) (0, -1, N.2.2) E R I (txK K L) (txG (txX K X L).2) (tvR (txX K X L).2)
  else r = some (.int (-1)) ∧ w' = tcZ (nI 0) hi T V S U N E R I (txK K L) (txG (txX K X L).2) (tvR (txX K X L).2)
set_option maxHeartbeats 2000000 in
theorem c9_text {d : Nat} {hi : Int32} {T : TV} {V : CV} {S : SB} {U : UV} {N : NV} {E : EV} {R : Nat → Int32} {I : CV} {K : TK} {G : GV} {X : TV} {t L : Nat} (ht : t ≤ 700) (hL : L ≤ t) (hW : (txX K X L).2.1.2.1 = 0 → WT (tvR (txX K X L).2) (txX K X L).2.2.2.1.1 (txX K X L).2.2.2.1.2.1 (txX K X L).2.2.2.1.2.2) : Tr (d + 134) 0 0 m9_text [.ref 0, .int (nI L)] (tcZ (nI t) hi T V S U N E R I K G X) (txQ t L hi T V S U N E R I K G X) := by
  refine Tr.intro (by decide) rfl ?_
  refine J_iload_n (pc := 0) D9_text_0 rfl ?_
  refine J_if_lt (pc := 1) (tgt := 12) D9_text_1 (by decide) (fun h1 => absurd h1 (Int32.not_lt.mpr (nI_pos' (by omega)))) (fun h1 => ?_)
  refine J_iload_n (pc := 4) D9_text_4 rfl ?_
  refine J_aload_n (pc := 5) D9_text_5 rfl ?_
  refine J_getf (pc := 6) D9_text_6 fl9_94 rfl rfl ?_
  refine J_icmp_le (pc := 9) (tgt := 15) D9_text_9 (by decide) (fun h9 => ?_) (fun h9 => absurd (nI_le (by omega) (by omega)) h9)
  refine J_aload_n (pc := 15) D9_text_15 rfl ?_
  refine J_iconst (pc := 16) (v := (nI 0)) D9_text_16 (by decide) ?_
  refine J_putf (pc := 17) D9_text_17 fp9_94 rfl Fit.int rfl ?_
  refine J_aload_n (pc := 20) D9_text_20 rfl ?_
  refine J_getf (pc := 21) D9_text_21 fl9_30 rfl rfl ?_
  refine J_iload_n (pc := 24) D9_text_24 rfl ?_
  refine J_callVP (pc := 25) (ι := [66, 67, 68, 69, 70]) (ac := [.int _]) D9_text_25 m5_readAll_v t486 (c5_readAll (d := d) (L := L) (L0 := K.1) (p0 := K.2.1) (tp := K.2.2.1) (kd := K.2.2.2.1) (pl := K.2.2.2.2.1) (vl := K.2.2.2.2.2) (by omega)) (by omega) rfl rfl ⟨rfl, rfl⟩ rfl rfl rfl rfl rfl (fun r w' hq hl => ?_)
  obtain ⟨rfl, rfl⟩ := hq
  refine ⟨tcZ (nI 0) hi T V S U N E R I (txK K L) G X, Put.of2 90 rfl rfl ⟨rfl, rfl⟩ rfl, ?_⟩
  have hK1 := txK_I (K := K) (L := L) (by omega)
  revert hW hK1
  unfold txQ txX
  generalize txK K L = K2
  intro hW hK1
  refine J_aload_n (pc := 28) D9_text_28 rfl ?_
  refine J_getf (pc := 29) D9_text_29 fl9_39 rfl rfl ?_
  refine J_aload_n (pc := 32) D9_text_32 rfl ?_
  refine J_getf (pc := 33) D9_text_33 fl9_22 rfl rfl ?_
  refine J_callVP (pc := 36) (ι := [71, 66, 67, 68, 69, 70, 72, 73, 74, 75, 76, 77, 78, 79, 80, 81, 82, 83, 84, 85, 86, 87, 88, 89, G.2.1]) (ac := [.ref 6]) D9_text_36 m2_read_v t575 (c2_read (d := d) (K := K2) (t := .ref 24) (i := G.1) (it := G.2.2.1) (is := G.2.2.2.1) (fl := G.2.2.2.2.1) (fp := G.2.2.2.2.2) (T := X) hK1) (by omega) rfl rfl ⟨rfl, rfl⟩ rfl rfl rfl rfl rfl (fun r w' hq hl => ?_)
  have hle := rdL_le (K := K2) 700 0 (rd0 X)
  revert hW hq hle
  generalize rdL K2 700 0 (rd0 X) = Y
  intro hW hq hle
  obtain ⟨rfl, rfl⟩ := hq
  refine ⟨tcZ (nI 0) hi T V S U N E R I K2 (txG Y.2) (tvR Y.2), Put.of2 90 rfl rfl ⟨rfl, rfl⟩ rfl, ?_⟩
  obtain ⟨v9, ev9⟩ : ∃ z9, rdV Y = z9 := ⟨_, rfl⟩
  refine J_st [.int v9] (by subst ev9; rfl) ?_
  refine J_istore_n (pc := 39) D9_text_39 rfl ?_
  refine J_iload_n (pc := 40) D9_text_40 rfl ?_
  refine J_iconst (pc := 41) (v := (-1)) D9_text_41 (by decide) ?_
  refine J_icmp_ne (pc := 42) (tgt := 47) D9_text_42 (by decide) (fun h42 => ?_) (fun h42 => ?_)
  · replace h42 : Y.2.1.2.1 = 0 := by
      refine Decidable.byContradiction (fun q => h42 ?_)
      rw [← ev9, rdV, if_neg q]
    refine J_aload_n (pc := 47) D9_text_47 rfl ?_
    refine J_getf (pc := 48) D9_text_48 fl9_18 rfl rfl ?_
    refine J_astore_n (pc := 51) D9_text_51 rfl ?_
    refine J_aload_n (pc := 52) D9_text_52 rfl ?_
    refine J_aload_n (pc := 53) D9_text_53 rfl ?_
    refine J_getf (pc := 54) D9_text_54 fl9_22 rfl rfl ?_
    refine J_putf (pc := 57) D9_text_57 fp9_18 rfl Fit.obj rfl ?_
    refine J_aload_n (pc := 60) D9_text_60 rfl ?_
    refine J_aload_n (pc := 61) D9_text_61 rfl ?_
    refine J_putf (pc := 62) D9_text_62 fp9_22 rfl Fit.obj rfl ?_
    refine J_w (w2 := tcS (nI 0) hi T V S U N E R I K2 (txG Y.2) (tvR Y.2)) rfl ?_
    refine J_aload_n (pc := 65) D9_text_65 rfl ?_
    refine J_getf (pc := 66) D9_text_66 fl9_46 rfl rfl ?_
    refine J_aload_n (pc := 69) D9_text_69 rfl ?_
    refine J_getf (pc := 70) D9_text_70 fl9_18 rfl rfl ?_
    refine J_callVP (pc := 73) (ι := [19, 20, 21, 22, 23, 24, 25, 26, 27, 28, 72, 73, 74, 75, 76, 77, 78, 79, 80, 81, 82, 83, 84, 85, 86, 87, 88, 89]) (ac := [.ref 10]) D9_text_73 m0_layDown_v t419 (c0_layDown (d := d) (V := V) (T := tvR Y.2) (hW h42)) (by omega) rfl rfl ⟨rfl, rfl⟩ rfl rfl rfl rfl rfl (fun r w' hq hl => ?_)
    obtain ⟨V9, eV9⟩ : ∃ z9, layF (tvR Y.2) Y.2.2.2.1.2.1 V = z9 := ⟨_, rfl⟩
    rw [eV9] at hq
    obtain ⟨rfl, rfl⟩ := hq
    refine ⟨tcS (nI 0) hi T V9 S U N E R I K2 (txG Y.2) (tvR Y.2), Put.of2 90 rfl rfl ⟨rfl, rfl⟩ rfl, ?_⟩
    refine J_aload_n (pc := 76) D9_text_76 rfl ?_
    refine J_getf (pc := 77) D9_text_77 fl9_75 rfl rfl ?_
    refine J_callVP (pc := 80) (ι := [46, 47, 48, 49, 50, 51, 52]) (ac := []) D9_text_80 m3_clear_v t686 (c3_clear (d := d) (c := N.1) (kb := N.2.1) (a := N.2.2)) (by omega) rfl rfl ⟨rfl, rfl⟩ rfl rfl rfl rfl rfl (fun r w' hq hl => ?_)
    obtain ⟨rfl, rfl⟩ := hq
    refine ⟨tcS (nI 0) hi T V9 S U (0, -1, N.2.2) E R I K2 (txG Y.2) (tvR Y.2), Put.of2 90 rfl rfl ⟨rfl, rfl⟩ rfl, ?_⟩
    refine J_aload_n (pc := 83) D9_text_83 rfl ?_
    refine J_getf (pc := 84) D9_text_84 fl9_68 rfl rfl ?_
    refine J_callVP (pc := 87) (ι := [42, 43, 44, 45]) (ac := []) D9_text_87 m7_clear_v t690 (c7_clear (d := d) (c := U.1) (a := U.2)) (by omega) rfl rfl ⟨rfl, rfl⟩ rfl rfl rfl rfl rfl (fun r w' hq hl => ?_)
    obtain ⟨rfl, rfl⟩ := hq
    refine ⟨tcS (nI 0) hi T V9 S (0, U.2) (0, -1, N.2.2) E R I K2 (txG Y.2) (tvR Y.2), Put.of2 90 rfl rfl ⟨rfl, rfl⟩ rfl, ?_⟩
    refine J_aload_n (pc := 90) D9_text_90 rfl ?_
    refine J_iconst (pc := 91) (v := (nI 0)) D9_text_91 (by decide) ?_
    refine J_putf (pc := 92) D9_text_92 fp9_113 rfl (Fit.zb (by first | exact Or.inl rfl | exact Or.inr rfl)) rfl ?_
    refine J_iload_n (pc := 95) D9_text_95 rfl ?_
    refine J_iret (pc := 96) D9_text_96 rfl ?_
    rw [if_pos h42, eV9]
    exact ⟨by rw [← ev9, rdV, if_pos h42], rfl⟩
  · have h42' := eq_true h42
    replace h42 : ¬ Y.2.1.2.1 = 0 := fun q => by
      rw [← ev9, rdV, if_pos q] at h42
      exact absurd (show nI Y.1 < 0 by rw [h42]; decide) (nI_pos (by omega))
    refine J_iconst (pc := 45) (v := (-1)) D9_text_45 (by decide) ?_
    refine J_iret (pc := 46) D9_text_46 rfl ?_
    rw [if_neg h42]
    exact ⟨rfl, rfl⟩
theorem c9_textN {d : Nat} {hi : Int32} {T : TV} {V : CV} {S : SB} {U : UV} {N : NV} {E : EV} {R : Nat → Int32} {I : CV} {K : TK} {G : GV} {X : TV} {t : Nat} {x : Int32} (ht : t ≤ 700) (hx : ixB (t + 1) x = false) : TR d m9_text [.ref 0, .int x] (tcZ (nI t) hi T V S U N E R I K G X) (.int (-2)) := by
  refine Tr.intro (by decide) rfl ?_
  refine J_iload_n (pc := 0) D9_text_0 rfl ?_
  refine J_if_lt (pc := 1) (tgt := 12) D9_text_1 (by decide) (fun h1 => ?_) (fun h1 => ?_)
  · have h1' := Int32.not_le.mpr h1
    refine J_bipush (pc := 12) (v := (-2)) D9_text_12 (by decide) ?_
    refine J_iret (pc := 14) D9_text_14 rfl ?_
    exact ⟨rfl, rfl⟩
  · have h1' := Int32.not_lt.mp h1
    refine J_iload_n (pc := 4) D9_text_4 rfl ?_
    refine J_aload_n (pc := 5) D9_text_5 rfl ?_
    refine J_getf (pc := 6) D9_text_6 fl9_94 rfl rfl ?_
    refine J_icmp_le (pc := 9) (tgt := 15) D9_text_9 (by decide) (fun h9 => ?_) (fun h9 => ?_)
    · have h9' := Int32.not_lt.mpr h9
      exfalso
      obtain ⟨j, hj, rfl⟩ := nI_of h1
      rw [ixB_n (by have := (nI_leI hj (by omega)).mp h9; omega) (by omega)] at hx
      cases hx
    · have h9' := Int32.not_le.mp h9
      refine J_bipush (pc := 12) (v := (-2)) D9_text_12 (by decide) ?_
      refine J_iret (pc := 14) D9_text_14 rfl ?_
      exact ⟨rfl, rfl⟩
