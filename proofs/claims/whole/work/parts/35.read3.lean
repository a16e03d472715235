/-! READER: laws (own; walks by program wk.py) -/
theorem nI_eqI {a b : Nat} (ha : a < 2 ^ 31) (hb : b < 2 ^ 31) (h : nI a = nI b) : a = b := Nat.le_antisymm ((nI_leI ha hb).mp (h ▸ Int32.le_refl _)) ((nI_leI hb ha).mp (h ▸ Int32.le_refl _))
def lvO (x : Int32) : Int32 := if x = nI 16 then nI 0 else if x = nI 17 then nI 1 else if nI 19 ≤ x ∧ x ≤ nI 24 then nI 3 else if x = nI 25 ∨ x = nI 26 then nI 4 else if x = nI 27 ∨ x = nI 28 then nI 5 else -1
theorem c2_levelOf {d : Nat} {x : Int32} : TR (d + 1) m2_levelOf [.int x] [] (.int (lvO x)) := by
  refine Tr.intro (by decide) rfl ?_
  refine J_iload_n (pc := 0) D2_levelOf_0 rfl ?_
  refine J_bipush (pc := 1) (v := (nI 16)) D2_levelOf_1 (by decide) ?_
  refine J_icmp_ne (pc := 3) (tgt := 8) D2_levelOf_3 (by decide) (fun h3 => ?_) (fun h3 => ?_)
  · refine J_iload_n (pc := 8) D2_levelOf_8 rfl ?_
    refine J_bipush (pc := 9) (v := (nI 17)) D2_levelOf_9 (by decide) ?_
    refine J_icmp_ne (pc := 11) (tgt := 16) D2_levelOf_11 (by decide) (fun h11 => ?_) (fun h11 => ?_)
    · refine J_iload_n (pc := 16) D2_levelOf_16 rfl ?_
      refine J_bipush (pc := 17) (v := (nI 19)) D2_levelOf_17 (by decide) ?_
      refine J_bipush (pc := 19) (v := (nI 24)) D2_levelOf_19 (by decide) ?_
      refine J_callSNR (pc := 21) (ι := []) (ac := [.int _, .int _, .int _]) (host := "TemperCellar") D2_levelOf_21 m9_isAmong_s (by decide) (c9_isAmong (d := d)) (by omega) ⟨rfl, rfl⟩ rfl rfl (fun _ => rfl) rfl rfl rfl ?_
      refine J_if_eq (pc := 24) (tgt := 29) D2_levelOf_24 (by decide) (fun h24 => ?_) (fun h24 => ?_)
      · have h24' := eq_true h24
        replace h24 := i01_z h24
        refine J_iload_n (pc := 29) D2_levelOf_29 rfl ?_
        refine J_bipush (pc := 30) (v := (nI 25)) D2_levelOf_30 (by decide) ?_
        refine J_icmp_eq (pc := 32) (tgt := 41) D2_levelOf_32 (by decide) (fun h32 => ?_) (fun h32 => ?_)
        · have h32' := eq_true h32
          refine J_iconst (pc := 41) (v := (nI 4)) D2_levelOf_41 (by decide) ?_
          refine J_iret (pc := 42) D2_levelOf_42 rfl ?_
          exact ⟨rfl, by rw [lvO, if_neg h3, if_neg h11, if_neg h24, if_pos (Or.inl h32)]⟩
        · refine J_iload_n (pc := 35) D2_levelOf_35 rfl ?_
          refine J_bipush (pc := 36) (v := (nI 26)) D2_levelOf_36 (by decide) ?_
          refine J_icmp_ne (pc := 38) (tgt := 43) D2_levelOf_38 (by decide) (fun h38 => ?_) (fun h38 => ?_)
          · refine J_iload_n (pc := 43) D2_levelOf_43 rfl ?_
            refine J_bipush (pc := 44) (v := (nI 27)) D2_levelOf_44 (by decide) ?_
            refine J_icmp_eq (pc := 46) (tgt := 55) D2_levelOf_46 (by decide) (fun h46 => ?_) (fun h46 => ?_)
            · have h46' := eq_true h46
              refine J_iconst (pc := 55) (v := (nI 5)) D2_levelOf_55 (by decide) ?_
              refine J_goto (pc := 56) (tgt := 60) D2_levelOf_56 (by decide) ?_
              refine J_iret (pc := 60) D2_levelOf_60 rfl ?_
              exact ⟨rfl, by rw [lvO, if_neg h3, if_neg h11, if_neg h24, if_neg (fun q => q.elim h32 h38), if_pos (Or.inl h46)]⟩
            · refine J_iload_n (pc := 49) D2_levelOf_49 rfl ?_
              refine J_bipush (pc := 50) (v := (nI 28)) D2_levelOf_50 (by decide) ?_
              refine J_icmp_ne (pc := 52) (tgt := 59) D2_levelOf_52 (by decide) (fun h52 => ?_) (fun h52 => ?_)
              · refine J_iconst (pc := 59) (v := (-1)) D2_levelOf_59 (by decide) ?_
                refine J_iret (pc := 60) D2_levelOf_60 rfl ?_
                exact ⟨rfl, by rw [lvO, if_neg h3, if_neg h11, if_neg h24, if_neg (fun q => q.elim h32 h38), if_neg (fun q => q.elim h46 h52)]⟩
              · have h52' := eq_true h52
                refine J_iconst (pc := 55) (v := (nI 5)) D2_levelOf_55 (by decide) ?_
                refine J_goto (pc := 56) (tgt := 60) D2_levelOf_56 (by decide) ?_
                refine J_iret (pc := 60) D2_levelOf_60 rfl ?_
                exact ⟨rfl, by rw [lvO, if_neg h3, if_neg h11, if_neg h24, if_neg (fun q => q.elim h32 h38), if_pos (Or.inr h52)]⟩
          · have h38' := eq_true h38
            refine J_iconst (pc := 41) (v := (nI 4)) D2_levelOf_41 (by decide) ?_
            refine J_iret (pc := 42) D2_levelOf_42 rfl ?_
            exact ⟨rfl, by rw [lvO, if_neg h3, if_neg h11, if_neg h24, if_pos (Or.inr h38)]⟩
      · replace h24 := i01_nz h24
        refine J_iconst (pc := 27) (v := (nI 3)) D2_levelOf_27 (by decide) ?_
        refine J_iret (pc := 28) D2_levelOf_28 rfl ?_
        exact ⟨rfl, by rw [lvO, if_neg h3, if_neg h11, if_pos h24]⟩
    · have h11' := eq_true h11
      refine J_iconst (pc := 14) (v := (nI 1)) D2_levelOf_14 (by decide) ?_
      refine J_iret (pc := 15) D2_levelOf_15 rfl ?_
      exact ⟨rfl, by rw [lvO, if_neg h3, if_pos h11]⟩
  · have h3' := eq_true h3
    refine J_iconst (pc := 6) (v := (nI 0)) D2_levelOf_6 (by decide) ?_
    refine J_iret (pc := 7) D2_levelOf_7 rfl ?_
    exact ⟨rfl, by rw [lvO, if_pos h3]⟩
def lvL (K : TK) (g : RS → RS) (lv : Nat) : Nat → RS → RS
  | 0, R => R
  | m + 1, R => if R.1.2.1 = 0 ∧ lvO (K.2.2.2.1 R.1.1) = nI lv then lvL K g lv m (putR (K.2.2.2.1 R.1.1) (nI 0) (g (tkR K R))) else R
def ntL (K : TK) : Nat → Nat → RS → Nat × RS
  | 0, m, R => (m, R)
  | f + 1, m, R => if R.1.2.1 = 0 ∧ K.2.2.2.1 R.1.1 = nI 18 then ntL K f (m + 1) (tkR K R) else (m, R)
def puN : Nat → RS → RS
  | 0, R => R
  | m + 1, R => puN m (putR (nI 18) (nI 0) R)
def paN (K : TK) (k v : Int32) (R : RS) : RS := putR k v (tkR K (if nI 9999 < v then (refC K (nI 2) R.1, R.2) else R))
def paC (K : TK) (x : Int32) (R : RS) : RS := (takC K x R.1, R.2)
def paR (K : TK) (g : RS → RS) (op : Nat) (R : RS) : RS :=
  if K.2.2.2.1 R.1.1 = nI 29 ∨ (nI 9 ≤ K.2.2.2.1 R.1.1 ∧ K.2.2.2.1 R.1.1 ≤ nI 15) then paN K (K.2.2.2.1 R.1.1) (if K.2.2.2.1 R.1.1 = nI 29 then K.2.2.2.2.2 R.1.1 else nI 0) R
  else if K.2.2.2.1 R.1.1 = nI 32 then paC K (nI 33) (g (paC K (nI 32) (if op < 8 then R else (refC K (nI 2) R.1, R.2))))
  else (refC K (nI 1) R.1, R.2)
def RL (K : TK) : Nat → Nat → Nat → RS → RS
  | 0, _, _, R => R
  | f + 1, lv, op, R => if R.1.2.1 = 0 then
      (if lv = 2 then puN (ntL K 65 0 R).1 (RL K f 3 op (ntL K 65 0 R).2)
      else if 6 ≤ lv then paR K (RL K f 0 (op + 1)) op R
      else lvL K (RL K f (lv + 1) op) lv (if lv = 3 then 1 else 64) (RL K f (lv + 1) op R)) else R
theorem paC_I {K : TK} {n : Nat} {R : RS} {x : Int32} (hK : KI K n) (h : RI n R) : RI n (paC K x R) := h.core (takC_le hK h.1)
theorem lvL_I {K : TK} {n lv : Nat} {g : RS → RS} (hK : KI K n) (hg : ∀ R, RI n R → RI n (g R)) : ∀ (m : Nat) (R : RS), RI n R → RI n (lvL K g lv m R)
  | 0, _, h => h
  | m + 1, R, h => by
    unfold lvL
    split
    · exact lvL_I hK hg m _ (putR_I (hg _ (tkR_I hK h)))
    · exact h
theorem ntL_I {K : TK} {n : Nat} (hK : KI K n) : ∀ (f m : Nat) (R : RS), RI n R → RI n (ntL K f m R).2
  | 0, _, _, h => h
  | f + 1, m, R, h => by
    unfold ntL
    split
    · exact ntL_I hK f _ _ (tkR_I hK h)
    · exact h
theorem puN_I {n : Nat} : ∀ (m : Nat) (R : RS), RI n R → RI n (puN m R)
  | 0, _, h => h
  | m + 1, R, h => puN_I m _ (putR_I h)
theorem ref_I {K : TK} {n : Nat} {R : RS} {f : Int32} (p : Prop) [Decidable p] (h : RI n R) : RI n (if p then R else (refC K f R.1, R.2)) := by
  split
  · exact h
  · exact h.ref
theorem paN_I {K : TK} {n : Nat} {R : RS} {k v : Int32} (hK : KI K n) (h : RI n R) : RI n (paN K k v R) := by
  refine putR_I (tkR_I hK ?_)
  split
  · exact h.ref
  · exact h
theorem paR_I {K : TK} {n op : Nat} {g : RS → RS} {R : RS} (hK : KI K n) (hg : ∀ R, RI n R → RI n (g R)) (h : RI n R) : RI n (paR K g op R) := by
  unfold paR
  split
  · exact paN_I hK h
  · split
    · exact paC_I hK (hg _ (paC_I hK (ref_I _ h)))
    · exact h.ref
theorem RL_I {K : TK} {n : Nat} (hK : KI K n) : ∀ (f lv op : Nat) (R : RS), RI n R → RI n (RL K f lv op R)
  | 0, _, _, _, h => h
  | f + 1, lv, op, R, h => by
    unfold RL
    split
    · split
      · exact puN_I _ _ (RL_I hK f _ _ _ (ntL_I hK _ _ _ h))
      · split
        · exact paR_I hK (fun R hR => RL_I hK f _ _ R hR) h
        · exact lvL_I hK (fun R hR => RL_I hK f _ _ R hR) _ _ (RL_I hK f _ _ _ h)
    · exact h
theorem L2_not42 {d n op m : Nat} {K : TK} : ∀ (u i : Nat) (R : RS), RI n R → i + u = m → m ≤ 65 → J m2_readNot (d + 5) 0 0 24 42 [(0, .ref 0), (1, .int (nI op)), (2, .int (nI m)), (3, .int (nI i))] [] (rdrW K R) 0 0 (rQ K (puN u R)) := by
  intro u
  induction u with
  | zero =>
    intro i R hI hi hm
    refine J_iload_n (pc := 42) D2_readNot_42 rfl ?_
    refine J_iload_n (pc := 43) D2_readNot_43 rfl ?_
    refine J_icmp_ge (pc := 44) (tgt := 66) D2_readNot_44 (by decide) (fun h44 => ?_) (fun h44 => absurd (nI_le (by omega) (by omega)) h44)
    refine J_vret (pc := 66) D2_readNot_66 rfl ?_
    exact ⟨rfl, rfl⟩
  | succ u ih =>
    intro i R hI hi hm
    refine J_iload_n (pc := 42) D2_readNot_42 rfl ?_
    refine J_iload_n (pc := 43) D2_readNot_43 rfl ?_
    refine J_icmp_ge (pc := 44) (tgt := 66) D2_readNot_44 (by decide) (fun h44 => absurd h44 (nI_ge (by omega) (by omega))) (fun h44 => ?_)
    refine J_aload_n (pc := 47) D2_readNot_47 rfl ?_
    refine J_getf (pc := 48) D2_readNot_48 fl2_19 rfl rfl ?_
    refine J_getf (pc := 51) D2_readNot_51 fl2_162 rfl rfl ?_
    refine J_bipush (pc := 54) (v := (nI 18)) D2_readNot_54 (by decide) ?_
    refine J_iconst (pc := 56) (v := (nI 0)) D2_readNot_56 (by decide) ?_
    refine J_callV (pc := 57) (ι := [19, 20, 21, 22, 23]) (ac := [.int (nI 18), .int (nI 0)]) D2_readNot_57 m1_put_v t675 (c1_put (d := d) (n := R.2.2.2.2.1.1) (s := (tvR R).2.2.1) (a := (tvR R).2.2.2) hI.2.2.2.2.1 rfl) (by omega) rfl rfl ⟨rfl, rfl⟩ rfl rfl rfl rfl rfl (fun r w' hq hl => ?_)
    obtain ⟨rfl, rfl⟩ := hq
    refine J_w (w2 := rdrW K (putR (nI 18) (nI 0) R)) (by unfold putR putL; split <;> rfl) ?_
    refine J_iinc (pc := 60) D2_readNot_60 rfl (nI_inc _) rfl ?_
    refine J_goto (pc := 63) (tgt := 42) D2_readNot_63 (by decide) ?_
    exact ih (i + 1) _ (putR_I hI) (by omega) hm
theorem L2_not34 {d n m : Nat} {K : TK} {R : RS} {g : RS → RS} {op : Nat} (hL : ∀ R, RI n R → Tr (d + 4) 0 0 m2_readLevel [.ref 0, .int (nI 3), .int (nI op)] (rdrW K R) (rQ K (g R))) (hg : ∀ R, RI n R → RI n (g R)) (hI : RI n R) (hm : m ≤ 65) : J m2_readNot (d + 5) 0 0 24 34 [(0, .ref 0), (1, .int (nI op)), (2, .int (nI m))] [] (rdrW K R) 0 0 (rQ K (puN m (g R))) := by
  refine J_aload_n (pc := 34) D2_readNot_34 rfl ?_
  refine J_iconst (pc := 35) (v := (nI 3)) D2_readNot_35 (by decide) ?_
  refine J_iload_n (pc := 36) D2_readNot_36 rfl ?_
  refine J_callVT (pc := 37) (ac := [.int _, .int _]) D2_readNot_37 m2_readLevel_v t663 (hL R hI) (by omega) rfl rfl rfl rfl rfl rfl rfl (fun r w' hq hl => ?_)
  obtain ⟨rfl, rfl⟩ := hq
  refine J_iconst (pc := 40) (v := (nI 0)) D2_readNot_40 (by decide) ?_
  refine J_istore_n (pc := 41) D2_readNot_41 rfl ?_
  exact L2_not42 m 0 _ (hg _ hI) (by omega) hm
theorem L2_not {d n : Nat} {K : TK} {g : RS → RS} {op : Nat} (hK : KI K n) (hL : ∀ R, RI n R → Tr (d + 4) 0 0 m2_readLevel [.ref 0, .int (nI 3), .int (nI op)] (rdrW K R) (rQ K (g R))) (hg : ∀ R, RI n R → RI n (g R)) : ∀ (u m : Nat) (R : RS), RI n R → m + u = 65 → J m2_readNot (d + 5) 0 0 24 2 [(0, .ref 0), (1, .int (nI op)), (2, .int (nI m))] [] (rdrW K R) 0 0 (rQ K (puN (ntL K u m R).1 (g (ntL K u m R).2))) := by
  intro u
  induction u with
  | zero =>
    intro m R hI hi
    refine J_iload_n (pc := 2) D2_readNot_2 rfl ?_
    refine J_bipush (pc := 3) (v := (nI 64)) D2_readNot_3 (by decide) ?_
    refine J_icmp_gt (pc := 5) (tgt := 34) D2_readNot_5 (by decide) (fun h5 => ?_) (fun h5 => absurd (nI_lt (by omega) (by omega)) h5)
    exact L2_not34 hL hg hI (by omega)
  | succ u ih =>
    intro m R hI hi
    refine J_iload_n (pc := 2) D2_readNot_2 rfl ?_
    refine J_bipush (pc := 3) (v := (nI 64)) D2_readNot_3 (by decide) ?_
    refine J_icmp_gt (pc := 5) (tgt := 34) D2_readNot_5 (by decide) (fun h5 => absurd h5 (Int32.not_lt.mpr (nI_le (by omega) (by omega)))) (fun h5 => ?_)
    refine J_aload_n (pc := 8) D2_readNot_8 rfl ?_
    refine J_getf (pc := 9) D2_readNot_9 fl2_35 rfl rfl ?_
    refine J_if_ne (pc := 12) (tgt := 34) D2_readNot_12 (by decide) (fun h12 => ?_) (fun h12 => ?_)
    · rw [ntL, if_neg (fun q => h12 q.1)]
      exact L2_not34 hL hg hI (by omega)
    · have h12' := eq_true h12
      refine J_aload_n (pc := 15) D2_readNot_15 rfl ?_
      refine J_callVTR (pc := 16) (ac := []) D2_readNot_16 m2_kind_v t584 (c2_kind (d := d + 4) hK hI) (by omega) rfl rfl rfl rfl (fun _ => rfl) rfl rfl rfl ?_
      refine J_bipush (pc := 19) (v := (nI 18)) D2_readNot_19 (by decide) ?_
      refine J_icmp_ne (pc := 21) (tgt := 34) D2_readNot_21 (by decide) (fun h21 => ?_) (fun h21 => ?_)
      · rw [ntL, if_neg (fun q => h21 q.2)]
        exact L2_not34 hL hg hI (by omega)
      · have h21' := eq_true h21
        refine J_aload_n (pc := 24) D2_readNot_24 rfl ?_
        refine J_callVT (pc := 25) (ac := []) D2_readNot_25 m2_takeKnot_v t671 (c2_takeKnot (d := d + 1) (R := R) hK hI) (by omega) rfl rfl rfl rfl rfl rfl rfl (fun r w' hq hl => ?_)
        obtain ⟨rfl, rfl⟩ := hq
        refine J_iinc (pc := 28) D2_readNot_28 rfl (nI_inc _) rfl ?_
        refine J_goto (pc := 31) (tgt := 2) D2_readNot_31 (by decide) ?_
        rw [ntL, if_pos ⟨h12, h21⟩]
        exact ih (m + 1) _ (tkR_I hK hI) (by omega)
theorem c2_readNot {d n : Nat} {K : TK} {R : RS} {g : RS → RS} {op : Nat} (hK : KI K n) (hL : ∀ R, RI n R → Tr (d + 4) 0 0 m2_readLevel [.ref 0, .int (nI 3), .int (nI op)] (rdrW K R) (rQ K (g R))) (hg : ∀ R, RI n R → RI n (g R)) (hI : RI n R) : Tr (d + 5) 0 0 m2_readNot [.ref 0, .int (nI op)] (rdrW K R) (rQ K (puN (ntL K 65 0 R).1 (g (ntL K 65 0 R).2))) := by
  refine Tr.intro (by decide) rfl ?_
  refine J_iconst (pc := 0) (v := (nI 0)) D2_readNot_0 (by decide) ?_
  refine J_istore_n (pc := 1) D2_readNot_1 rfl ?_
  exact L2_not hK hL hg 65 0 R hI (by omega)
theorem L2_part49 {op k v : Int32} {d n : Nat} {K : TK} {R : RS} (hK : KI K n) (hI : RI n R) : J m2_readPart (d + 5) 0 0 24 49 [(0, .ref 0), (1, .int op), (2, .int k), (3, .int v)] [] (rdrW K R) 0 0 (rQ K (putR k v (tkR K R))) := by
  refine J_aload_n (pc := 49) D2_readPart_49 rfl ?_
  refine J_callVT (pc := 50) (ac := []) D2_readPart_50 m2_takeKnot_v t671 (c2_takeKnot (d := d + 1) hK hI) (by omega) rfl rfl rfl rfl rfl rfl rfl (fun r w' hq hl => ?_)
  obtain ⟨rfl, rfl⟩ := hq
  have hI2 := tkR_I hK hI
  revert hI2
  generalize tkR K R = R2
  intro hI2
  refine J_aload_n (pc := 53) D2_readPart_53 rfl ?_
  refine J_getf (pc := 54) D2_readPart_54 fl2_19 rfl rfl ?_
  refine J_getf (pc := 57) D2_readPart_57 fl2_162 rfl rfl ?_
  refine J_iload_n (pc := 60) D2_readPart_60 rfl ?_
  refine J_iload_n (pc := 61) D2_readPart_61 rfl ?_
  refine J_callV (pc := 62) (ι := [19, 20, 21, 22, 23]) (ac := [.int k, .int v]) D2_readPart_62 m1_put_v t675 (c1_put (d := d) (n := R2.2.2.2.2.1.1) (s := (tvR R2).2.2.1) (a := (tvR R2).2.2.2) hI2.2.2.2.2.1 rfl) (by omega) rfl rfl ⟨rfl, rfl⟩ rfl rfl rfl rfl rfl (fun r w' hq hl => ?_)
  obtain ⟨rfl, rfl⟩ := hq
  refine J_w (w2 := rdrW K (putR k v R2)) (by unfold putR putL; split <;> rfl) ?_
  refine J_goto (pc := 65) (tgt := 113) D2_readPart_65 (by decide) ?_
  refine J_vret (pc := 113) D2_readPart_113 rfl ?_
  exact ⟨rfl, rfl⟩
theorem L2_part85 {d n : Nat} {K : TK} {R : RS} {g : RS → RS} {op : Nat} (hK : KI K n) (hL : ∀ R, RI n R → (R.1.2.1 = 0 → op < 8) → Tr (d + 4) 0 0 m2_readLevel [.ref 0, .int (nI 0), .int (nI (op + 1))] (rdrW K R) (rQ K (g R))) (hg : ∀ R, RI n R → RI n (g R)) (hI : RI n R) {x : Value} (hop : R.1.2.1 = 0 → op < 8) : J m2_readPart (d + 5) 0 0 24 85 [(0, .ref 0), (1, .int (nI op)), (2, x)] [] (rdrW K R) 0 0 (rQ K (paC K (nI 33) (g (paC K (nI 32) R)))) := by
  have hf : (paC K (nI 32) R).1.2.1 = 0 → op < 8 := fun q => hop (Decidable.byContradiction fun h => h (by
    have h2 : paC K (nI 32) R = R := by unfold paC takC; rw [if_neg h]
    rw [h2] at q; exact q))
  refine J_aload_n (pc := 85) D2_readPart_85 rfl ?_
  refine J_bipush (pc := 86) (v := (nI 32)) D2_readPart_86 (by decide) ?_
  refine J_callVT (pc := 88) (ac := [.int _]) D2_readPart_88 m2_take_v t619 (c2_take (d := d + 2) hK hI) (by omega) rfl rfl rfl rfl rfl rfl rfl (fun r w' hq hl => ?_)
  obtain ⟨rfl, rfl⟩ := hq
  refine J_w (w2 := rdrW K (paC K (nI 32) R)) rfl ?_
  have hI2 := paC_I (x := nI 32) hK hI
  revert hI2 hf
  generalize paC K (nI 32) R = R2
  intro hf hI2
  refine J_aload_n (pc := 91) D2_readPart_91 rfl ?_
  refine J_iconst (pc := 92) (v := (nI 0)) D2_readPart_92 (by decide) ?_
  refine J_iload_n (pc := 93) D2_readPart_93 rfl ?_
  refine J_iconst (pc := 94) (v := (nI 1)) D2_readPart_94 (by decide) ?_
  refine J_iadd (pc := 95) D2_readPart_95 ?_
  refine J_st [.int (nI (op + 1)), .int (nI 0), .ref 0] (by rw [show nI op + nI 1 = nI (op + 1) from nI_1 _]; try rfl) ?_
  refine J_callVT (pc := 96) (ac := [.int _, .int _]) D2_readPart_96 m2_readLevel_v t663 (hL R2 hI2 hf) (by omega) rfl rfl rfl rfl rfl rfl rfl (fun r w' hq hl => ?_)
  obtain ⟨rfl, rfl⟩ := hq
  have hI3 := hg _ hI2
  revert hI3
  generalize g R2 = R3
  intro hI3
  refine J_aload_n (pc := 99) D2_readPart_99 rfl ?_
  refine J_bipush (pc := 100) (v := (nI 33)) D2_readPart_100 (by decide) ?_
  refine J_callVT (pc := 102) (ac := [.int _]) D2_readPart_102 m2_take_v t619 (c2_take (d := d + 2) hK hI3) (by omega) rfl rfl rfl rfl rfl rfl rfl (fun r w' hq hl => ?_)
  obtain ⟨rfl, rfl⟩ := hq
  refine J_goto (pc := 105) (tgt := 113) D2_readPart_105 (by decide) ?_
  refine J_vret (pc := 113) D2_readPart_113 rfl ?_
  exact ⟨rfl, rfl⟩
theorem c2_readPart {d n : Nat} {K : TK} {R : RS} {g : RS → RS} {op : Nat} (hK : KI K n) (hL : ∀ R, RI n R → (R.1.2.1 = 0 → op < 8) → Tr (d + 4) 0 0 m2_readLevel [.ref 0, .int (nI 0), .int (nI (op + 1))] (rdrW K R) (rQ K (g R))) (hg : ∀ R, RI n R → RI n (g R)) (hI : RI n R) (ho : op ≤ 8) : Tr (d + 5) 0 0 m2_readPart [.ref 0, .int (nI op)] (rdrW K R) (rQ K (paR K g op R)) := by
  refine Tr.intro (by decide) rfl ?_
  refine J_aload_n (pc := 0) D2_readPart_0 rfl ?_
  refine J_callVTR (pc := 1) (ac := []) D2_readPart_1 m2_kind_v t584 (c2_kind (d := d + 4) hK hI) (by omega) rfl rfl rfl rfl (fun _ => rfl) rfl rfl rfl ?_
  refine J_istore_n (pc := 4) D2_readPart_4 rfl ?_
  refine J_iload_n (pc := 5) D2_readPart_5 rfl ?_
  refine J_bipush (pc := 6) (v := (nI 29)) D2_readPart_6 (by decide) ?_
  refine J_icmp_eq (pc := 8) (tgt := 22) D2_readPart_8 (by decide) (fun h8 => ?_) (fun h8 => ?_)
  · have h8' := eq_true h8
    refine J_iload_n (pc := 22) D2_readPart_22 rfl ?_
    refine J_bipush (pc := 23) (v := (nI 29)) D2_readPart_23 (by decide) ?_
    refine J_icmp_ne (pc := 25) (tgt := 35) D2_readPart_25 (by decide) (fun h25 => absurd h8 h25) (fun h25 => ?_)
    refine J_aload_n (pc := 28) D2_readPart_28 rfl ?_
    refine J_callVTR (pc := 29) (ac := []) D2_readPart_29 m2_value_v t604 (c2_value (d := d + 4) hK hI) (by omega) rfl rfl rfl rfl (fun _ => rfl) rfl rfl rfl ?_
    refine J_goto (pc := 32) (tgt := 36) D2_readPart_32 (by decide) ?_
    refine J_istore_n (pc := 36) D2_readPart_36 rfl ?_
    refine J_iload_n (pc := 37) D2_readPart_37 rfl ?_
    refine J_sipush (pc := 38) (v := (nI 9999)) D2_readPart_38 (by decide) ?_
    refine J_icmp_le (pc := 41) (tgt := 49) D2_readPart_41 (by decide) (fun h41 => ?_) (fun h41 => ?_)
    · have h41' := Int32.not_lt.mpr h41
      rw [paR, if_pos (Or.inl h8), if_pos h8, paN, if_neg (Int32.not_lt.mpr h41)]
      exact L2_part49 hK hI
    · have h41' := Int32.not_le.mp h41
      refine J_aload_n (pc := 44) D2_readPart_44 rfl ?_
      refine J_iconst (pc := 45) (v := (nI 2)) D2_readPart_45 (by decide) ?_
      refine J_callVT (pc := 46) (ac := [.int _]) D2_readPart_46 m2_refuse_v t596 (c2_refuse (d := d + 4) hK hI) (by omega) rfl rfl rfl rfl rfl rfl rfl (fun r w' hq hl => ?_)
      obtain ⟨rfl, rfl⟩ := hq
      rw [paR, if_pos (Or.inl h8), if_pos h8, paN, if_pos h41']
      exact L2_part49 (R := (refC K (nI 2) R.1, R.2)) hK hI.ref
  · refine J_iload_n (pc := 11) D2_readPart_11 rfl ?_
    refine J_bipush (pc := 12) (v := (nI 9)) D2_readPart_12 (by decide) ?_
    refine J_bipush (pc := 14) (v := (nI 15)) D2_readPart_14 (by decide) ?_
    refine J_callSNR (pc := 16) (ι := []) (ac := [.int _, .int _, .int _]) (host := "TemperCellar") D2_readPart_16 m9_isAmong_s (by decide) (c9_isAmong (d := d + 4)) (by omega) ⟨rfl, rfl⟩ rfl rfl (fun _ => rfl) rfl rfl rfl ?_
    refine J_if_eq (pc := 19) (tgt := 68) D2_readPart_19 (by decide) (fun h19 => ?_) (fun h19 => ?_)
    · have h19' := eq_true h19
      refine J_iload_n (pc := 68) D2_readPart_68 rfl ?_
      refine J_bipush (pc := 69) (v := (nI 32)) D2_readPart_69 (by decide) ?_
      refine J_icmp_ne (pc := 71) (tgt := 108) D2_readPart_71 (by decide) (fun h71 => ?_) (fun h71 => ?_)
      · refine J_aload_n (pc := 108) D2_readPart_108 rfl ?_
        refine J_iconst (pc := 109) (v := (nI 1)) D2_readPart_109 (by decide) ?_
        refine J_callVT (pc := 110) (ac := [.int _]) D2_readPart_110 m2_refuse_v t596 (c2_refuse (d := d + 4) hK hI) (by omega) rfl rfl rfl rfl rfl rfl rfl (fun r w' hq hl => ?_)
        obtain ⟨rfl, rfl⟩ := hq
        refine J_vret (pc := 113) D2_readPart_113 rfl ?_
        refine ⟨rfl, ?_⟩
        rw [paR, if_neg (fun q => q.elim h8 (fun q => absurd (i01_t q) (by rw [h19]; decide))), if_neg h71]
      · have h71' := eq_true h71
        refine J_iload_n (pc := 74) D2_readPart_74 rfl ?_
        refine J_bipush (pc := 75) (v := (nI 8)) D2_readPart_75 (by decide) ?_
        refine J_icmp_lt (pc := 77) (tgt := 85) D2_readPart_77 (by decide) (fun h77 => ?_) (fun h77 => ?_)
        · have h77' := Int32.not_le.mpr h77
          have hlt := (nI_ltI (by omega) (by omega)).mp h77
          rw [paR, if_neg (fun q => q.elim h8 (fun q => absurd (i01_t q) (by rw [h19]; decide))), if_pos h71, if_pos hlt]
          exact L2_part85 hK hL hg hI (fun _ => hlt)
        · have h77' := Int32.not_lt.mp h77
          refine J_aload_n (pc := 80) D2_readPart_80 rfl ?_
          refine J_iconst (pc := 81) (v := (nI 2)) D2_readPart_81 (by decide) ?_
          refine J_callVT (pc := 82) (ac := [.int _]) D2_readPart_82 m2_refuse_v t596 (c2_refuse (d := d + 4) hK hI) (by omega) rfl rfl rfl rfl rfl rfl rfl (fun r w' hq hl => ?_)
          obtain ⟨rfl, rfl⟩ := hq
          have hlt := (nI_leI (by omega) (by omega)).mp h77'
          rw [paR, if_neg (fun q => q.elim h8 (fun q => absurd (i01_t q) (by rw [h19]; decide))), if_pos h71, if_neg (by omega)]
          exact L2_part85 (R := (refC K (nI 2) R.1, R.2)) hK hL hg hI.ref (fun q => absurd q (refC_ne (by decide)))
    · refine J_iload_n (pc := 22) D2_readPart_22 rfl ?_
      refine J_bipush (pc := 23) (v := (nI 29)) D2_readPart_23 (by decide) ?_
      refine J_icmp_ne (pc := 25) (tgt := 35) D2_readPart_25 (by decide) (fun h25 => ?_) (fun h25 => absurd h25 h8)
      refine J_iconst (pc := 35) (v := (nI 0)) D2_readPart_35 (by decide) ?_
      refine J_istore_n (pc := 36) D2_readPart_36 rfl ?_
      refine J_iload_n (pc := 37) D2_readPart_37 rfl ?_
      refine J_sipush (pc := 38) (v := (nI 9999)) D2_readPart_38 (by decide) ?_
      refine J_icmp_le (pc := 41) (tgt := 49) D2_readPart_41 (by decide) (fun h41 => ?_) (fun h41 => ?_)
      · have h41' := Int32.not_lt.mpr h41
        rw [paR, if_pos (Or.inr (i01_nz h19)), if_neg h8, paN, if_neg (Int32.not_lt.mpr h41)]
        exact L2_part49 hK hI
      · have h41' := Int32.not_le.mp h41
        refine J_aload_n (pc := 44) D2_readPart_44 rfl ?_
        refine J_iconst (pc := 45) (v := (nI 2)) D2_readPart_45 (by decide) ?_
        refine J_callVT (pc := 46) (ac := [.int _]) D2_readPart_46 m2_refuse_v t596 (c2_refuse (d := d + 4) hK hI) (by omega) rfl rfl rfl rfl rfl rfl rfl (fun r w' hq hl => ?_)
        obtain ⟨rfl, rfl⟩ := hq
        rw [paR, if_pos (Or.inr (i01_nz h19)), if_neg h8, paN, if_pos h41']
        exact L2_part49 (R := (refC K (nI 2) R.1, R.2)) hK hI.ref
theorem L2_lev54 {d n lv op m : Nat} {K : TK} {g : RS → RS} (hK : KI K n) (hL : ∀ R, RI n R → Tr (d + 4) 0 0 m2_readLevel [.ref 0, .int (nI (lv + 1)), .int (nI op)] (rdrW K R) (rQ K (g R))) (hg : ∀ R, RI n R → RI n (g R)) (hm : m ≤ 64) : ∀ (u i : Nat) (R : RS), RI n R → i + u = m → J m2_readLevel (d + 6) 0 0 24 54 [(0, .ref 0), (1, .int (nI lv)), (2, .int (nI op)), (3, .int (nI m)), (4, .int (nI i))] [] (rdrW K R) 0 0 (rQ K (lvL K g lv u R)) := by
  intro u
  induction u with
  | zero =>
    intro i R hI hi
    refine J_iload (pc := 54) D2_readLevel_54 rfl ?_
    refine J_iload_n (pc := 56) D2_readLevel_56 rfl ?_
    refine J_icmp_ge (pc := 57) (tgt := 115) D2_readLevel_57 (by decide) (fun h57 => ?_) (fun h57 => absurd (nI_le (by omega) (by omega)) h57)
    refine J_vret (pc := 115) D2_readLevel_115 rfl ?_
    exact ⟨rfl, rfl⟩
  | succ u ih =>
    intro i R hI hi
    refine J_iload (pc := 54) D2_readLevel_54 rfl ?_
    refine J_iload_n (pc := 56) D2_readLevel_56 rfl ?_
    refine J_icmp_ge (pc := 57) (tgt := 115) D2_readLevel_57 (by decide) (fun h57 => absurd h57 (nI_ge (by omega) (by omega))) (fun h57 => ?_)
    refine J_aload_n (pc := 60) D2_readLevel_60 rfl ?_
    refine J_getf (pc := 61) D2_readLevel_61 fl2_35 rfl rfl ?_
    refine J_if_ne (pc := 64) (tgt := 115) D2_readLevel_64 (by decide) (fun h64 => ?_) (fun h64 => ?_)
    · refine J_vret (pc := 115) D2_readLevel_115 rfl ?_
      refine ⟨rfl, ?_⟩
      rw [lvL, if_neg (fun q => h64 q.1)]
    · have h64' := eq_true h64
      refine J_aload_n (pc := 67) D2_readLevel_67 rfl ?_
      refine J_callVTR (pc := 68) (ac := []) D2_readLevel_68 m2_kind_v t584 (c2_kind (d := d + 4) hK hI) (by omega) rfl rfl rfl rfl (fun _ => rfl) rfl rfl rfl ?_
      refine J_callSR (pc := 71) (ι := []) (ac := [.int _]) D2_readLevel_71 m2_levelOf_s t683 (c2_levelOf (d := d)) (by omega) ⟨rfl, rfl⟩ rfl rfl (fun _ => rfl) rfl rfl rfl ?_
      refine J_iload_n (pc := 74) D2_readLevel_74 rfl ?_
      refine J_icmp_ne (pc := 75) (tgt := 115) D2_readLevel_75 (by decide) (fun h75 => ?_) (fun h75 => ?_)
      · refine J_vret (pc := 115) D2_readLevel_115 rfl ?_
        refine ⟨rfl, ?_⟩
        rw [lvL, if_neg (fun q => h75 q.2)]
      · have h75' := eq_true h75
        refine J_aload_n (pc := 78) D2_readLevel_78 rfl ?_
        refine J_callVTR (pc := 79) (ac := []) D2_readLevel_79 m2_kind_v t584 (c2_kind (d := d + 4) hK hI) (by omega) rfl rfl rfl rfl (fun _ => rfl) rfl rfl rfl ?_
        refine J_istore (pc := 82) D2_readLevel_82 rfl ?_
        refine J_aload_n (pc := 84) D2_readLevel_84 rfl ?_
        refine J_callVT (pc := 85) (ac := []) D2_readLevel_85 m2_takeKnot_v t671 (c2_takeKnot (d := d + 1) hK hI) (by omega) rfl rfl rfl rfl rfl rfl rfl (fun r w' hq hl => ?_)
        obtain ⟨rfl, rfl⟩ := hq
        obtain ⟨R2, eR2⟩ : ∃ x, tkR K R = x := ⟨_, rfl⟩
        refine J_w (w2 := rdrW K R2) (by rw [eR2]) ?_
        have hI2 : RI n R2 := eR2 ▸ tkR_I hK hI
        refine J_aload_n (pc := 88) D2_readLevel_88 rfl ?_
        refine J_iload_n (pc := 89) D2_readLevel_89 rfl ?_
        refine J_iconst (pc := 90) (v := (nI 1)) D2_readLevel_90 (by decide) ?_
        refine J_iadd (pc := 91) D2_readLevel_91 ?_
        refine J_iload_n (pc := 92) D2_readLevel_92 rfl ?_
        refine J_st [.int (nI op), .int (nI (lv + 1)), .ref 0] (by rw [show nI lv + nI 1 = nI (lv + 1) from nI_1 _]; try rfl) ?_
        refine J_callVT (pc := 93) (ac := [.int _, .int _]) D2_readLevel_93 m2_readLevel_v t663 (hL R2 hI2) (by omega) rfl rfl rfl rfl rfl rfl rfl (fun r w' hq hl => ?_)
        obtain ⟨rfl, rfl⟩ := hq
        obtain ⟨R3, eR3⟩ : ∃ x, g R2 = x := ⟨_, rfl⟩
        refine J_w (w2 := rdrW K R3) (by rw [eR3]) ?_
        have hI3 : RI n R3 := eR3 ▸ hg _ hI2
        refine J_aload_n (pc := 96) D2_readLevel_96 rfl ?_
        refine J_getf (pc := 97) D2_readLevel_97 fl2_19 rfl rfl ?_
        refine J_getf (pc := 100) D2_readLevel_100 fl2_162 rfl rfl ?_
        refine J_iload (pc := 103) D2_readLevel_103 rfl ?_
        refine J_iconst (pc := 105) (v := (nI 0)) D2_readLevel_105 (by decide) ?_
        refine J_callV (pc := 106) (ι := [19, 20, 21, 22, 23]) (ac := [.int (K.2.2.2.1 R.1.1), .int (nI 0)]) D2_readLevel_106 m1_put_v t675 (c1_put (d := d) (n := R3.2.2.2.2.1.1) (s := (tvR R3).2.2.1) (a := (tvR R3).2.2.2) hI3.2.2.2.2.1 rfl) (by omega) rfl rfl ⟨rfl, rfl⟩ rfl rfl rfl rfl rfl (fun r w' hq hl => ?_)
        obtain ⟨rfl, rfl⟩ := hq
        refine J_w (w2 := rdrW K (putR (K.2.2.2.1 R.1.1) (nI 0) R3)) (by unfold putR putL; split <;> rfl) ?_
        refine J_iinc (pc := 109) D2_readLevel_109 rfl (nI_inc _) rfl ?_
        refine J_goto (pc := 112) (tgt := 54) D2_readLevel_112 (by decide) ?_
        rw [lvL, if_pos ⟨h64, h75⟩, eR2, eR3]
        refine J_lk [(0, .ref 0), (1, .int (nI lv)), (2, .int (nI op)), (3, .int (nI m)), (4, .int (nI (i + 1)))] rfl ?_
        exact ih (i + 1) _ (putR_I hI3) (by omega)
theorem c2_readLevel {n : Nat} {K : TK} (hK : KI K n) (d0 : Nat) : ∀ (f lv op : Nat) (R : RS), RI n R → (R.1.2.1 = 0 → lv ≤ 6 ∧ op ≤ 8 ∧ (8 - op) * 7 + (6 - lv) + 1 ≤ f) → Tr (d0 + 2 * f + 4) 0 0 m2_readLevel [.ref 0, .int (nI lv), .int (nI op)] (rdrW K R) (rQ K (RL K f lv op R)) := by
  intro f
  induction f with
  | zero =>
    intro lv op R hI hf
    have hne : ¬ R.1.2.1 = 0 := fun q => by have := hf q; omega
    refine Tr.intro (by decide) rfl ?_
    refine J_aload_n (pc := 0) D2_readLevel_0 rfl ?_
    refine J_getf (pc := 1) D2_readLevel_1 fl2_35 rfl rfl ?_
    refine J_if_eq (pc := 4) (tgt := 8) D2_readLevel_4 (by decide) (fun h4 => absurd h4 hne) (fun h4 => ?_)
    refine J_vret (pc := 7) D2_readLevel_7 rfl ?_
    exact ⟨rfl, rfl⟩
  | succ f ih =>
    intro lv op R hI hf
    rw [show d0 + 2 * (f + 1) + 4 = d0 + 2 * f + 6 by omega]
    refine Tr.intro (by decide) rfl ?_
    refine J_aload_n (pc := 0) D2_readLevel_0 rfl ?_
    refine J_getf (pc := 1) D2_readLevel_1 fl2_35 rfl rfl ?_
    refine J_if_eq (pc := 4) (tgt := 8) D2_readLevel_4 (by decide) (fun h4 => ?_) (fun h4 => ?_)
    · have h4' := eq_true h4
      have hf1 := hf h4
      refine J_iload_n (pc := 8) D2_readLevel_8 rfl ?_
      refine J_iconst (pc := 9) (v := (nI 2)) D2_readLevel_9 (by decide) ?_
      refine J_icmp_ne (pc := 10) (tgt := 19) D2_readLevel_10 (by decide) (fun h10 => ?_) (fun h10 => ?_)
      · have hl2 : ¬ lv = 2 := fun e => h10 (by rw [e])
        refine J_iload_n (pc := 19) D2_readLevel_19 rfl ?_
        refine J_bipush (pc := 20) (v := (nI 6)) D2_readLevel_20 (by decide) ?_
        refine J_icmp_lt (pc := 22) (tgt := 31) D2_readLevel_22 (by decide) (fun h22 => ?_) (fun h22 => ?_)
        · have h22' := Int32.not_le.mpr h22
          have hl6 := (nI_ltI (by omega) (by omega)).mp h22
          refine J_aload_n (pc := 31) D2_readLevel_31 rfl ?_
          refine J_iload_n (pc := 32) D2_readLevel_32 rfl ?_
          refine J_iconst (pc := 33) (v := (nI 1)) D2_readLevel_33 (by decide) ?_
          refine J_iadd (pc := 34) D2_readLevel_34 ?_
          refine J_iload_n (pc := 35) D2_readLevel_35 rfl ?_
          refine J_st [.int (nI op), .int (nI (lv + 1)), .ref 0] (by rw [show nI lv + nI 1 = nI (lv + 1) from nI_1 _]; try rfl) ?_
          refine J_callVT (pc := 36) (ac := [.int _, .int _]) D2_readLevel_36 m2_readLevel_v t663 (ih (lv + 1) op R hI (fun _ => ⟨by omega, by omega, by omega⟩)) (by omega) rfl rfl rfl rfl rfl rfl rfl (fun r w' hq hl => ?_)
          obtain ⟨rfl, rfl⟩ := hq
          refine J_iload_n (pc := 39) D2_readLevel_39 rfl ?_
          refine J_iconst (pc := 40) (v := (nI 3)) D2_readLevel_40 (by decide) ?_
          refine J_icmp_ne (pc := 41) (tgt := 48) D2_readLevel_41 (by decide) (fun h41 => ?_) (fun h41 => ?_)
          · refine J_bipush (pc := 48) (v := (nI 64)) D2_readLevel_48 (by decide) ?_
            refine J_istore_n (pc := 50) D2_readLevel_50 rfl ?_
            refine J_iconst (pc := 51) (v := (nI 0)) D2_readLevel_51 (by decide) ?_
            refine J_istore (pc := 52) D2_readLevel_52 rfl ?_
            have hl3 : ¬ lv = 3 := fun e => h41 (by rw [e])
            rw [RL, if_pos h4, if_neg hl2, if_neg (by omega), if_neg hl3]
            exact L2_lev54 (d := d0 + 2 * f) hK (fun R hR => (ih (lv + 1) op R hR (fun _ => ⟨by omega, by omega, by omega⟩))) (fun R hR => RL_I hK f (lv + 1) op R hR) (by omega) 64 0 _ (RL_I hK f (lv + 1) op R hI) (by omega)
          · have h41' := eq_true h41
            refine J_iconst (pc := 44) (v := (nI 1)) D2_readLevel_44 (by decide) ?_
            refine J_goto (pc := 45) (tgt := 50) D2_readLevel_45 (by decide) ?_
            refine J_istore_n (pc := 50) D2_readLevel_50 rfl ?_
            refine J_iconst (pc := 51) (v := (nI 0)) D2_readLevel_51 (by decide) ?_
            refine J_istore (pc := 52) D2_readLevel_52 rfl ?_
            have hl3 : lv = 3 := nI_eqI (by omega) (by omega) h41
            rw [RL, if_pos h4, if_neg hl2, if_neg (by omega), if_pos hl3]
            exact L2_lev54 (d := d0 + 2 * f) hK (fun R hR => (ih (lv + 1) op R hR (fun _ => ⟨by omega, by omega, by omega⟩))) (fun R hR => RL_I hK f (lv + 1) op R hR) (by omega) 1 0 _ (RL_I hK f (lv + 1) op R hI) (by omega)
        · have h22' := Int32.not_lt.mp h22
          have hl6 := (nI_leI (by omega) (by omega)).mp h22'
          refine J_aload_n (pc := 25) D2_readLevel_25 rfl ?_
          refine J_iload_n (pc := 26) D2_readLevel_26 rfl ?_
          refine J_callVT (pc := 27) (ac := [.int _]) D2_readLevel_27 m2_readPart_v t679 (c2_readPart (d := d0 + 2 * f) hK (fun R hR hq => (ih 0 (op + 1) R hR (fun q => ⟨by omega, by have := hq q; omega, by have := hq q; omega⟩))) (fun R hR => RL_I hK f 0 (op + 1) R hR) hI (by omega)) (by omega) rfl rfl rfl rfl rfl rfl rfl (fun r w' hq hl => ?_)
          obtain ⟨rfl, rfl⟩ := hq
          refine J_vret (pc := 30) D2_readLevel_30 rfl ?_
          refine ⟨rfl, ?_⟩
          rw [RL, if_pos h4, if_neg hl2, if_pos hl6]
      · have h10' := eq_true h10
        have hl2 : lv = 2 := nI_eqI (by omega) (by omega) h10
        refine J_aload_n (pc := 13) D2_readLevel_13 rfl ?_
        refine J_iload_n (pc := 14) D2_readLevel_14 rfl ?_
        refine J_callVT (pc := 15) (ac := [.int _]) D2_readLevel_15 m2_readNot_v t667 (c2_readNot (d := d0 + 2 * f) hK (fun R hR => (ih 3 op R hR (fun _ => ⟨by omega, by omega, by omega⟩))) (fun R hR => RL_I hK f 3 op R hR) hI) (by omega) rfl rfl rfl rfl rfl rfl rfl (fun r w' hq hl => ?_)
        obtain ⟨rfl, rfl⟩ := hq
        refine J_vret (pc := 18) D2_readLevel_18 rfl ?_
        refine ⟨rfl, ?_⟩
        rw [RL, if_pos h4, if_pos hl2]
    · refine J_vret (pc := 7) D2_readLevel_7 rfl ?_
      refine ⟨rfl, ?_⟩
      rw [RL, if_neg h4]
