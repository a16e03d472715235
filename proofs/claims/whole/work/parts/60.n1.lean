/-! THE MODEL: answers (own program mod_n1.py) -/
/-- nothing but the places for work has changed -/
def PX (s : Nat → Int32) (A : Nat → Nat → Int32) (M : Nat → MR) (s' : Nat → Int32) (A' : Nat → Nat → Int32) (M' : Nat → MR) : Prop := (∀ k, k ≠ 0 → k ≠ 35 → k ≠ 51 → k ≠ 52 → k ≠ 53 → k ≠ 55 → s' k = s k) ∧ (∀ k, k ≠ 49 → k ≠ 50 → k ≠ 54 → k ≠ 56 → k ≠ 63 → A' k = A k) ∧ ∀ i, i ≠ 1 → M' i = M i
theorem PX.rf {s : Nat → Int32} {A : Nat → Nat → Int32} {M : Nat → MR} : PX s A M s A M := ⟨fun _ _ _ _ _ _ _ => rfl, fun _ _ _ _ _ _ => rfl, fun _ _ => rfl⟩
theorem PX.tr {s s' s'' : Nat → Int32} {A A' A'' : Nat → Nat → Int32} {M M' M'' : Nat → MR} (h : PX s A M s' A' M') (h' : PX s' A' M' s'' A'' M'') : PX s A M s'' A'' M'' := ⟨fun k a b c d e f => (h'.1 k a b c d e f).trans (h.1 k a b c d e f), fun k a b c d e => (h'.2.1 k a b c d e).trans (h.2.1 k a b c d e), fun i hi => (h'.2.2 i hi).trans (h.2.2 i hi)⟩
theorem PX.s0 {s : Nat → Int32} {A : Nat → Nat → Int32} {M : Nat → MR} {x : Int32} : PX s A M (updI s 0 x) A M := ⟨fun k a _ _ _ _ _ => updI_n a, fun _ _ _ _ _ _ => rfl, fun _ _ => rfl⟩
theorem PX.sc {s s' : Nat → Int32} {A A' : Nat → Nat → Int32} {M M' : Nat → MR} (h : SC s A s' A') (hM : ∀ i, i ≠ 1 → M' i = M i) : PX s A M s' A' M' := ⟨fun k _ b _ _ _ _ => h.1 k b, fun k a _ _ _ _ => h.2 k a, hM⟩
theorem RT.a20 {A A' : Nat → Nat → Int32} {T : TV} {np nb nn : Nat} (h : RT A T np nb nn) (e : ∀ k, k < 20 → A' k = A k) : RT A' T np nb nn := by
  have hL : ∀ k, k < 3 → LR A' T k := fun k hk => by
    have := h.2.2.2.2.2.2.2.2.2.1 k hk
    unfold LR at this ⊢
    rw [e 16 (by decide), e 17 (by decide), e 18 (by decide), e 19 (by decide)]
    exact this
  unfold RT
  rw [e 3 (by decide), e 4 (by decide), e 5 (by decide), e 6 (by decide), e 7 (by decide), e 8 (by decide), e 9 (by decide), e 10 (by decide), e 11 (by decide), e 12 (by decide), e 13 (by decide), e 14 (by decide), e 15 (by decide)]
  obtain ⟨h1, h2, h3, h4, h5, h6, h7, h8, h9, -, h10⟩ := h
  exact ⟨h1, h2, h3, h4, h5, h6, h7, h8, h9, hL, h10⟩
theorem PX.rt {s s' : Nat → Int32} {A A' : Nat → Nat → Int32} {M M' : Nat → MR} {T : TV} {np nb nn : Nat} (h : PX s A M s' A' M') (hR : RT A T np nb nn) : RT A' T np nb nn := hR.a20 (fun k hk => h.2.1 k (by omega) (by omega) (by omega) (by omega) (by omega))
/-- an answer, with nothing changed -/
def mR (s : Nat → Int32) (A : Nat → Nat → Int32) (M : Nat → MR) (v : Value) : Option Value → List EC → Prop := fun r w' => r = some v ∧ ∃ s' A' L' M', w' = modW s' A' L' M' ∧ PX s A M s' A' M'
theorem mR.tr {s s' : Nat → Int32} {A A' : Nat → Nat → Int32} {M M' : Nat → MR} {v : Value} (h : PX s A M s' A' M') : ∀ r w', mR s' A' M' v r w' → mR s A M v r w' := by
  rintro r w' ⟨e, s2, A2, L2, M2, e2, h2⟩
  exact ⟨e, s2, A2, L2, M2, e2, h.tr h2⟩
theorem or0 (x : Int32) : x ||| nI 0 = x := Int32.or_zero
theorem ad0 (x : Int32) : x + nI 0 = x := Int32.add_zero x
theorem and1 (x : Int32) : x &&& nI 1 = 0 ∨ x &&& nI 1 = nI 1 := by
  have h : (x.toBitVec &&& 1#32) = 0#32 ∨ (x.toBitVec &&& 1#32) = 1#32 := by
    have : (x.toBitVec &&& 1#32).toNat = x.toBitVec.toNat % 2 := by
      rw [BitVec.toNat_and]
      exact Nat.and_one_is_mod _
    rcases Nat.mod_two_eq_zero_or_one x.toBitVec.toNat with h | h
    · exact Or.inl (BitVec.eq_of_toNat_eq (by rw [this, h]; rfl))
    · exact Or.inr (BitVec.eq_of_toNat_eq (by rw [this, h]; rfl))
  exact h.imp (fun e => Int32.toBitVec_inj.mp e) (fun e => Int32.toBitVec_inj.mp e)
theorem plL_c {f g : Nat → Int32} {x : Int32} : ∀ (n i : Nat), (∀ j, i ≤ j → j < i + n → f j = g j) → plL f x n i = plL g x n i
  | 0, _, _ => rfl
  | n + 1, i, h => by
    rw [plL, plL, h i (by omega) (by omega), plL_c n (i + 1) (fun j h1 h2 => h j (by omega) (by omega))]
theorem L10_found {d N fr n : Nat} {f : Nat → Int32} {x : Int32} (hN : Nat.blt N 2147483648 = true) (hn : fr + n ≤ N) : ∀ (g k : Nat), k + g = n → J m10_found d 0 0 1 3 [(0, .ref 0), (1, .int (nI fr)), (2, .int (nI n)), (3, .int x), (4, .int (nI k))] [] [iA N f] 0 0 (fun r w' => w' = [iA N f] ∧ r = some (.int (wkI (plL (fun j => f (fr + j)) x g k)))) := by
  have hN2 : N < 2147483648 := Nat.le_of_ble_eq_true hN
  intro g
  induction g with
  | zero =>
    intro k hk
    refine J_iload (pc := 3) D10_found_3 rfl ?_
    refine J_iload_n (pc := 5) D10_found_5 rfl ?_
    refine J_icmp_ge (pc := 6) (tgt := 28) D10_found_6 (by decide) (fun h6 => ?_) (fun h6 => absurd (nI_le (by omega) (by omega)) h6)
    refine J_iconst (pc := 28) (v := (-1)) D10_found_28 (by decide) ?_
    refine J_iret (pc := 29) D10_found_29 rfl ?_
    exact ⟨rfl, rfl⟩
  | succ g ih =>
    intro k hk
    refine J_iload (pc := 3) D10_found_3 rfl ?_
    refine J_iload_n (pc := 5) D10_found_5 rfl ?_
    refine J_icmp_ge (pc := 6) (tgt := 28) D10_found_6 (by decide) (fun h6 => absurd h6 (nI_ge (by omega) (by omega))) (fun h6 => ?_)
    refine J_aload_n (pc := 9) D10_found_9 rfl ?_
    refine J_iload_n (pc := 10) D10_found_10 rfl ?_
    refine J_iload (pc := 11) D10_found_11 rfl ?_
    refine J_iadd (pc := 13) D10_found_13 ?_
    refine J_iald (pc := 14) D10_found_14 rfl (nI_add fr k) (by omega) hN ?_
    refine J_iload_n (pc := 15) D10_found_15 rfl ?_
    refine J_icmp_ne (pc := 16) (tgt := 22) D10_found_16 (by decide) (fun h16 => ?_) (fun h16 => ?_)
    · refine J_iinc (pc := 22) D10_found_22 rfl (nI_inc _) rfl ?_
      refine J_goto (pc := 25) (tgt := 3) D10_found_25 (by decide) ?_
      rw [plL, if_neg h16]
      exact ih (k + 1) (by omega)
    · have h16' := eq_true h16
      refine J_iload (pc := 19) D10_found_19 rfl ?_
      refine J_iret (pc := 21) D10_found_21 rfl ?_
      exact ⟨rfl, by rw [plL, if_pos h16]; rfl⟩
theorem c10_found {d N fr n : Nat} {f : Nat → Int32} {x : Int32} (hN : Nat.blt N 2147483648 = true) (hn : fr + n ≤ N) : TR d m10_found [.ref 0, .int (nI fr), .int (nI n), .int x] [iA N f] (.int (wkI (plL (fun j => f (fr + j)) x n 0))) := by
  refine Tr.intro (by decide) rfl ?_
  refine J_iconst (pc := 0) (v := (nI 0)) D10_found_0 (by decide) ?_
  refine J_istore (pc := 1) D10_found_1 rfl ?_
  exact L10_found hN hn n 0 (by omega)
theorem c10_named {d : Nat} {s : Nat → Int32} {A : Nat → Nat → Int32} {L : LL} {M : Nat → MR} {T : TV} {np nb nn : Nat} (hR : RT A T np nb nn) (hT : WT T np nb nn) {V : CV} (hC : CR False np nb nn (M 0) V) {w x : Int32} : Tr (d + 1) 0 0 m10_named [.ref 0, .int w, .int x] (modW s A L M) (mR s A M (.int (namF T np nb w x))) := by
  have hnb := hT.2.2.2.2.1
  have hnp := hT.2.2.2.1
  have hnn := hT.2.2.2.2.2.1
  have q0 : plL (fun j => A 4 (0 + j)) x np 0 = plL (T.2.1 1) x np 0 := plL_c np 0 (fun j _ h => by rw [Nat.zero_add]; exact (hR.2.2.2.2.2.2.1 j (by omega)).1)
  have q1 : plL (fun j => A 6 (0 + j)) x nb 0 = plL (T.2.1 4) x nb 0 := plL_c nb 0 (fun j _ h => by rw [Nat.zero_add]; exact (hR.2.2.2.2.2.2.2.1 j (by omega)).1)
  by_cases e0 : w = nI 0
  · subst e0
    refine Tr.intro (by decide) rfl ?_
    refine J_aload_n (pc := 0) D10_named_0 rfl ?_
    refine J_iconst (pc := 1) (v := (nI 0)) D10_named_1 (by decide) ?_
    refine J_mput (pc := 2) D10_named_2 fp10_139 ms_0 ?_
    refine J_iload_n (pc := 5) D10_named_5 rfl ?_
    refine J_lsw (pc := 6) (off := 26) (tgt := 32) D10_named_6 (by decide) (by decide) (by decide) ?_
    refine J_aload_n (pc := 32) D10_named_32 rfl ?_
    refine J_getf (pc := 33) D10_named_33 fl10_16 rfl rfl ?_
    refine J_iconst (pc := 36) (v := (nI 0)) D10_named_36 (by decide) ?_
    refine J_aload_n (pc := 37) D10_named_37 rfl ?_
    refine J_getf (pc := 38) D10_named_38 fl10_13 rfl rfl ?_
    refine J_iconst (pc := 41) (v := (nI 0)) D10_named_41 (by decide) ?_
    refine J_mald (pc := 42) D10_named_42 ma_3 rfl (by omega) rfl ?_
    rw [hR.1]
    refine J_iload_n (pc := 43) D10_named_43 rfl ?_
    refine J_callSR (pc := 44) (ι := [3]) (ac := [.ref 0, .int _, .int _, .int _]) D10_named_44 m10_found_s t1485 (c10_found (d := d) (N := 10) (fr := 0) (n := np) (f := A 4) rfl (by omega)) (by omega) ⟨rfl, rfl⟩ rfl rfl (fun _ => rfl) rfl rfl rfl ?_
    refine J_iret (pc := 47) D10_named_47 rfl ?_
    exact ⟨congrArg (fun q => some (Value.int q)) (by rw [q0]; rfl), _, _, _, _, rfl, PX.s0⟩
  · by_cases e1 : w = nI 1
    · subst e1
      refine Tr.intro (by decide) rfl ?_
      refine J_aload_n (pc := 0) D10_named_0 rfl ?_
      refine J_iconst (pc := 1) (v := (nI 0)) D10_named_1 (by decide) ?_
      refine J_mput (pc := 2) D10_named_2 fp10_139 ms_0 ?_
      refine J_iload_n (pc := 5) D10_named_5 rfl ?_
      refine J_lsw (pc := 6) (off := 42) (tgt := 48) D10_named_6 (by decide) (by decide) (by decide) ?_
      refine J_aload_n (pc := 48) D10_named_48 rfl ?_
      refine J_getf (pc := 49) D10_named_49 fl10_22 rfl rfl ?_
      refine J_iconst (pc := 52) (v := (nI 0)) D10_named_52 (by decide) ?_
      refine J_aload_n (pc := 53) D10_named_53 rfl ?_
      refine J_getf (pc := 54) D10_named_54 fl10_13 rfl rfl ?_
      refine J_iconst (pc := 57) (v := (nI 1)) D10_named_57 (by decide) ?_
      refine J_mald (pc := 58) D10_named_58 ma_3 rfl (by omega) rfl ?_
      rw [hR.2.1]
      refine J_iload_n (pc := 59) D10_named_59 rfl ?_
      refine J_callSR (pc := 60) (ι := [5]) (ac := [.ref 0, .int _, .int _, .int _]) D10_named_60 m10_found_s t1485 (c10_found (d := d) (N := 20) (fr := 0) (n := nb) (f := A 6) rfl (by omega)) (by omega) ⟨rfl, rfl⟩ rfl rfl (fun _ => rfl) rfl rfl rfl ?_
      refine J_iret (pc := 63) D10_named_63 rfl ?_
      exact ⟨congrArg (fun q => some (Value.int q)) (by rw [q1]; rfl), _, _, _, _, rfl, PX.s0⟩
    · have f0 : ¬ (0 : Int) = w.toInt := fun e => e0 (Int32.toInt_inj.mp (e.symm.trans (by rfl)))
      have f1 : ¬ (1 : Int) = w.toInt := fun e => e1 (Int32.toInt_inj.mp (e.symm.trans (by rfl)))
      refine Tr.intro (by decide) rfl ?_
      refine J_aload_n (pc := 0) D10_named_0 rfl ?_
      refine J_iconst (pc := 1) (v := (nI 0)) D10_named_1 (by decide) ?_
      refine J_mput (pc := 2) D10_named_2 fp10_139 ms_0 ?_
      refine J_iload_n (pc := 5) D10_named_5 rfl ?_
      refine J_lsw (pc := 6) (off := 58) (tgt := 64) D10_named_6 (by decide) (by show (if (0 : Int) = w.toInt then _ else if (1 : Int) = w.toInt then _ else _) = _; rw [if_neg f0, if_neg f1]; rfl) (by decide) ?_
      refine J_iconst (pc := 64) (v := (-1)) D10_named_64 (by decide) ?_
      refine J_iret (pc := 65) D10_named_65 rfl ?_
      exact ⟨congrArg (fun q => some (Value.int q)) (by rw [namF, if_neg (show ¬ w = 0 from e0), if_neg e1]), _, _, _, _, rfl, PX.s0⟩
theorem L10_ownSet {d : Nat} {s : Nat → Int32} {A : Nat → Nat → Int32} {L : LL} {M : Nat → MR} {T : TV} {np nb nn : Nat} (hR : RT A T np nb nn) (hT : WT T np nb nn) {V : CV} (hC : CR False np nb nn (M 0) V) {p : Int32} : ∀ (g b : Nat), b + g = nb → J m10_ownSet (d + 1) 0 0 40 4 [(0, .ref 0), (1, .int p), (2, .int (lyB T V p b)), (3, .int (nI b))] [] (modW s A L M) 0 0 (fun r w' => w' = modW s A L M ∧ r = some (.int (lyB T V p nb))) := by
  have hnb := hT.2.2.2.2.1
  have hnp := hT.2.2.2.1
  have hnn := hT.2.2.2.2.2.1
  intro g
  induction g with
  | zero =>
    intro b hb
    have e9 : b = nb := by omega
    refine J_iload_n (pc := 4) D10_ownSet_4 rfl ?_
    refine J_aload_n (pc := 5) D10_ownSet_5 rfl ?_
    refine J_getf (pc := 6) D10_ownSet_6 fl10_13 rfl rfl ?_
    refine J_iconst (pc := 9) (v := (nI 1)) D10_ownSet_9 (by decide) ?_
    refine J_mald (pc := 10) D10_ownSet_10 ma_3 rfl (by omega) rfl ?_
    refine J_st [.int (nI nb), .int (nI b)] (by rw [← hR.2.1]) ?_
    refine J_icmp_ge (pc := 11) (tgt := 49) D10_ownSet_11 (by decide) (fun h11 => ?_) (fun h11 => absurd (nI_le (by omega) (by omega)) h11)
    refine J_iload_n (pc := 49) D10_ownSet_49 rfl ?_
    refine J_iret (pc := 50) D10_ownSet_50 rfl ?_
    exact ⟨rfl, by rw [e9]⟩
  | succ g ih =>
    intro b hb
    have ely := hC.ly (b := b) (by omega)
    have e7 := (hR.2.2.2.2.2.2.2.1 b (by omega)).2.1
    refine J_iload_n (pc := 4) D10_ownSet_4 rfl ?_
    refine J_aload_n (pc := 5) D10_ownSet_5 rfl ?_
    refine J_getf (pc := 6) D10_ownSet_6 fl10_13 rfl rfl ?_
    refine J_iconst (pc := 9) (v := (nI 1)) D10_ownSet_9 (by decide) ?_
    refine J_mald (pc := 10) D10_ownSet_10 ma_3 rfl (by omega) rfl ?_
    refine J_st [.int (nI nb), .int (nI b)] (by rw [← hR.2.1]) ?_
    refine J_icmp_ge (pc := 11) (tgt := 49) D10_ownSet_11 (by decide) (fun h11 => absurd h11 (nI_ge (by omega) (by omega))) (fun h11 => ?_)
    refine J_iload_n (pc := 14) D10_ownSet_14 rfl ?_
    refine J_aload_n (pc := 15) D10_ownSet_15 rfl ?_
    refine J_iconst (pc := 16) (v := (nI 0)) D10_ownSet_16 (by decide) ?_
    refine J_iload_n (pc := 17) D10_ownSet_17 rfl ?_
    refine J_callVTR (pc := 18) (ac := [.int _, .int _]) D10_ownSet_18 m10_isLying_v t1583 (c10_isLying (d := d) (c := 0) (b := b) (by decide) (by omega)) (by omega) rfl rfl rfl rfl (fun _ => rfl) rfl rfl rfl ?_
    refine J_if_eq (pc := 21) (tgt := 40) D10_ownSet_21 (by decide) (fun h21 => ?_) (fun h21 => ?_)
    · have h21' := eq_true h21
      replace h21 := i01_z h21
      refine J_iconst (pc := 40) (v := (nI 0)) D10_ownSet_40 (by decide) ?_
      refine J_ior (pc := 41) D10_ownSet_41 ?_
      refine J_istore_n (pc := 42) D10_ownSet_42 rfl ?_
      refine J_iinc (pc := 43) D10_ownSet_43 rfl (nI_inc _) rfl ?_
      refine J_goto (pc := 46) (tgt := 4) D10_ownSet_46 (by decide) ?_
      refine J_lk [(0, .ref 0), (1, .int p), (2, .int (lyB T V p (b + 1))), (3, .int (nI (b + 1)))] (by rw [lyB, if_neg (fun q => h21 (ely.mpr q.1)), or0]; rfl) ?_
      exact ih (b + 1) (by omega)
    · replace h21 := i01_nz h21
      refine J_aload_n (pc := 24) D10_ownSet_24 rfl ?_
      refine J_getf (pc := 25) D10_ownSet_25 fl10_25 rfl rfl ?_
      refine J_iload_n (pc := 28) D10_ownSet_28 rfl ?_
      refine J_mald (pc := 29) D10_ownSet_29 ma_7 rfl (by omega) rfl ?_
      refine J_iload_n (pc := 30) D10_ownSet_30 rfl ?_
      refine J_icmp_ne (pc := 31) (tgt := 40) D10_ownSet_31 (by decide) (fun h31 => ?_) (fun h31 => ?_)
      · refine J_iconst (pc := 40) (v := (nI 0)) D10_ownSet_40 (by decide) ?_
        refine J_ior (pc := 41) D10_ownSet_41 ?_
        refine J_istore_n (pc := 42) D10_ownSet_42 rfl ?_
        refine J_iinc (pc := 43) D10_ownSet_43 rfl (nI_inc _) rfl ?_
        refine J_goto (pc := 46) (tgt := 4) D10_ownSet_46 (by decide) ?_
        refine J_lk [(0, .ref 0), (1, .int p), (2, .int (lyB T V p (b + 1))), (3, .int (nI (b + 1)))] (by rw [lyB, if_neg (fun q => h31 (e7.trans q.2)), or0]; rfl) ?_
        exact ih (b + 1) (by omega)
      · have h31' := eq_true h31
        refine J_iconst (pc := 34) (v := (nI 1)) D10_ownSet_34 (by decide) ?_
        refine J_iload_n (pc := 35) D10_ownSet_35 rfl ?_
        refine J_ishl (pc := 36) D10_ownSet_36 ?_
        refine J_goto (pc := 37) (tgt := 41) D10_ownSet_37 (by decide) ?_
        refine J_ior (pc := 41) D10_ownSet_41 ?_
        refine J_istore_n (pc := 42) D10_ownSet_42 rfl ?_
        refine J_iinc (pc := 43) D10_ownSet_43 rfl (nI_inc _) rfl ?_
        refine J_goto (pc := 46) (tgt := 4) D10_ownSet_46 (by decide) ?_
        refine J_lk [(0, .ref 0), (1, .int p), (2, .int (lyB T V p (b + 1))), (3, .int (nI (b + 1)))] (by rw [lyB, if_pos ⟨ely.mp h21, e7.symm.trans h31⟩]; rfl) ?_
        exact ih (b + 1) (by omega)
theorem c10_ownSet {d : Nat} {s : Nat → Int32} {A : Nat → Nat → Int32} {L : LL} {M : Nat → MR} {T : TV} {np nb nn : Nat} (hR : RT A T np nb nn) (hT : WT T np nb nn) {V : CV} (hC : CR False np nb nn (M 0) V) {p : Int32} : TR (d + 1) m10_ownSet [.ref 0, .int p] (modW s A L M) (.int (lyB T V p nb)) := by
  refine Tr.intro (by decide) rfl ?_
  refine J_iconst (pc := 0) (v := (nI 0)) D10_ownSet_0 (by decide) ?_
  refine J_istore_n (pc := 1) D10_ownSet_1 rfl ?_
  refine J_iconst (pc := 2) (v := (nI 0)) D10_ownSet_2 (by decide) ?_
  refine J_istore_n (pc := 3) D10_ownSet_3 rfl ?_
  exact L10_ownSet hR hT hC nb 0 (by omega)
theorem L10_bin {d : Nat} {s : Nat → Int32} {A : Nat → Nat → Int32} {L : LL} {M : Nat → MR} {T : TV} {np nb nn : Nat} (hR : RT A T np nb nn) (hT : WT T np nb nn) {V : CV} (hC : CR False np nb nn (M 0) V) {x : Int32} : ∀ (g b : Nat), b + g = nb → J m10_bin (d + 1) 0 0 40 20 [(0, .ref 0), (1, .int x), (2, .int (biB V x b)), (3, .int (nI b))] [] (modW s A L M) 0 0 (fun r w' => w' = modW s A L M ∧ r = some (.int (biB V x nb))) := by
  have hnb := hT.2.2.2.2.1
  have hnp := hT.2.2.2.1
  have hnn := hT.2.2.2.2.2.1
  intro g
  induction g with
  | zero =>
    intro b hb
    have e9 : b = nb := by omega
    refine J_iload_n (pc := 20) D10_bin_20 rfl ?_
    refine J_aload_n (pc := 21) D10_bin_21 rfl ?_
    refine J_getf (pc := 22) D10_bin_22 fl10_13 rfl rfl ?_
    refine J_iconst (pc := 25) (v := (nI 1)) D10_bin_25 (by decide) ?_
    refine J_mald (pc := 26) D10_bin_26 ma_3 rfl (by omega) rfl ?_
    refine J_st [.int (nI nb), .int (nI b)] (by rw [← hR.2.1]) ?_
    refine J_icmp_ge (pc := 27) (tgt := 65) D10_bin_27 (by decide) (fun h27 => ?_) (fun h27 => absurd (nI_le (by omega) (by omega)) h27)
    refine J_iload_n (pc := 65) D10_bin_65 rfl ?_
    refine J_iret (pc := 66) D10_bin_66 rfl ?_
    exact ⟨rfl, by rw [e9]⟩
  | succ g ih =>
    intro b hb
    have ely := hC.ly (b := b) (by omega)
    have e7 := (hC.2.2.2.1 b (by omega)).1
    refine J_iload_n (pc := 20) D10_bin_20 rfl ?_
    refine J_aload_n (pc := 21) D10_bin_21 rfl ?_
    refine J_getf (pc := 22) D10_bin_22 fl10_13 rfl rfl ?_
    refine J_iconst (pc := 25) (v := (nI 1)) D10_bin_25 (by decide) ?_
    refine J_mald (pc := 26) D10_bin_26 ma_3 rfl (by omega) rfl ?_
    refine J_st [.int (nI nb), .int (nI b)] (by rw [← hR.2.1]) ?_
    refine J_icmp_ge (pc := 27) (tgt := 65) D10_bin_27 (by decide) (fun h27 => absurd h27 (nI_ge (by omega) (by omega))) (fun h27 => ?_)
    refine J_iload_n (pc := 30) D10_bin_30 rfl ?_
    refine J_aload_n (pc := 31) D10_bin_31 rfl ?_
    refine J_iconst (pc := 32) (v := (nI 0)) D10_bin_32 (by decide) ?_
    refine J_iload_n (pc := 33) D10_bin_33 rfl ?_
    refine J_callVTR (pc := 34) (ac := [.int _, .int _]) D10_bin_34 m10_isLying_v t1583 (c10_isLying (d := d) (c := 0) (b := b) (by decide) (by omega)) (by omega) rfl rfl rfl rfl (fun _ => rfl) rfl rfl rfl ?_
    refine J_if_eq (pc := 37) (tgt := 56) D10_bin_37 (by decide) (fun h37 => ?_) (fun h37 => ?_)
    · have h37' := eq_true h37
      replace h37 := i01_z h37
      refine J_iconst (pc := 56) (v := (nI 0)) D10_bin_56 (by decide) ?_
      refine J_ior (pc := 57) D10_bin_57 ?_
      refine J_istore_n (pc := 58) D10_bin_58 rfl ?_
      refine J_iinc (pc := 59) D10_bin_59 rfl (nI_inc _) rfl ?_
      refine J_goto (pc := 62) (tgt := 20) D10_bin_62 (by decide) ?_
      refine J_lk [(0, .ref 0), (1, .int x), (2, .int (biB V x (b + 1))), (3, .int (nI (b + 1)))] (by rw [biB, if_neg (fun q => h37 (ely.mpr q.1)), or0]; rfl) ?_
      exact ih (b + 1) (by omega)
    · replace h37 := i01_nz h37
      refine J_aload_n (pc := 40) D10_bin_40 rfl ?_
      refine J_getf (pc := 41) D10_bin_41 fl10_93 rfl rfl ?_
      refine J_iload_n (pc := 44) D10_bin_44 rfl ?_
      refine J_mcld (pc := 45) (stp := 10) D10_bin_45 mc_0 (ix0 _ _) (by omega) (by omega) rfl ?_
      refine J_iload_n (pc := 46) D10_bin_46 rfl ?_
      refine J_icmp_ne (pc := 47) (tgt := 56) D10_bin_47 (by decide) (fun h47 => ?_) (fun h47 => ?_)
      · refine J_iconst (pc := 56) (v := (nI 0)) D10_bin_56 (by decide) ?_
        refine J_ior (pc := 57) D10_bin_57 ?_
        refine J_istore_n (pc := 58) D10_bin_58 rfl ?_
        refine J_iinc (pc := 59) D10_bin_59 rfl (nI_inc _) rfl ?_
        refine J_goto (pc := 62) (tgt := 20) D10_bin_62 (by decide) ?_
        refine J_lk [(0, .ref 0), (1, .int x), (2, .int (biB V x (b + 1))), (3, .int (nI (b + 1)))] (by rw [biB, if_neg (fun q => h47 (e7.trans q.2)), or0]; rfl) ?_
        exact ih (b + 1) (by omega)
      · have h47' := eq_true h47
        refine J_iconst (pc := 50) (v := (nI 1)) D10_bin_50 (by decide) ?_
        refine J_iload_n (pc := 51) D10_bin_51 rfl ?_
        refine J_ishl (pc := 52) D10_bin_52 ?_
        refine J_goto (pc := 53) (tgt := 57) D10_bin_53 (by decide) ?_
        refine J_ior (pc := 57) D10_bin_57 ?_
        refine J_istore_n (pc := 58) D10_bin_58 rfl ?_
        refine J_iinc (pc := 59) D10_bin_59 rfl (nI_inc _) rfl ?_
        refine J_goto (pc := 62) (tgt := 20) D10_bin_62 (by decide) ?_
        refine J_lk [(0, .ref 0), (1, .int x), (2, .int (biB V x (b + 1))), (3, .int (nI (b + 1)))] (by rw [biB, if_pos ⟨ely.mp h37, e7.symm.trans h47⟩]; rfl) ?_
        exact ih (b + 1) (by omega)
theorem c10_bin {d : Nat} {s : Nat → Int32} {A : Nat → Nat → Int32} {L : LL} {M : Nat → MR} {T : TV} {np nb nn : Nat} (hR : RT A T np nb nn) (hT : WT T np nb nn) {V : CV} (hC : CR False np nb nn (M 0) V) {x : Int32} : Tr (d + 1) 0 0 m10_bin [.ref 0, .int x] (modW s A L M) (mR s A M (.int (binF V nb x))) := by
  refine Tr.intro (by decide) rfl ?_
  refine J_aload_n (pc := 0) D10_bin_0 rfl ?_
  refine J_iconst (pc := 1) (v := (nI 0)) D10_bin_1 (by decide) ?_
  refine J_mput (pc := 2) D10_bin_2 fp10_139 ms_0 ?_
  refine J_iload_n (pc := 5) D10_bin_5 rfl ?_
  refine J_if_lt (pc := 6) (tgt := 14) D10_bin_6 (by decide) (fun h6 => ?_) (fun h6 => ?_)
  · have h6' := Int32.not_le.mpr h6
    refine J_iconst (pc := 14) (v := (-1)) D10_bin_14 (by decide) ?_
    refine J_iret (pc := 15) D10_bin_15 rfl ?_
    exact ⟨congrArg (fun q => some (Value.int q)) (by rw [binF, if_neg (ixB_0 h6)]), _, _, _, _, rfl, PX.s0⟩
  · have h6' := Int32.not_lt.mp h6
    refine J_iload_n (pc := 9) D10_bin_9 rfl ?_
    refine J_iconst (pc := 10) (v := (nI 5)) D10_bin_10 (by decide) ?_
    refine J_icmp_le (pc := 11) (tgt := 16) D10_bin_11 (by decide) (fun h11 => ?_) (fun h11 => ?_)
    · have h11' := Int32.not_lt.mpr h11
      refine J_iconst (pc := 16) (v := (nI 0)) D10_bin_16 (by decide) ?_
      refine J_istore_n (pc := 17) D10_bin_17 rfl ?_
      refine J_iconst (pc := 18) (v := (nI 0)) D10_bin_18 (by decide) ?_
      refine J_istore_n (pc := 19) D10_bin_19 rfl ?_
      refine J_mono (L10_bin (s := updI s 0 (nI 0)) hR hT hC nb 0 (by omega)) ?_
      rintro r w' ⟨rfl, rfl⟩
      exact ⟨congrArg (fun q => some (Value.int q)) (by rw [binF, if_pos (ixB_in (n := 5) (by decide) h6 h11)]), _, _, _, _, rfl, PX.s0⟩
    · have h11' := Int32.not_le.mp h11
      refine J_iconst (pc := 14) (v := (-1)) D10_bin_14 (by decide) ?_
      refine J_iret (pc := 15) D10_bin_15 rfl ?_
      exact ⟨congrArg (fun q => some (Value.int q)) (by rw [binF, if_neg (ixB_gt (n := 5) (by decide) h11')]), _, _, _, _, rfl, PX.s0⟩
theorem L10_forceIn {d : Nat} {s : Nat → Int32} {A : Nat → Nat → Int32} {L : LL} {M : Nat → MR} {T : TV} {np nb nn : Nat} (hR : RT A T np nb nn) (hT : WT T np nb nn) {V : CV} (hC : CR False np nb nn (M 0) V) {x : Int32} : ∀ (g b : Nat), b + g = nb → J m10_forceIn (d) 0 0 40 4 [(0, .ref 0), (1, .int x), (2, .int (foS V x b)), (3, .int (nI b))] [] (modW s A L M) 0 0 (fun r w' => w' = modW s A L M ∧ r = some (.int (foS V x nb))) := by
  have hnb := hT.2.2.2.2.1
  have hnp := hT.2.2.2.1
  have hnn := hT.2.2.2.2.2.1
  intro g
  induction g with
  | zero =>
    intro b hb
    have e9 : b = nb := by omega
    refine J_iload_n (pc := 4) D10_forceIn_4 rfl ?_
    refine J_aload_n (pc := 5) D10_forceIn_5 rfl ?_
    refine J_getf (pc := 6) D10_forceIn_6 fl10_13 rfl rfl ?_
    refine J_iconst (pc := 9) (v := (nI 1)) D10_forceIn_9 (by decide) ?_
    refine J_mald (pc := 10) D10_forceIn_10 ma_3 rfl (by omega) rfl ?_
    refine J_st [.int (nI nb), .int (nI b)] (by rw [← hR.2.1]) ?_
    refine J_icmp_ge (pc := 11) (tgt := 42) D10_forceIn_11 (by decide) (fun h11 => ?_) (fun h11 => absurd (nI_le (by omega) (by omega)) h11)
    refine J_iload_n (pc := 42) D10_forceIn_42 rfl ?_
    refine J_iret (pc := 43) D10_forceIn_43 rfl ?_
    exact ⟨rfl, by rw [e9]⟩
  | succ g ih =>
    intro b hb
    have e1 := (hC.2.2.2.1 b (by omega)).2.1
    refine J_iload_n (pc := 4) D10_forceIn_4 rfl ?_
    refine J_aload_n (pc := 5) D10_forceIn_5 rfl ?_
    refine J_getf (pc := 6) D10_forceIn_6 fl10_13 rfl rfl ?_
    refine J_iconst (pc := 9) (v := (nI 1)) D10_forceIn_9 (by decide) ?_
    refine J_mald (pc := 10) D10_forceIn_10 ma_3 rfl (by omega) rfl ?_
    refine J_st [.int (nI nb), .int (nI b)] (by rw [← hR.2.1]) ?_
    refine J_icmp_ge (pc := 11) (tgt := 42) D10_forceIn_11 (by decide) (fun h11 => absurd h11 (nI_ge (by omega) (by omega))) (fun h11 => ?_)
    refine J_iload_n (pc := 14) D10_forceIn_14 rfl ?_
    refine J_iload_n (pc := 15) D10_forceIn_15 rfl ?_
    refine J_iload_n (pc := 16) D10_forceIn_16 rfl ?_
    refine J_ishr (pc := 17) D10_forceIn_17 ?_
    refine J_iconst (pc := 18) (v := (nI 1)) D10_forceIn_18 (by decide) ?_
    refine J_iand (pc := 19) D10_forceIn_19 ?_
    refine J_iconst (pc := 20) (v := (nI 1)) D10_forceIn_20 (by decide) ?_
    refine J_icmp_ne (pc := 21) (tgt := 33) D10_forceIn_21 (by decide) (fun h21 => ?_) (fun h21 => ?_)
    · refine J_iconst (pc := 33) (v := (nI 0)) D10_forceIn_33 (by decide) ?_
      refine J_iadd (pc := 34) D10_forceIn_34 ?_
      refine J_istore_n (pc := 35) D10_forceIn_35 rfl ?_
      refine J_iinc (pc := 36) D10_forceIn_36 rfl (nI_inc _) rfl ?_
      refine J_goto (pc := 39) (tgt := 4) D10_forceIn_39 (by decide) ?_
      refine J_lk [(0, .ref 0), (1, .int x), (2, .int (foS V x (b + 1))), (3, .int (nI (b + 1)))] (by rw [foS, if_pos ((and1 _).resolve_right h21), ad0]; rfl) ?_
      exact ih (b + 1) (by omega)
    · have h21' := eq_true h21
      refine J_aload_n (pc := 24) D10_forceIn_24 rfl ?_
      refine J_getf (pc := 25) D10_forceIn_25 fl10_87 rfl rfl ?_
      refine J_iload_n (pc := 28) D10_forceIn_28 rfl ?_
      refine J_mcld (pc := 29) (stp := 10) D10_forceIn_29 mc_1 (ix0 _ _) (by omega) (by omega) rfl ?_
      refine J_goto (pc := 30) (tgt := 34) D10_forceIn_30 (by decide) ?_
      refine J_iadd (pc := 34) D10_forceIn_34 ?_
      refine J_istore_n (pc := 35) D10_forceIn_35 rfl ?_
      refine J_iinc (pc := 36) D10_forceIn_36 rfl (nI_inc _) rfl ?_
      refine J_goto (pc := 39) (tgt := 4) D10_forceIn_39 (by decide) ?_
      refine J_lk [(0, .ref 0), (1, .int x), (2, .int (foS V x (b + 1))), (3, .int (nI (b + 1)))] (by rw [foS, if_neg (fun q => absurd (h21.symm.trans q) (by decide)), ← e1]; rfl) ?_
      exact ih (b + 1) (by omega)
theorem c10_forceIn {d : Nat} {s : Nat → Int32} {A : Nat → Nat → Int32} {L : LL} {M : Nat → MR} {T : TV} {np nb nn : Nat} (hR : RT A T np nb nn) (hT : WT T np nb nn) {V : CV} (hC : CR False np nb nn (M 0) V) {x : Int32} : TR d m10_forceIn [.ref 0, .int x] (modW s A L M) (.int (foS V x nb)) := by
  refine Tr.intro (by decide) rfl ?_
  refine J_iconst (pc := 0) (v := (nI 0)) D10_forceIn_0 (by decide) ?_
  refine J_istore_n (pc := 1) D10_forceIn_1 rfl ?_
  refine J_iconst (pc := 2) (v := (nI 0)) D10_forceIn_2 (by decide) ?_
  refine J_istore_n (pc := 3) D10_forceIn_3 rfl ?_
  exact L10_forceIn hR hT hC nb 0 (by omega)
def bsF (x : Int32) : Nat → Int32
  | 0 => nI 0
  | n + 1 => bsF x n + ((x >>> (nI n &&& 31)) &&& nI 1)
theorem L10_bitsOf {d : Nat} {x : Int32} : ∀ (g b : Nat), b + g = 10 → J m10_bitsOf d 0 0 0 4 [(0, .int x), (1, .int (bsF x b)), (2, .int (nI b))] [] [] 0 0 (fun r w' => w' = [] ∧ r = some (.int (bsF x 10))) := by
  intro g
  induction g with
  | zero =>
    intro b hb
    have e9 : b = 10 := by omega
    refine J_iload_n (pc := 4) D10_bitsOf_4 rfl ?_
    refine J_bipush (pc := 5) (v := (nI 10)) D10_bitsOf_5 (by decide) ?_
    refine J_icmp_ge (pc := 7) (tgt := 24) D10_bitsOf_7 (by decide) (fun h7 => ?_) (fun h7 => absurd (nI_le (by omega) (by omega)) h7)
    refine J_iload_n (pc := 24) D10_bitsOf_24 rfl ?_
    refine J_iret (pc := 25) D10_bitsOf_25 rfl ?_
    exact ⟨rfl, by rw [e9]⟩
  | succ g ih =>
    intro b hb
    refine J_iload_n (pc := 4) D10_bitsOf_4 rfl ?_
    refine J_bipush (pc := 5) (v := (nI 10)) D10_bitsOf_5 (by decide) ?_
    refine J_icmp_ge (pc := 7) (tgt := 24) D10_bitsOf_7 (by decide) (fun h7 => absurd h7 (nI_ge (by omega) (by omega))) (fun h7 => ?_)
    refine J_iload_n (pc := 10) D10_bitsOf_10 rfl ?_
    refine J_iload_n (pc := 11) D10_bitsOf_11 rfl ?_
    refine J_iload_n (pc := 12) D10_bitsOf_12 rfl ?_
    refine J_ishr (pc := 13) D10_bitsOf_13 ?_
    refine J_iconst (pc := 14) (v := (nI 1)) D10_bitsOf_14 (by decide) ?_
    refine J_iand (pc := 15) D10_bitsOf_15 ?_
    refine J_iadd (pc := 16) D10_bitsOf_16 ?_
    refine J_istore_n (pc := 17) D10_bitsOf_17 rfl ?_
    refine J_iinc (pc := 18) D10_bitsOf_18 rfl (nI_inc _) rfl ?_
    refine J_goto (pc := 21) (tgt := 4) D10_bitsOf_21 (by decide) ?_
    exact ih (b + 1) (by omega)
theorem c10_bitsOf {d : Nat} {x : Int32} : TR d m10_bitsOf [.int x] [] (.int (bsF x 10)) := by
  refine Tr.intro (by decide) rfl ?_
  refine J_iconst (pc := 0) (v := (nI 0)) D10_bitsOf_0 (by decide) ?_
  refine J_istore_n (pc := 1) D10_bitsOf_1 rfl ?_
  refine J_iconst (pc := 2) (v := (nI 0)) D10_bitsOf_2 (by decide) ?_
  refine J_istore_n (pc := 3) D10_bitsOf_3 rfl ?_
  exact L10_bitsOf 10 0 (by omega)
theorem bc_bs : ∀ a, a < 1024 → bcnt (nI a) = bsF (nI a) 10 := by decide +kernel
theorem c10_man {d : Nat} {s : Nat → Int32} {A : Nat → Nat → Int32} {L : LL} {M : Nat → MR} {T : TV} {np nb nn : Nat} (hR : RT A T np nb nn) (hT : WT T np nb nn) {V : CV} (hC : CR False np nb nn (M 0) V) {x w : Int32} : Tr (d + 2) 0 0 m10_man [.ref 0, .int x, .int w] (modW s A L M) (mR s A M (.int (manF T V np nb x w))) := by
  have hnb := hT.2.2.2.2.1
  have hnp := hT.2.2.2.1
  have hnn := hT.2.2.2.2.2.1
  refine Tr.intro (by decide) rfl ?_
  refine J_aload_n (pc := 0) D10_man_0 rfl ?_
  refine J_iconst (pc := 1) (v := (nI 0)) D10_man_1 (by decide) ?_
  refine J_mput (pc := 2) D10_man_2 fp10_139 ms_0 ?_
  refine J_aload_n (pc := 5) D10_man_5 rfl ?_
  refine J_iload_n (pc := 6) D10_man_6 rfl ?_
  refine J_callVTR (pc := 7) (ac := [.int _]) D10_man_7 m10_isMan_v t1575 (c10_isMan (d := d) hR) (by omega) rfl rfl rfl rfl (fun _ => rfl) rfl rfl rfl ?_
  refine J_if_ne (pc := 10) (tgt := 15) D10_man_10 (by decide) (fun h10 => ?_) (fun h10 => ?_)
  · replace h10 := i01_nz h10
    obtain ⟨x1, hx1, rfl⟩ := ixB_t h10 (by omega)
    refine J_iload_n (pc := 15) D10_man_15 rfl ?_
    refine J_tsw (pc := 16) 0 [48, 55, 64, 74] 81 D10_man_16 (by decide) (by decide) rfl (by decide) (by decide) (fun j hj h16 => ?_) (fun h16 => ?_)
    · have hj16 : j = 0 ∨ j = 1 ∨ j = 2 ∨ j = 3 := by have hj2 : j < 4 := hj; omega
      clear hj
      rcases hj16 with rfl | rfl | rfl | rfl
      · refine J_aload_n (pc := 48) D10_man_48 rfl ?_
        refine J_getf (pc := 49) D10_man_49 fl10_19 rfl rfl ?_
        refine J_iload_n (pc := 52) D10_man_52 rfl ?_
        refine J_mald (pc := 53) D10_man_53 ma_5 rfl (by omega) rfl ?_
        refine J_iret (pc := 54) D10_man_54 rfl ?_
        subst h16
        exact ⟨congrArg (fun q => some (Value.int q)) (by rw [manF, if_pos h10]; exact (hR.2.2.2.2.2.2.1 x1 hx1).2.trans (by show _ = T.2.1 2 (nI x1).toNatClampNeg; rw [nI_clamp (by omega)])), _, _, _, _, rfl, PX.s0⟩
      · refine J_aload_n (pc := 55) D10_man_55 rfl ?_
        refine J_iload_n (pc := 56) D10_man_56 rfl ?_
        refine J_callVTR (pc := 57) (ac := [.int _]) D10_man_57 m10_ownSet_v t1579 (c10_ownSet (d := d) hR hT hC) (by omega) rfl rfl rfl rfl (fun _ => rfl) rfl rfl rfl ?_
        refine J_callSR (pc := 60) (ι := []) (ac := [.int _]) D10_man_60 m10_bitsOf_s t1587 (c10_bitsOf (d := d)) (by omega) ⟨rfl, rfl⟩ rfl rfl (fun _ => rfl) rfl rfl rfl ?_
        refine J_iret (pc := 63) D10_man_63 rfl ?_
        subst h16
        exact ⟨congrArg (fun q => some (Value.int q)) (by rw [manF, if_pos h10]; exact (by obtain ⟨a9, h9, e9⟩ := lyB_lt (T := T) (V := V) (p := nI x1) nb hnb; show _ = bcnt _; rw [e9]; exact (bc_bs a9 (Nat.lt_of_lt_of_le h9 (Nat.pow_le_pow_right (n := 2) (by omega) hnb))).symm)), _, _, _, _, rfl, PX.s0⟩
      · refine J_aload_n (pc := 64) D10_man_64 rfl ?_
        refine J_aload_n (pc := 65) D10_man_65 rfl ?_
        refine J_iload_n (pc := 66) D10_man_66 rfl ?_
        refine J_callVTR (pc := 67) (ac := [.int _]) D10_man_67 m10_ownSet_v t1579 (c10_ownSet (d := d) hR hT hC) (by omega) rfl rfl rfl rfl (fun _ => rfl) rfl rfl rfl ?_
        refine J_callVTR (pc := 70) (ac := [.int _]) D10_man_70 m10_forceIn_v t1590 (c10_forceIn (d := d) hR hT hC) (by omega) rfl rfl rfl rfl (fun _ => rfl) rfl rfl rfl ?_
        refine J_iret (pc := 73) D10_man_73 rfl ?_
        subst h16
        exact ⟨congrArg (fun q => some (Value.int q)) (by rw [manF, if_pos h10]; exact rfl), _, _, _, _, rfl, PX.s0⟩
      · refine J_aload_n (pc := 74) D10_man_74 rfl ?_
        refine J_getf (pc := 75) D10_man_75 fl10_84 rfl rfl ?_
        refine J_iload_n (pc := 78) D10_man_78 rfl ?_
        refine J_mcld (pc := 79) (stp := 5) D10_man_79 mc_6 (ix0 _ _) (by omega) (by omega) rfl ?_
        refine J_iret (pc := 80) D10_man_80 rfl ?_
        subst h16
        exact ⟨congrArg (fun q => some (Value.int q)) (by rw [manF, if_pos h10]; exact (hC.2.2.2.2.2.1 x1 (by omega)).trans (by show _ = V.2.2.2 6 (nI x1).toNatClampNeg; rw [nI_clamp (by omega)])), _, _, _, _, rfl, PX.s0⟩
    · refine J_iconst (pc := 81) (v := (-1)) D10_man_81 (by decide) ?_
      refine J_iret (pc := 82) D10_man_82 rfl ?_
      exact ⟨congrArg (fun q => some (Value.int q)) (by rw [manF, if_pos h10, if_neg (h16 0 (by decide)), if_neg (h16 1 (by decide)), if_neg (h16 2 (by decide)), if_neg (h16 3 (by decide))]), _, _, _, _, rfl, PX.s0⟩
  · have h10' := eq_true h10
    replace h10 := i01_z h10
    refine J_iconst (pc := 13) (v := (-1)) D10_man_13 (by decide) ?_
    refine J_iret (pc := 14) D10_man_14 rfl ?_
    exact ⟨congrArg (fun q => some (Value.int q)) (by rw [manF, if_neg h10]), _, _, _, _, rfl, PX.s0⟩
theorem c10_need {d : Nat} {s : Nat → Int32} {A : Nat → Nat → Int32} {L : LL} {M : Nat → MR} {T : TV} {np nb nn : Nat} (hR : RT A T np nb nn) (hT : WT T np nb nn) {V : CV} (hC : CR False np nb nn (M 0) V) {x w : Int32} : Tr (d + 1) 0 0 m10_need [.ref 0, .int x, .int w] (modW s A L M) (mR s A M (.int (nedF T V nn x w))) := by
  have hnb := hT.2.2.2.2.1
  have hnp := hT.2.2.2.1
  have hnn := hT.2.2.2.2.2.1
  refine Tr.intro (by decide) rfl ?_
  refine J_aload_n (pc := 0) D10_need_0 rfl ?_
  refine J_iconst (pc := 1) (v := (nI 0)) D10_need_1 (by decide) ?_
  refine J_mput (pc := 2) D10_need_2 fp10_139 ms_0 ?_
  refine J_aload_n (pc := 5) D10_need_5 rfl ?_
  refine J_iload_n (pc := 6) D10_need_6 rfl ?_
  refine J_callVTR (pc := 7) (ac := [.int _]) D10_need_7 m10_isNeed_v t1598 (c10_isNeed (d := d) hR) (by omega) rfl rfl rfl rfl (fun _ => rfl) rfl rfl rfl ?_
  refine J_if_ne (pc := 10) (tgt := 15) D10_need_10 (by decide) (fun h10 => ?_) (fun h10 => ?_)
  · replace h10 := i01_nz h10
    obtain ⟨x1, hx1, rfl⟩ := ixB_t h10 (by omega)
    refine J_iload_n (pc := 15) D10_need_15 rfl ?_
    refine J_tsw (pc := 16) 0 [52, 59, 66, 73, 80] 87 D10_need_16 (by decide) (by decide) rfl (by decide) (by decide) (fun j hj h16 => ?_) (fun h16 => ?_)
    · have hj16 : j = 0 ∨ j = 1 ∨ j = 2 ∨ j = 3 ∨ j = 4 := by have hj2 : j < 5 := hj; omega
      clear hj
      rcases hj16 with rfl | rfl | rfl | rfl | rfl
      · refine J_aload_n (pc := 52) D10_need_52 rfl ?_
        refine J_getf (pc := 53) D10_need_53 fl10_40 rfl rfl ?_
        refine J_iload_n (pc := 56) D10_need_56 rfl ?_
        refine J_mald (pc := 57) D10_need_57 ma_12 rfl (by omega) rfl ?_
        refine J_iret (pc := 58) D10_need_58 rfl ?_
        subst h16
        exact ⟨congrArg (fun q => some (Value.int q)) (by rw [nedF, if_pos h10]; exact (hR.2.2.2.2.2.2.2.2.1 x1 hx1).1.trans (by show _ = T.2.1 11 (nI x1).toNatClampNeg; rw [nI_clamp (by omega)])), _, _, _, _, rfl, PX.s0⟩
      · refine J_aload_n (pc := 59) D10_need_59 rfl ?_
        refine J_getf (pc := 60) D10_need_60 fl10_43 rfl rfl ?_
        refine J_iload_n (pc := 63) D10_need_63 rfl ?_
        refine J_mald (pc := 64) D10_need_64 ma_13 rfl (by omega) rfl ?_
        refine J_iret (pc := 65) D10_need_65 rfl ?_
        subst h16
        exact ⟨congrArg (fun q => some (Value.int q)) (by rw [nedF, if_pos h10]; exact (hR.2.2.2.2.2.2.2.2.1 x1 hx1).2.1.trans (by show _ = T.2.1 12 (nI x1).toNatClampNeg; rw [nI_clamp (by omega)])), _, _, _, _, rfl, PX.s0⟩
      · refine J_aload_n (pc := 66) D10_need_66 rfl ?_
        refine J_getf (pc := 67) D10_need_67 fl10_46 rfl rfl ?_
        refine J_iload_n (pc := 70) D10_need_70 rfl ?_
        refine J_mald (pc := 71) D10_need_71 ma_14 rfl (by omega) rfl ?_
        refine J_iret (pc := 72) D10_need_72 rfl ?_
        subst h16
        exact ⟨congrArg (fun q => some (Value.int q)) (by rw [nedF, if_pos h10]; exact (hR.2.2.2.2.2.2.2.2.1 x1 hx1).2.2.1.trans (by show _ = T.2.1 13 (nI x1).toNatClampNeg; rw [nI_clamp (by omega)])), _, _, _, _, rfl, PX.s0⟩
      · refine J_aload_n (pc := 73) D10_need_73 rfl ?_
        refine J_getf (pc := 74) D10_need_74 fl10_49 rfl rfl ?_
        refine J_iload_n (pc := 77) D10_need_77 rfl ?_
        refine J_mald (pc := 78) D10_need_78 ma_15 rfl (by omega) rfl ?_
        refine J_iret (pc := 79) D10_need_79 rfl ?_
        subst h16
        exact ⟨congrArg (fun q => some (Value.int q)) (by rw [nedF, if_pos h10]; exact (hR.2.2.2.2.2.2.2.2.1 x1 hx1).2.2.2.trans (by show _ = T.2.1 14 (nI x1).toNatClampNeg; rw [nI_clamp (by omega)])), _, _, _, _, rfl, PX.s0⟩
      · refine J_aload_n (pc := 80) D10_need_80 rfl ?_
        refine J_getf (pc := 81) D10_need_81 fl10_102 rfl rfl ?_
        refine J_iload_n (pc := 84) D10_need_84 rfl ?_
        refine J_mcld (pc := 85) (stp := 8) D10_need_85 mc_5 (ix0 _ _) (by omega) (by omega) rfl ?_
        refine J_iret (pc := 86) D10_need_86 rfl ?_
        subst h16
        exact ⟨congrArg (fun q => some (Value.int q)) (by rw [nedF, if_pos h10]; exact (hC.2.2.2.2.1 x1 (by omega)).trans (by show _ = V.2.2.2 5 (nI x1).toNatClampNeg; rw [nI_clamp (by omega)])), _, _, _, _, rfl, PX.s0⟩
    · refine J_iconst (pc := 87) (v := (-1)) D10_need_87 (by decide) ?_
      refine J_iret (pc := 88) D10_need_88 rfl ?_
      exact ⟨congrArg (fun q => some (Value.int q)) (by rw [nedF, if_pos h10, if_neg (h16 0 (by decide)), if_neg (h16 1 (by decide)), if_neg (h16 2 (by decide)), if_neg (h16 3 (by decide)), if_neg (h16 4 (by decide))]), _, _, _, _, rfl, PX.s0⟩
  · have h10' := eq_true h10
    replace h10 := i01_z h10
    refine J_iconst (pc := 13) (v := (-1)) D10_need_13 (by decide) ?_
    refine J_iret (pc := 14) D10_need_14 rfl ?_
    exact ⟨congrArg (fun q => some (Value.int q)) (by rw [nedF, if_neg h10]), _, _, _, _, rfl, PX.s0⟩
