/-! TEMPERCELLAR: corks (own; walks by program wk.py) -/
theorem beq_ne {a b : Nat} (h : a ≠ b) : Nat.beq a b = false := by
  cases e : Nat.beq a b with
  | false => rfl
  | true => exact absurd (Nat.eq_of_beq_eq_true e) h
theorem laL_0 {T : TV} : ∀ (g b : Nat) (V : CV) (j : Nat), ((j < b ∧ V.2.2.2 0 j = T.2.1 7 j) ∨ (b ≤ j ∧ j < b + g)) → (laL T g b V).2.2.2 0 j = T.2.1 7 j
  | 0, b, V, j, h => by
    rcases h with h | h
    · exact h.2
    · omega
  | g + 1, b, V, j, h => by
    refine laL_0 g (b + 1) (laS T V b) j ?_
    by_cases e : j = b
    · subst e
      exact Or.inl ⟨by omega, pk_us⟩
    · rcases h with h | h
      · exact Or.inl ⟨by omega, (pk_un e).trans h.2⟩
      · exact Or.inr ⟨by omega, by omega⟩
theorem layF_V {T : TV} {np nb nn : Nat} {V : CV} (hT : WT T np nb nn) : WV (layF T nb V) nb := fun b hb => by
  obtain ⟨β, h1, h2⟩ := hT.2.2.2.2.2.2.2.2.2.2 b hb
  exact ⟨β, h1, (laL_0 nb 0 (la0 T V) b (Or.inr ⟨Nat.zero_le _, by omega⟩)).trans h2⟩
def cwL (T : TV) (a : Nat → Nat → Int32) (n nb nn : Nat) : Nat → Nat → CV → Int32
  | 0, _, _ => nI 1
  | g + 1, y, X => if agF a (nI y) (passF T y1 nb nn X) n 0 = 0 then nI 0 else cwL T a n nb nn g (y + 1) (passF T y1 nb nn X)
theorem L9_agr {d np nb nn n : Nat} {tl hi : Int32} {T : TV} {V : CV} {U : UV} {N : NV} (hT : WT T np nb nn) (hn : n ≤ 24) (hB : ∀ i, i < n → N.2.2 7 i = 0 ∨ ∃ b, b < 10 ∧ N.2.2 3 i = nI b) (hk : knF N.1 N.2.1 = nI n) {b L : Nat} {ck : Int32} (hL : L ≤ 60) : ∀ (g y : Nat) (X : CV) (q : Nat → Int32) (k : Nat → Int64), WV X nb → y + g = L + 1 → J m9_agreesWithSeen (d + 6) 0 0 53 40 [(0, .ref 0), (1, .int (nI b)), (2, .int ck), (3, .int (nI L)), (4, .int (nI y))] [] (tcD tl hi T V (X, y1, q, k, 1, 29) U N) 0 0 (fun r w' => r = some (.int (cwL T N.2.2 n nb nn g y X)) ∧ ∃ S', w' = tcD tl hi T V S' U N) := by
  intro g
  induction g with
  | zero =>
    intro y X q k hX hy
    refine J_iload (pc := 40) D9_agreesWithSeen_40 rfl ?_
    refine J_iload_n (pc := 42) D9_agreesWithSeen_42 rfl ?_
    refine J_icmp_gt (pc := 43) (tgt := 77) D9_agreesWithSeen_43 (by decide) (fun h43 => ?_) (fun h43 => absurd (nI_lt (by omega) (by omega)) h43)
    refine J_iconst (pc := 77) (v := (nI 1)) D9_agreesWithSeen_77 (by decide) ?_
    refine J_zret (pc := 78) D9_agreesWithSeen_78 rfl (by decide) ?_
    exact ⟨rfl, _, rfl⟩
  | succ g ih =>
    intro y X q k hX hy
    refine J_iload (pc := 40) D9_agreesWithSeen_40 rfl ?_
    refine J_iload_n (pc := 42) D9_agreesWithSeen_42 rfl ?_
    refine J_icmp_gt (pc := 43) (tgt := 77) D9_agreesWithSeen_43 (by decide) (fun h43 => absurd h43 (Int32.not_lt.mpr (nI_le (by omega) (by omega)))) (fun h43 => ?_)
    refine J_aload_n (pc := 46) D9_agreesWithSeen_46 rfl ?_
    refine J_getf (pc := 47) D9_agreesWithSeen_47 fl9_61 rfl rfl ?_
    refine J_callVP (pc := 50) (ι := [39, 40, 41, 1, 2, 3, 4, 5, 6, 7, 8, 9, 10, 11, 12, 13, 14, 15, 16, 17, 18, 29, 30, 31, 32, 33, 34, 35, 36, 37, 38]) (ac := []) D9_agreesWithSeen_50 m8_passOne_v t926 (c8_passOne (d := d) (y := y1) (q := q) (k := k) (T := T) (V := X) hT hX) (by omega) rfl rfl ⟨rfl, rfl⟩ rfl rfl rfl rfl rfl (fun r w' hq hl => ?_)
    obtain ⟨rfl, q1, k1, rfl⟩ := hq
    refine ⟨tcD tl hi T V (passF T y1 nb nn X, y1, q1, k1, 1, 29) U N, ⟨rfl, ⟨rfl, rfl⟩, rfl⟩, ?_⟩
    have hX2 : WV (passF T y1 nb nn X) nb := passF_V hX
    revert hX2
    obtain ⟨X2, eX2⟩ : ∃ z9, passF T y1 nb nn X = z9 := ⟨_, rfl⟩
    rw [eX2]
    intro hX2
    refine J_aload_n (pc := 53) D9_agreesWithSeen_53 rfl ?_
    refine J_getf (pc := 54) D9_agreesWithSeen_54 fl9_75 rfl rfl ?_
    refine J_iload (pc := 57) D9_agreesWithSeen_57 rfl ?_
    refine J_aload_n (pc := 59) D9_agreesWithSeen_59 rfl ?_
    refine J_getf (pc := 60) D9_agreesWithSeen_60 fl9_53 rfl rfl ?_
    refine J_callVR (pc := 63) (ι := [46, 47, 48, 49, 50, 51, 52, 29, 30, 31, 32, 33, 34, 35, 36, 37, 38]) (ac := [.int _, .ref 7]) D9_agreesWithSeen_63 m3_agrees_v t1085 (c3_agrees (d := d) (c := N.1) (kb := N.2.1) (a := N.2.2) (V := X2) hn hB hk) (by omega) rfl rfl ⟨rfl, rfl⟩ rfl rfl (fun _ => rfl) rfl rfl rfl ?_
    refine J_if_ne (pc := 66) (tgt := 71) D9_agreesWithSeen_66 (by decide) (fun h66 => ?_) (fun h66 => ?_)
    · refine J_iinc (pc := 71) D9_agreesWithSeen_71 rfl (nI_inc _) rfl ?_
      refine J_goto (pc := 74) (tgt := 40) D9_agreesWithSeen_74 (by decide) ?_
      rw [cwL, eX2, if_neg h66]
      exact ih (y + 1) X2 q1 k1 hX2 (by omega)
    · have h66' := eq_true h66
      refine J_iconst (pc := 69) (v := (nI 0)) D9_agreesWithSeen_69 (by decide) ?_
      refine J_zret (pc := 70) D9_agreesWithSeen_70 rfl (by decide) ?_
      exact ⟨by rw [cwL, eX2, if_pos h66], _, rfl⟩
theorem c9_agreesWithSeen {d np nb nn n : Nat} {tl hi : Int32} {T : TV} {V : CV} {U : UV} {N : NV} (hT : WT T np nb nn) {S : SB} (hn : n ≤ 24) (hB : ∀ i, i < n → N.2.2 7 i = 0 ∨ ∃ b, b < 10 ∧ N.2.2 3 i = nI b) (hk : knF N.1 N.2.1 = nI n) {b L : Nat} {ck : Int32} (hb : b < 10) (hL : L ≤ 60) : Tr (d + 6) 0 0 m9_agreesWithSeen [.ref 0, .int (nI b), .int ck, .int (nI L)] (tcD tl hi T V S U N) (fun r w' => r = some (.int (cwL T N.2.2 n nb nn L 1 (coV (layF T nb S.1) b ck))) ∧ ∃ S', w' = tcD tl hi T V S' U N) := by
  refine Tr.intro (by decide) rfl ?_
  refine J_aload_n (pc := 0) D9_agreesWithSeen_0 rfl ?_
  refine J_getf (pc := 1) D9_agreesWithSeen_1 fl9_53 rfl rfl ?_
  refine J_aload_n (pc := 4) D9_agreesWithSeen_4 rfl ?_
  refine J_getf (pc := 5) D9_agreesWithSeen_5 fl9_18 rfl rfl ?_
  refine J_callVP (pc := 8) (ι := [29, 30, 31, 32, 33, 34, 35, 36, 37, 38, 1, 2, 3, 4, 5, 6, 7, 8, 9, 10, 11, 12, 13, 14, 15, 16, 17, 18]) (ac := [.ref 10]) D9_agreesWithSeen_8 m0_layDown_v t419 (c0_layDown (d := d) (T := T) (V := S.1) hT) (by omega) rfl rfl ⟨rfl, rfl⟩ rfl rfl rfl rfl rfl (fun r w' hq hl => ?_)
  obtain ⟨rfl, rfl⟩ := hq
  refine ⟨tcD tl hi T V (layF T nb S.1, S.2) U N, ⟨rfl, ⟨rfl, rfl⟩, rfl⟩, ?_⟩
  have hX2 : WV (layF T nb S.1) nb := layF_V hT
  revert hX2
  obtain ⟨X, eX⟩ : ∃ z9, layF T nb S.1 = z9 := ⟨_, rfl⟩
  rw [eX]
  intro hX2
  refine J_aload_n (pc := 11) D9_agreesWithSeen_11 rfl ?_
  refine J_getf (pc := 12) D9_agreesWithSeen_12 fl9_53 rfl rfl ?_
  refine J_getf (pc := 15) D9_agreesWithSeen_15 fl9_153 rfl rfl ?_
  refine J_iload_n (pc := 18) D9_agreesWithSeen_18 rfl ?_
  refine J_iload_n (pc := 19) D9_agreesWithSeen_19 rfl ?_
  refine J_iast (pc := 20) D9_agreesWithSeen_20 rfl rfl (by omega) rfl ?_
  refine J_w (w2 := tcD tl hi T V (coV X b ck, S.2) U N) rfl ?_
  refine J_aload_n (pc := 21) D9_agreesWithSeen_21 rfl ?_
  refine J_getf (pc := 22) D9_agreesWithSeen_22 fl9_61 rfl rfl ?_
  refine J_aload_n (pc := 25) D9_agreesWithSeen_25 rfl ?_
  refine J_getf (pc := 26) D9_agreesWithSeen_26 fl9_18 rfl rfl ?_
  refine J_aload_n (pc := 29) D9_agreesWithSeen_29 rfl ?_
  refine J_getf (pc := 30) D9_agreesWithSeen_30 fl9_53 rfl rfl ?_
  refine J_iconst (pc := 33) (v := (nI 1)) D9_agreesWithSeen_33 (by decide) ?_
  refine J_callVP (pc := 34) (ι := [39, 1, 29, 40, 41, S.2.2.2.2.1, S.2.2.2.2.2]) (ac := [.ref 1, .ref 2, .int (nI 1)]) D9_agreesWithSeen_34 m8_start_v t759 (c8_start (d := d + 5) (t := .ref 5) (c := .ref 6) (q := .ref 3) (k := .ref 4) (a := .int S.2.1.1) (b := .int S.2.1.2.1) (e := .int S.2.1.2.2) (f := .null) (x := nI 1) (i := 1) (j := 2)) (by omega) rfl rfl ⟨rfl, rfl⟩ rfl rfl rfl rfl rfl (fun r w' hq hl => ?_)
  obtain ⟨rfl, rfl⟩ := hq
  refine ⟨tcD tl hi T V (coV X b ck, y1, S.2.2.1, S.2.2.2.1, 1, 29) U N, ⟨rfl, ⟨rfl, rfl⟩, rfl⟩, ?_⟩
  refine J_iconst (pc := 37) (v := (nI 1)) D9_agreesWithSeen_37 (by decide) ?_
  refine J_istore (pc := 38) D9_agreesWithSeen_38 rfl ?_
  have hX3 : WV (coV X b ck) nb := hX2.of rfl
  exact L9_agr hT hn hB hk hL L 1 (coV X b ck) S.2.2.1 S.2.2.2.1 hX3 (by omega)
/-- bits of the corks that agree; f: what lay in the tried cellar before each -/
def coB (T : TV) (a : Nat → Nat → Int32) (n nb nn L b : Nat) (f : Nat → CV) : Nat → Int32
  | 0 => nI 0
  | k + 1 => if cwL T a n nb nn L 1 (coV (layF T nb (f k)) b (nI k)) = 0 then coB T a n nb nn L b f k else coB T a n nb nn L b f k ||| bitN k
theorem coB_c {T : TV} {a : Nat → Nat → Int32} {n nb nn L b : Nat} {f f' : Nat → CV} : ∀ k, (∀ j, j < k → f j = f' j) → coB T a n nb nn L b f k = coB T a n nb nn L b f' k
  | 0, _ => rfl
  | k + 1, h => by
    rw [coB, coB, h k (by omega), coB_c k (fun j hj => h j (by omega))]
theorem mkL_k {k : Nat} (h6 : k ≠ 6) (h7 : k ≠ 7) : ∀ (g : Nat) (a : Nat → Nat → Int32), mkL g a k = a k
  | 0, _ => rfl
  | g + 1, a => by
    rw [mkL, mkL_k h6 h7 g]
    unfold mkS upA
    rw [show Nat.beq k 6 = false from beq_ne h6, show Nat.beq k 7 = false from beq_ne h7]
    rfl
theorem mkF_k {k n : Nat} {a : Nat → Nat → Int32} (h6 : k ≠ 6) (h7 : k ≠ 7) : mkF n a k = a k := by
  rw [mkF, mkL_k h6 h7]
  unfold upA
  rw [show Nat.beq k 6 = false from beq_ne h6]
  rfl
theorem imax_nI {m y : Nat} (hm : m ≤ 60) (hy : y ≤ 60) : ∃ L, L ≤ 60 ∧ imax (nI m) (nI y) = nI L := by
  unfold imax
  split
  · exact ⟨_, by assumption, rfl⟩
  · exact ⟨_, by assumption, rfl⟩
theorem lyL_le {a : Nat → Nat → Int32} : ∀ (g i m : Nat), m ≤ 60 → (∀ j, j < i + g → ∃ y, y ≤ 60 ∧ a 2 j = nI y) → ∃ L, L ≤ 60 ∧ lyL a g i (nI m) = nI L
  | 0, _, m, hm, _ => ⟨m, hm, rfl⟩
  | g + 1, i, m, hm, h => by
    unfold lyL
    obtain ⟨y, hy, ey⟩ := h i (by omega)
    have h' : ∀ j, j < i + 1 + g → ∃ y, y ≤ 60 ∧ a 2 j = nI y := fun j hj => h j (by omega)
    by_cases e : a 7 i = 0
    · rw [if_pos e]; exact lyL_le g (i + 1) m hm h'
    · rw [if_neg e, ey]
      obtain ⟨L, hL, eL⟩ := imax_nI hm hy
      rw [eL]
      exact lyL_le g (i + 1) L hL h'
/-- what is seen is so: years, bottles, what is struck; by how many it is known -/
def NI (N : NV) (n : Nat) : Prop := N.1 ≤ 24 ∧ n ≤ N.1 ∧ knF N.1 N.2.1 = nI n ∧ ∀ i, i < N.1 → (∃ y, y ≤ 60 ∧ N.2.2 2 i = nI y) ∧ (∃ b, b < 10 ∧ N.2.2 3 i = nI b) ∧ (N.2.2 5 i = -1 ∨ ∃ j, j < i ∧ N.2.2 5 i = nI j)
theorem L9_corks {d np nb nn n : Nat} {tl hi : Int32} {T : TV} {V : CV} {U : UV} {N : NV} (hT : WT T np nb nn) (hn : n ≤ 24) (hB : ∀ i, i < n → N.2.2 7 i = 0 ∨ ∃ b, b < 10 ∧ N.2.2 3 i = nI b) (hk : knF N.1 N.2.1 = nI n) {b L : Nat} (hb : b < 10) (hL : L ≤ 60) : ∀ (g k : Nat) (S : SB) (f : Nat → CV), k + g = 10 → J m9_corks (d + 7) 0 0 53 30 [(0, .ref 0), (1, .int (nI b)), (2, .int (nI L)), (3, .int (coB T N.2.2 n nb nn L b f k)), (4, .int (nI k))] [] (tcD tl hi T V S U N) 0 0 (fun r w' => (∃ f, r = some (.int (coB T N.2.2 n nb nn L b f 10))) ∧ ∃ S', w' = tcD tl hi T V S' U N) := by
  intro g
  induction g with
  | zero =>
    intro k S f hk10
    have e : k = 10 := by omega
    refine J_iload (pc := 30) D9_corks_30 rfl ?_
    refine J_bipush (pc := 32) (v := (nI 9)) D9_corks_32 (by decide) ?_
    refine J_icmp_gt (pc := 34) (tgt := 61) D9_corks_34 (by decide) (fun h34 => ?_) (fun h34 => absurd (nI_lt (by omega) (by omega)) h34)
    refine J_iload_n (pc := 61) D9_corks_61 rfl ?_
    refine J_iret (pc := 62) D9_corks_62 rfl ?_
    exact ⟨⟨f, by rw [e]⟩, _, rfl⟩
  | succ g ih =>
    intro k S f hk10
    obtain ⟨f2, ef⟩ : ∃ f2, f2 = fun j => bif Nat.beq j k then S.1 else f j := ⟨_, rfl⟩
    have ef1 : f2 k = S.1 := by rw [ef]; show (bif Nat.beq k k then _ else _) = _; rw [Nat.beq_refl]; rfl
    have ef2 : coB T N.2.2 n nb nn L b f2 k = coB T N.2.2 n nb nn L b f k := coB_c k (fun j hj => by rw [ef]; show (bif Nat.beq j k then _ else _) = _; rw [show Nat.beq j k = false from beq_ne (by omega)]; rfl)
    refine J_iload (pc := 30) D9_corks_30 rfl ?_
    refine J_bipush (pc := 32) (v := (nI 9)) D9_corks_32 (by decide) ?_
    refine J_icmp_gt (pc := 34) (tgt := 61) D9_corks_34 (by decide) (fun h34 => absurd h34 (Int32.not_lt.mpr (nI_le (by omega) (by omega)))) (fun h34 => ?_)
    refine J_aload_n (pc := 37) D9_corks_37 rfl ?_
    refine J_iload_n (pc := 38) D9_corks_38 rfl ?_
    refine J_iload (pc := 39) D9_corks_39 rfl ?_
    refine J_iload_n (pc := 41) D9_corks_41 rfl ?_
    refine J_callVT (pc := 42) (ac := [.int _, .int _, .int _]) D9_corks_42 m9_agreesWithSeen_v t1081 (c9_agreesWithSeen (d := d) (S := S) hT hn hB hk hb hL) (by omega) rfl rfl rfl rfl rfl rfl rfl (fun r w' hq hl => ?_)
    obtain ⟨rfl, S2, rfl⟩ := hq
    refine J_if_eq (pc := 45) (tgt := 55) D9_corks_45 (by decide) (fun h45 => ?_) (fun h45 => ?_)
    · have h45' := eq_true h45
      refine J_iinc (pc := 55) D9_corks_55 rfl (nI_inc _) rfl ?_
      refine J_goto (pc := 58) (tgt := 30) D9_corks_58 (by decide) ?_
      refine J_lk [(0, .ref 0), (1, .int (nI b)), (2, .int (nI L)), (3, .int (coB T N.2.2 n nb nn L b f2 (k + 1))), (4, .int (nI (k + 1)))] (by rw [coB, ef1, ef2, if_pos h45]; try rfl) ?_
      exact ih (k + 1) S2 f2 (by omega)
    · refine J_iload_n (pc := 48) D9_corks_48 rfl ?_
      refine J_iconst (pc := 49) (v := (nI 1)) D9_corks_49 (by decide) ?_
      refine J_iload (pc := 50) D9_corks_50 rfl ?_
      refine J_ishl (pc := 52) D9_corks_52 ?_
      refine J_ior (pc := 53) D9_corks_53 ?_
      refine J_istore_n (pc := 54) D9_corks_54 rfl ?_
      refine J_iinc (pc := 55) D9_corks_55 rfl (nI_inc _) rfl ?_
      refine J_goto (pc := 58) (tgt := 30) D9_corks_58 (by decide) ?_
      refine J_lk [(0, .ref 0), (1, .int (nI b)), (2, .int (nI L)), (3, .int (coB T N.2.2 n nb nn L b f2 (k + 1))), (4, .int (nI (k + 1)))] (by rw [coB, ef1, ef2, if_neg h45]; try rfl) ?_
      exact ih (k + 1) S2 f2 (by omega)
theorem c9_corks {d np nb nn n : Nat} {tl hi : Int32} {T : TV} {V : CV} {U : UV} {N : NV} (hT : WT T np nb nn) {S : SB} {x : Int32} (hN : NI N n) : Tr (d + 7) 0 0 m9_corks [.ref 0, .int x] (tcD tl hi T V S U N) (fun r w' => (if ixB nb x = true then (∃ f L, L ≤ 60 ∧ lyL (mkF n N.2.2) n 0 (nI 0) = nI L ∧ r = some (.int (coB T (mkF n N.2.2) n nb nn L x.toNatClampNeg f 10))) else r = some (.int (-1))) ∧ ∃ S' a', w' = tcD tl hi T V S' U (N.1, N.2.1, a') ∧ ∀ k, k ≠ 6 → k ≠ 7 → a' k = N.2.2 k) := by
  have hnb := hT.2.2.2.2.1
  obtain ⟨hN1, hN2, hN3, hN4⟩ := hN
  refine Tr.intro (by decide) rfl ?_
  refine J_aload_n (pc := 0) D9_corks_0 rfl ?_
  refine J_iload_n (pc := 1) D9_corks_1 rfl ?_
  refine J_callVAR (pc := 2) (ac := [.int _]) D9_corks_2 m9_isBottle_v t754 (c9_isBottle (d := d + 5) (V := V) hT) (by omega) rfl rfl rfl rfl rfl (fun _ => rfl) rfl rfl rfl ?_
  refine J_if_ne (pc := 5) (tgt := 10) D9_corks_5 (by decide) (fun h5 => ?_) (fun h5 => ?_)
  · replace h5 := i01_nz h5
    obtain ⟨b9, hb9, rfl⟩ := ixB_t h5 (by omega)
    refine J_aload_n (pc := 10) D9_corks_10 rfl ?_
    refine J_getf (pc := 11) D9_corks_11 fl9_75 rfl rfl ?_
    refine J_callVP (pc := 14) (ι := [46, 47, 48, 49, 50, 51, 52]) (ac := []) D9_corks_14 m3_markKnown_v t1067 (c3_markKnown (d := d) (c := N.1) (n := n) (kb := N.2.1) (a := N.2.2) (by omega) (fun i hi => (hN4 i (by omega)).2.2) hN3) (by omega) rfl rfl ⟨rfl, rfl⟩ rfl rfl rfl rfl rfl (fun r w' hq hl => ?_)
    obtain ⟨rfl, rfl⟩ := hq
    refine ⟨tcD tl hi T V S U (N.1, N.2.1, mkF n N.2.2), ⟨rfl, ⟨rfl, rfl⟩, rfl⟩, ?_⟩
    obtain ⟨a2, ea2⟩ : ∃ z9, mkF n N.2.2 = z9 := ⟨_, rfl⟩
    refine J_w (w2 := tcD tl hi T V S U (N.1, N.2.1, a2)) (by subst ea2; rfl) ?_
    have hk2 : ∀ k, k ≠ 6 → k ≠ 7 → a2 k = N.2.2 k := fun k h6 h7 => by rw [← ea2]; exact mkF_k h6 h7
    obtain ⟨L, hL, eL⟩ := lyL_le (a := a2) n 0 0 (by omega) (fun j hj => by rw [hk2 2 (by decide) (by decide)]; exact (hN4 j (by omega)).1)
    refine J_aload_n (pc := 17) D9_corks_17 rfl ?_
    refine J_getf (pc := 18) D9_corks_18 fl9_75 rfl rfl ?_
    refine J_callVR (pc := 21) (ι := [46, 47, 48, 49, 50, 51, 52]) (ac := []) D9_corks_21 m3_lastKnownYear_v t1076 (c3_lastKnownYear (d := d) (c := N.1) (n := n) (kb := N.2.1) (a := a2) (by omega) hN3) (by omega) rfl rfl ⟨rfl, rfl⟩ rfl rfl (fun _ => rfl) rfl rfl rfl ?_
    refine J_st [.int (nI L)] (by rw [← eL]; try rfl) ?_
    refine J_istore_n (pc := 24) D9_corks_24 rfl ?_
    refine J_iconst (pc := 25) (v := (nI 0)) D9_corks_25 (by decide) ?_
    refine J_istore_n (pc := 26) D9_corks_26 rfl ?_
    refine J_iconst (pc := 27) (v := (nI 0)) D9_corks_27 (by decide) ?_
    refine J_istore (pc := 28) D9_corks_28 rfl ?_
    refine J_mono (L9_corks (N := (N.1, N.2.1, a2)) (n := n) (L := L) (b := b9) hT (by omega) (fun i hi => Or.inr (by show ∃ b, b < 10 ∧ a2 3 i = nI b; rw [hk2 3 (by decide) (by decide)]; exact (hN4 i (by omega)).2.1)) hN3 (by omega) hL 10 0 S (fun _ => S.1) (by omega)) (fun r w' hq => ?_)
    obtain ⟨⟨f, hr⟩, S2, hw⟩ := hq
    rw [if_pos h5, ea2, nI_clamp (by omega)]
    exact ⟨⟨f, L, hL, eL, hr⟩, S2, a2, hw, hk2⟩
  · have h5' := eq_true h5
    replace h5 := i01_z h5
    refine J_iconst (pc := 8) (v := (-1)) D9_corks_8 (by decide) ?_
    refine J_iret (pc := 9) D9_corks_9 rfl ?_
    rw [if_neg h5]
    exact ⟨rfl, S, N.2.2, rfl, fun _ _ _ => rfl⟩
