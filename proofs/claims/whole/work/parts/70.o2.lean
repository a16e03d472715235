/-! THE MODEL: corks 2 (own program mod_o2.py) -/
theorem L10_ck19 {d nb n : Nat} {s : Nat → Int32} {A : Nat → Nat → Int32} {L : LL} {M : Nat → MR} {N : NV} {b : Int32} {Q : Option Value → List EC → Prop} (hN : NR s A N nb) (en : knN9 N = n) {m2 : Int32} : ∀ (g k : Nat) (A' : Nat → Nat → Int32), k + g = n → (∀ j, j ≠ 63 → A' j = A j) → (∀ i, i < k → A' 63 i = 0) → (∀ A', (∀ j, j ≠ 63 → A' j = A j) → (∀ i, i < n → A' 63 i = 0) → J m10_corks (d + 7) 0 0 40 40 [(0, .ref 0), (1, .int b), (2, .int m2)] [] (modW s A' L M) 0 0 Q) → J m10_corks (d + 7) 0 0 40 19 [(0, .ref 0), (1, .int b), (2, .int m2), (3, .int (nI k))] [] (modW s A' L M) 0 0 Q := by
  have h24 := hN.2.2.1
  have hkn := hN.kn.1
  intro g
  induction g with
  | zero =>
    intro k A' hk hA h0 K
    refine J_iload_n (pc := 19) D10_corks_19 rfl ?_
    refine J_aload_n (pc := 20) D10_corks_20 rfl ?_
    refine J_callVTR (pc := 21) (ac := []) D10_corks_21 m10_knownMany_v t1856 (c10_knownMany (d := d + 6) (hN.c rfl rfl (fun k hk => hA k (by omega)))) (by omega) rfl rfl rfl rfl (fun _ => rfl) rfl rfl rfl ?_
    refine J_icmp_ge (pc := 24) (tgt := 40) D10_corks_24 (by decide) (fun h24 => ?_) (fun h24 => absurd (nI_le (by omega) (by omega)) h24)
    refine J_lk [(0, .ref 0), (1, .int b), (2, .int m2)] rfl ?_
    exact K A' hA (fun i hi => h0 i (by omega))
  | succ g ih =>
    intro k A' hk hA h0 K
    refine J_iload_n (pc := 19) D10_corks_19 rfl ?_
    refine J_aload_n (pc := 20) D10_corks_20 rfl ?_
    refine J_callVTR (pc := 21) (ac := []) D10_corks_21 m10_knownMany_v t1856 (c10_knownMany (d := d + 6) (hN.c rfl rfl (fun k hk => hA k (by omega)))) (by omega) rfl rfl rfl rfl (fun _ => rfl) rfl rfl rfl ?_
    refine J_icmp_ge (pc := 24) (tgt := 40) D10_corks_24 (by decide) (fun h24 => absurd h24 (nI_ge (by omega) (by omega))) (fun h24 => ?_)
    refine J_aload_n (pc := 27) D10_corks_27 rfl ?_
    refine J_getf (pc := 28) D10_corks_28 fl10_133 rfl rfl ?_
    refine J_iload_n (pc := 31) D10_corks_31 rfl ?_
    refine J_iconst (pc := 32) (v := (nI 0)) D10_corks_32 (by decide) ?_
    refine J_mzst (pc := 33) D10_corks_33 ma_63 rfl (by omega) rfl (by decide) ?_
    refine J_iinc (pc := 34) D10_corks_34 rfl (nI_inc _) rfl ?_
    refine J_goto (pc := 37) (tgt := 19) D10_corks_37 (by decide) ?_
    exact ih (k + 1) _ (by omega) (fun j hj => by rw [upA_n hj]; exact hA j hj) (fun i hi => by
      rw [upA_s]
      by_cases e : i = k
      · rw [e, pk_us]; rfl
      · rw [pk_un e]; exact h0 i (by omega)) K
theorem L10_ck47 {d nb n : Nat} {s : Nat → Int32} {A : Nat → Nat → Int32} {L : LL} {M : Nat → MR} {N : NV} {b : Int32} {Q : Option Value → List EC → Prop} (hN : NR s A N nb) (en : knN9 N = n) {m2 : Int32} : ∀ (g : Nat), g ≤ n → ∀ (A' a : Nat → Nat → Int32), (∀ j, j ≠ 63 → A' j = A j) → (∀ k, k ≠ 6 → k ≠ 7 → a k = N.2.2 k) → (∀ i, i < n → A' 63 i = a 6 i) → (∀ i, g ≤ i → i < n → a 7 i = i01 (A' 63 i = 0 ∧ N.2.2 5 i = -1)) →
    (∀ A', (∀ j, j ≠ 63 → A' j = A j) → (∀ i, i < n → mkL g a 7 i = i01 (A' 63 i = 0 ∧ N.2.2 5 i = -1)) → J m10_corks (d + 7) 0 0 40 88 [(0, .ref 0), (1, .int b), (2, .int m2)] [] (modW s A' L M) 0 0 Q) → J m10_corks (d + 7) 0 0 40 47 [(0, .ref 0), (1, .int b), (2, .int m2), (3, .int (nI g - nI 1))] [] (modW s A' L M) 0 0 Q := by
  have h24 := hN.2.2.1
  have hkn := hN.kn.1
  intro g
  induction g with
  | zero =>
    intro hg A' a hA ha h6 h7 K
    refine J_iload_n (pc := 47) D10_corks_47 rfl ?_
    refine J_if_lt (pc := 48) (tgt := 88) D10_corks_48 (by decide) (fun h48 => ?_) (fun h48 => absurd (by decide) h48)
    refine J_lk [(0, .ref 0), (1, .int b), (2, .int m2)] rfl ?_
    exact K A' hA (fun i hi => h7 i (by omega) hi)
  | succ g ih =>
    intro hg A' a hA ha h6 h7 K
    obtain ⟨e62', hcase⟩ := hN.2.2.2.2 g (by omega)
    have e62 : A' 62 g = N.2.2 5 g := by rw [hA 62 (by decide)]; exact e62'
    rw [show nI (g + 1) - nI 1 = nI g from nI_pred g]
    refine J_iload_n (pc := 47) D10_corks_47 rfl ?_
    refine J_if_lt (pc := 48) (tgt := 88) D10_corks_48 (by decide) (fun h48 => absurd h48 (nI_pos (by omega))) (fun h48 => ?_)
    refine J_aload_n (pc := 51) D10_corks_51 rfl ?_
    refine J_getf (pc := 52) D10_corks_52 fl10_133 rfl rfl ?_
    refine J_iload_n (pc := 55) D10_corks_55 rfl ?_
    refine J_mzld (pc := 56) D10_corks_56 ma_63 rfl (by omega) rfl ?_
    refine J_if_ne (pc := 57) (tgt := 82) D10_corks_57 (by decide) (fun h57 => ?_) (fun h57 => ?_)
    · refine J_iinc (pc := 82) D10_corks_82 rfl (inc_m1 _) rfl ?_
      refine J_goto (pc := 85) (tgt := 47) D10_corks_85 (by decide) ?_
      have m5 : ∀ k, k ≠ 6 → k ≠ 7 → mkS a g k = N.2.2 k := fun k h6 h7 => by
        show upA (upA a 7 _) 6 _ k = _
        rw [upA_n h6, upA_n h7]; exact ha k h6 h7
      have ea5 : a 5 g = N.2.2 5 g := by rw [ha 5 (by decide) (by decide)]
      have m7 : mkS a g 7 = upd (a 7) g (i01 (a 6 g = 0 ∧ a 5 g = -1)) := rfl
      have m6 : mkS a g 6 = a 6 := by
        show (if ¬ a 5 g = -1 ∧ a 6 g = 0 then _ else a 6) = a 6
        exact if_neg (fun q => h57 ((h6 g (by omega)).trans q.2))
      rw [show mkL (g + 1) a = mkL g (mkS a g) from rfl] at K
      refine ih (by omega) A' (mkS a g) hA m5 (fun i hi => by rw [m6]; exact h6 i hi) (fun i h1 h2 => ?_) K
      rw [m7]
      by_cases e : i = g
      · rw [e, pk_us, h6 g (by omega), ea5]
      · rw [pk_un e]; exact h7 i (by omega) h2
    · have h57' := eq_true h57
      refine J_aload_n (pc := 60) D10_corks_60 rfl ?_
      refine J_getf (pc := 61) D10_corks_61 fl10_130 rfl rfl ?_
      refine J_iload_n (pc := 64) D10_corks_64 rfl ?_
      refine J_mald (pc := 65) D10_corks_65 ma_62 rfl (by omega) rfl ?_
      refine J_iconst (pc := 66) (v := (-1)) D10_corks_66 (by decide) ?_
      refine J_icmp_eq (pc := 67) (tgt := 82) D10_corks_67 (by decide) (fun h67 => ?_) (fun h67 => ?_)
      · have h67' := eq_true h67
        refine J_iinc (pc := 82) D10_corks_82 rfl (inc_m1 _) rfl ?_
        refine J_goto (pc := 85) (tgt := 47) D10_corks_85 (by decide) ?_
        have m5 : ∀ k, k ≠ 6 → k ≠ 7 → mkS a g k = N.2.2 k := fun k h6 h7 => by
          show upA (upA a 7 _) 6 _ k = _
          rw [upA_n h6, upA_n h7]; exact ha k h6 h7
        have ea5 : a 5 g = N.2.2 5 g := by rw [ha 5 (by decide) (by decide)]
        have m7 : mkS a g 7 = upd (a 7) g (i01 (a 6 g = 0 ∧ a 5 g = -1)) := rfl
        have m6 : mkS a g 6 = a 6 := by
          show (if ¬ a 5 g = -1 ∧ a 6 g = 0 then _ else a 6) = a 6
          exact if_neg (fun q => q.1 (ea5.trans (e62.symm.trans h67)))
        rw [show mkL (g + 1) a = mkL g (mkS a g) from rfl] at K
        refine ih (by omega) A' (mkS a g) hA m5 (fun i hi => by rw [m6]; exact h6 i hi) (fun i h1 h2 => ?_) K
        rw [m7]
        by_cases e : i = g
        · rw [e, pk_us, h6 g (by omega), ea5]
        · rw [pk_un e]; exact h7 i (by omega) h2
      · have hc9 : ¬ N.2.2 5 g = -1 := fun q => h67 (e62.trans q)
        obtain ⟨j, hj, ej, -⟩ := hcase.resolve_left (fun q => hc9 q.1)
        refine J_aload_n (pc := 70) D10_corks_70 rfl ?_
        refine J_getf (pc := 71) D10_corks_71 fl10_133 rfl rfl ?_
        refine J_aload_n (pc := 74) D10_corks_74 rfl ?_
        refine J_getf (pc := 75) D10_corks_75 fl10_130 rfl rfl ?_
        refine J_iload_n (pc := 78) D10_corks_78 rfl ?_
        refine J_mald (pc := 79) D10_corks_79 ma_62 rfl (by omega) rfl ?_
        refine J_iconst (pc := 80) (v := (nI 1)) D10_corks_80 (by decide) ?_
        refine J_mzst (pc := 81) D10_corks_81 ma_63 (e62.trans ej) (by omega) rfl (by decide) ?_
        refine J_iinc (pc := 82) D10_corks_82 rfl (inc_m1 _) rfl ?_
        refine J_goto (pc := 85) (tgt := 47) D10_corks_85 (by decide) ?_
        have m5 : ∀ k, k ≠ 6 → k ≠ 7 → mkS a g k = N.2.2 k := fun k h6 h7 => by
          show upA (upA a 7 _) 6 _ k = _
          rw [upA_n h6, upA_n h7]; exact ha k h6 h7
        have ea5 : a 5 g = N.2.2 5 g := by rw [ha 5 (by decide) (by decide)]
        have m7 : mkS a g 7 = upd (a 7) g (i01 (a 6 g = 0 ∧ a 5 g = -1)) := rfl
        have hne : ¬ a 5 g = -1 := fun q => h67 (e62.trans (ea5.symm.trans q))
        have hz : a 6 g = 0 := (h6 g (by omega)).symm.trans h57
        have m6 : mkS a g 6 = upd (a 6) j (nI 1) := by
          show (if ¬ a 5 g = -1 ∧ a 6 g = 0 then upd (a 6) (a 5 g).toNatClampNeg (nI 1) else a 6) = _
          rw [if_pos ⟨hne, hz⟩, ea5, ej, nI_clamp (by omega)]
        rw [show mkL (g + 1) a = mkL g (mkS a g) from rfl] at K
        refine ih (by omega) _ (mkS a g) (fun k hk => by rw [upA_n hk]; exact hA k hk) m5 (fun i hi => ?_) (fun i h1 h2 => ?_) K
        · rw [m6, upA_s]
          exact upd_c (h6 i hi)
        · have u9 : upd (A' 63) j (nI 1) i = A' 63 i := pk_un (by omega)
          rw [m7, upA_s, u9]
          by_cases e : i = g
          · rw [e, pk_us, h6 g (by omega), ea5]
          · rw [pk_un e]; exact h7 i (by omega) h2
theorem L10_ck90 {d nb n : Nat} {s : Nat → Int32} {A : Nat → Nat → Int32} {L : LL} {M : Nat → MR} {N : NV} {b : Int32} {Q : Option Value → List EC → Prop} (hN : NR s A N nb) (en : knN9 N = n) {a : Nat → Nat → Int32} (hO : KO A N a n) : ∀ (g k : Nat) (m : Int32), k + g = n → J m10_corks (d + 7) 0 0 40 134 [(0, .ref 0), (1, .int b), (2, .int (lyL a g k m))] [] (modW s A L M) 0 0 Q → J m10_corks (d + 7) 0 0 40 90 [(0, .ref 0), (1, .int b), (2, .int m), (3, .int (nI k))] [] (modW s A L M) 0 0 Q := by
  have h24 := hN.2.2.1
  have hkn := hN.kn.1
  intro g
  induction g with
  | zero =>
    intro k m hk K
    refine J_iload_n (pc := 90) D10_corks_90 rfl ?_
    refine J_aload_n (pc := 91) D10_corks_91 rfl ?_
    refine J_callVTR (pc := 92) (ac := []) D10_corks_92 m10_knownMany_v t1856 (c10_knownMany (d := d + 6) hN) (by omega) rfl rfl rfl rfl (fun _ => rfl) rfl rfl rfl ?_
    refine J_icmp_ge (pc := 95) (tgt := 134) D10_corks_95 (by decide) (fun h95 => ?_) (fun h95 => absurd (nI_le (by omega) (by omega)) h95)
    refine J_lk [(0, .ref 0), (1, .int b), (2, .int m)] rfl ?_
    exact K
  | succ g ih =>
    intro k m hk K
    obtain ⟨e62, hcase⟩ := hN.2.2.2.2 k (by omega)
    refine J_iload_n (pc := 90) D10_corks_90 rfl ?_
    refine J_aload_n (pc := 91) D10_corks_91 rfl ?_
    refine J_callVTR (pc := 92) (ac := []) D10_corks_92 m10_knownMany_v t1856 (c10_knownMany (d := d + 6) hN) (by omega) rfl rfl rfl rfl (fun _ => rfl) rfl rfl rfl ?_
    refine J_icmp_ge (pc := 95) (tgt := 134) D10_corks_95 (by decide) (fun h95 => absurd h95 (nI_ge (by omega) (by omega))) (fun h95 => ?_)
    refine J_aload_n (pc := 98) D10_corks_98 rfl ?_
    refine J_getf (pc := 99) D10_corks_99 fl10_133 rfl rfl ?_
    refine J_iload_n (pc := 102) D10_corks_102 rfl ?_
    refine J_mzld (pc := 103) D10_corks_103 ma_63 rfl (by omega) rfl ?_
    refine J_if_ne (pc := 104) (tgt := 128) D10_corks_104 (by decide) (fun h104 => ?_) (fun h104 => ?_)
    · refine J_iinc (pc := 128) D10_corks_128 rfl (nI_inc _) rfl ?_
      refine J_goto (pc := 131) (tgt := 90) D10_corks_131 (by decide) ?_
      rw [lyL, if_pos (by rw [hO.2 k (by omega)]; exact i01_f (fun q => h104 q.1))] at K
      exact ih (k + 1) m (by omega) K
    · have h104' := eq_true h104
      refine J_aload_n (pc := 107) D10_corks_107 rfl ?_
      refine J_getf (pc := 108) D10_corks_108 fl10_130 rfl rfl ?_
      refine J_iload_n (pc := 111) D10_corks_111 rfl ?_
      refine J_mald (pc := 112) D10_corks_112 ma_62 rfl (by omega) rfl ?_
      refine J_iconst (pc := 113) (v := (-1)) D10_corks_113 (by decide) ?_
      refine J_icmp_ne (pc := 114) (tgt := 128) D10_corks_114 (by decide) (fun h114 => ?_) (fun h114 => ?_)
      · refine J_iinc (pc := 128) D10_corks_128 rfl (nI_inc _) rfl ?_
        refine J_goto (pc := 131) (tgt := 90) D10_corks_131 (by decide) ?_
        rw [lyL, if_pos (by rw [hO.2 k (by omega)]; exact i01_f (fun q => h114 (e62.trans q.2)))] at K
        exact ih (k + 1) m (by omega) K
      · have h114' := eq_true h114
        refine J_iload_n (pc := 117) D10_corks_117 rfl ?_
        refine J_aload_n (pc := 118) D10_corks_118 rfl ?_
        refine J_getf (pc := 119) D10_corks_119 fl10_120 rfl rfl ?_
        refine J_iload_n (pc := 122) D10_corks_122 rfl ?_
        refine J_mald (pc := 123) D10_corks_123 ma_59 rfl (by omega) rfl ?_
        refine J_max (pc := 124) D10_corks_124 t1692 (by omega) rfl rfl rfl ?_
        refine J_istore_n (pc := 127) D10_corks_127 rfl ?_
        refine J_iinc (pc := 128) D10_corks_128 rfl (nI_inc _) rfl ?_
        refine J_goto (pc := 131) (tgt := 90) D10_corks_131 (by decide) ?_
        rw [lyL, if_neg (by rw [hO.2 k (by omega), i01_t ⟨h104, e62.symm.trans h114⟩]; decide)] at K
        have hc9 : N.2.2 5 k = -1 := e62.symm.trans h114
        have q2 := (hcase.resolve_right (fun ⟨j, hj, ej, _⟩ => nI_nm (b := j) (by omega) (ej.symm.trans hc9))).2.1
        refine J_lk [(0, .ref 0), (1, .int b), (2, .int (imax m (a 2 k))), (3, .int (nI (k + 1)))] (by rw [hO.1 2 (by decide) (by decide), ← q2]; rfl) ?_
        exact ih (k + 1) _ (by omega) K
theorem L10_ck139 {d : Nat} {T : TV} {np nb nn : Nat} {s0 : Nat → Int32} {A0 : Nat → Nat → Int32} {M0 : Nat → MR} (hR0 : RT A0 T np nb nn) (hT : WT T np nb nn) (h48 : s0 48 = 0) {N : NV} {a : Nat → Nat → Int32} (hN0 : NR s0 A0 N nb) (hO0 : KO A0 N a (knN9 N)) {L0 b : Nat} {f : Nat → CV} (hb : b < nb) (hL : L0 ≤ 60) : ∀ (g k : Nat) (s : Nat → Int32) (A : Nat → Nat → Int32) (L : LL) (M : Nat → MR), k + g = 10 → SC s0 A0 s A → (∀ i, i ≠ 1 → M i = M0 i) → J m10_corks (d + 7) 0 0 40 139 [(0, .ref 0), (1, .int (nI b)), (2, .int (nI L0)), (3, .int (coB T a (knN9 N) nb nn L0 b f k)), (4, .int (nI k))] [] (modW s A L M) 0 0 (mR s0 A0 M0 (.int (coB T a (knN9 N) nb nn L0 b f 10))) := by
  intro g
  induction g with
  | zero =>
    intro k s A L M hk hS hM
    have e9 : k = 10 := by omega
    refine J_iload (pc := 139) D10_corks_139 rfl ?_
    refine J_bipush (pc := 141) (v := (nI 9)) D10_corks_141 (by decide) ?_
    refine J_icmp_gt (pc := 143) (tgt := 174) D10_corks_143 (by decide) (fun h143 => ?_) (fun h143 => absurd (nI_lt (by omega) (by omega)) h143)
    refine J_iload_n (pc := 174) D10_corks_174 rfl ?_
    refine J_iret (pc := 175) D10_corks_175 rfl ?_
    exact ⟨by rw [e9], s, A, L, M, rfl, PX.sc hS hM⟩
  | succ g ih =>
    intro k s A L M hk hS hM
    have hR := hS.rt hR0
    refine J_iload (pc := 139) D10_corks_139 rfl ?_
    refine J_bipush (pc := 141) (v := (nI 9)) D10_corks_141 (by decide) ?_
    refine J_icmp_gt (pc := 143) (tgt := 174) D10_corks_143 (by decide) (fun h143 => absurd h143 (Int32.not_lt.mpr (nI_le (by omega) (by omega)))) (fun h143 => ?_)
    refine J_iload_n (pc := 146) D10_corks_146 rfl ?_
    refine J_aload_n (pc := 147) D10_corks_147 rfl ?_
    refine J_iload_n (pc := 148) D10_corks_148 rfl ?_
    refine J_iload (pc := 149) D10_corks_149 rfl ?_
    refine J_iload_n (pc := 151) D10_corks_151 rfl ?_
    refine J_callVT (pc := 152) (ac := [.int _, .int _, .int _]) D10_corks_152 m10_fitsCork_v t1860 (c10_fitsCork (d := d) hR hT (hS.nr hN0) (hS.ko hO0) (by rw [hS.1 48 (by decide)]; exact h48) hb hL (f k)) (by omega) rfl rfl rfl rfl rfl rfl rfl (fun r w' hq hl => ?_)
    obtain ⟨rfl, s2, A2, L2, M2, rfl, hs2, hM2⟩ := hq
    refine J_if_eq (pc := 155) (tgt := 165) D10_corks_155 (by decide) (fun h155 => ?_) (fun h155 => ?_)
    · have h155' := eq_true h155
      refine J_iconst (pc := 165) (v := (nI 0)) D10_corks_165 (by decide) ?_
      refine J_ior (pc := 166) D10_corks_166 ?_
      refine J_istore_n (pc := 167) D10_corks_167 rfl ?_
      refine J_iinc (pc := 168) D10_corks_168 rfl (nI_inc _) rfl ?_
      refine J_goto (pc := 171) (tgt := 139) D10_corks_171 (by decide) ?_
      refine J_lk [(0, .ref 0), (1, .int (nI b)), (2, .int (nI L0)), (3, .int (coB T a (knN9 N) nb nn L0 b f (k + 1))), (4, .int (nI (k + 1)))] (by rw [coB, if_pos h155, or0]; rfl) ?_
      exact ih (k + 1) s2 A2 L2 M2 (by omega) (hS.tr hs2) (fun i hi => (hM2 i hi).trans (hM i hi))
    · refine J_iconst (pc := 158) (v := (nI 1)) D10_corks_158 (by decide) ?_
      refine J_iload (pc := 159) D10_corks_159 rfl ?_
      refine J_ishl (pc := 161) D10_corks_161 ?_
      refine J_goto (pc := 162) (tgt := 166) D10_corks_162 (by decide) ?_
      refine J_ior (pc := 166) D10_corks_166 ?_
      refine J_istore_n (pc := 167) D10_corks_167 rfl ?_
      refine J_iinc (pc := 168) D10_corks_168 rfl (nI_inc _) rfl ?_
      refine J_goto (pc := 171) (tgt := 139) D10_corks_171 (by decide) ?_
      refine J_lk [(0, .ref 0), (1, .int (nI b)), (2, .int (nI L0)), (3, .int (coB T a (knN9 N) nb nn L0 b f (k + 1))), (4, .int (nI (k + 1)))] (by rw [coB, if_neg h155]; rfl) ?_
      exact ih (k + 1) s2 A2 L2 M2 (by omega) (hS.tr hs2) (fun i hi => (hM2 i hi).trans (hM i hi))
theorem PX.a63 {s : Nat → Int32} {A A' : Nat → Nat → Int32} {M : Nat → MR} (h : ∀ j, j ≠ 63 → A' j = A j) : PX s A M s A' M := ⟨fun _ _ _ _ _ _ _ => rfl, fun k _ _ _ _ e => h k e, fun _ _ => rfl⟩
theorem c10_corks {d : Nat} {s : Nat → Int32} {A : Nat → Nat → Int32} {L : LL} {M : Nat → MR} {T : TV} {np nb nn : Nat} (hR : RT A T np nb nn) (hT : WT T np nb nn) {V : CV} (hC : CR False np nb nn (M 0) V) {N : NV} (hN : NR s A N nb) (h48 : s 48 = 0) {x : Int32} {f : Nat → CV} {L0 : Nat} (hL : L0 ≤ 60) (eL : lyL (mkF (knN9 N) N.2.2) (knN9 N) 0 (nI 0) = nI L0) : Tr (d + 7) 0 0 m10_corks [.ref 0, .int x] (modW s A L M) (mR s A M (.int (if ixB nb x = true then coB T (mkF (knN9 N) N.2.2) (knN9 N) nb nn L0 x.toNatClampNeg f 10 else -1))) := by
  have hnb := hT.2.2.2.2.1
  have hnp := hT.2.2.2.1
  have hnn := hT.2.2.2.2.2.1
  refine Tr.intro (by decide) rfl ?_
  refine J_aload_n (pc := 0) D10_corks_0 rfl ?_
  refine J_iconst (pc := 1) (v := (nI 0)) D10_corks_1 (by decide) ?_
  refine J_mput (pc := 2) D10_corks_2 fp10_139 ms_0 ?_
  refine J_aload_n (pc := 5) D10_corks_5 rfl ?_
  refine J_iload_n (pc := 6) D10_corks_6 rfl ?_
  refine J_callVTR (pc := 7) (ac := [.int _]) D10_corks_7 m10_isBottle_v t1567 (c10_isBottle (d := d) hR) (by omega) rfl rfl rfl rfl (fun _ => rfl) rfl rfl rfl ?_
  refine J_if_ne (pc := 10) (tgt := 15) D10_corks_10 (by decide) (fun h10 => ?_) (fun h10 => ?_)
  · replace h10 := i01_nz h10
    obtain ⟨b1, hb1, rfl⟩ := ixB_t h10 (by omega)
    rw [if_pos h10, nI_clamp (by omega)]
    refine J_iconst (pc := 15) (v := (nI 0)) D10_corks_15 (by decide) ?_
    refine J_istore_n (pc := 16) D10_corks_16 rfl ?_
    refine J_iconst (pc := 17) (v := (nI 0)) D10_corks_17 (by decide) ?_
    refine J_istore_n (pc := 18) D10_corks_18 rfl ?_
    refine J_lk [(0, .ref 0), (1, .int (nI b1)), (2, .int (nI 0)), (3, .int (nI 0))] rfl ?_
    refine L10_ck19 (s := updI s 0 (nI 0)) (hN.c rfl rfl (fun _ _ => rfl)) rfl (knN9 N) 0 A (by omega) (fun _ _ => rfl) (fun i hi => absurd hi (by omega)) (fun A1 hA1 h01 => ?_)
    refine J_aload_n (pc := 40) D10_corks_40 rfl ?_
    refine J_callVTR (pc := 41) (ac := []) D10_corks_41 m10_knownMany_v t1856 (c10_knownMany (d := d + 6) ((hN.c rfl rfl (fun _ _ => rfl) : NR (updI s 0 (nI 0)) A N nb).c rfl rfl (fun k hk => hA1 k (by omega)))) (by omega) rfl rfl rfl rfl (fun _ => rfl) rfl rfl rfl ?_
    refine J_iconst (pc := 44) (v := (nI 1)) D10_corks_44 (by decide) ?_
    refine J_isub (pc := 45) D10_corks_45 ?_
    refine J_istore_n (pc := 46) D10_corks_46 rfl ?_
    refine L10_ck47 (s := updI s 0 (nI 0)) (A := A) (hN.c rfl rfl (fun _ _ => rfl)) rfl (knN9 N) (Nat.le_refl _) A1 (upA N.2.2 6 (fun j => if j < knN9 N then 0 else N.2.2 6 j)) hA1 (fun k h6 _ => upA_n h6) (fun i hi => by rw [upA_s, if_pos hi]; exact h01 i hi) (fun i h1 h2 => absurd h2 (by omega)) (fun A2 hA2 h72 => ?_)
    have hN2 : NR (updI s 0 (nI 0)) A2 N nb := hN.c rfl rfl (fun k hk => hA2 k (by omega))
    have hO2 : KO A2 N (mkF (knN9 N) N.2.2) (knN9 N) := ⟨fun k h6 h7 => mkF_k h6 h7, h72⟩
    have hR2 : RT A2 T np nb nn := hR.a20 (fun k hk => hA2 k (by omega))
    refine J_iconst (pc := 88) (v := (nI 0)) D10_corks_88 (by decide) ?_
    refine J_istore_n (pc := 89) D10_corks_89 rfl ?_
    refine L10_ck90 hN2 rfl hO2 (knN9 N) 0 (nI 0) (by omega) ?_
    rw [eL]
    refine J_iconst (pc := 134) (v := (nI 0)) D10_corks_134 (by decide) ?_
    refine J_istore_n (pc := 135) D10_corks_135 rfl ?_
    refine J_iconst (pc := 136) (v := (nI 0)) D10_corks_136 (by decide) ?_
    refine J_istore (pc := 137) D10_corks_137 rfl ?_
    exact J_mono (L10_ck139 hR2 hT (s0 := updI s 0 (nI 0)) h48 hN2 hO2 hb1 hL 10 0 _ A2 L M (by omega) SC.rf (fun _ _ => rfl)) (mR.tr (PX.s0.tr (PX.a63 hA2)))
  · have h10' := eq_true h10
    replace h10 := i01_z h10
    rw [if_neg h10]
    refine J_iconst (pc := 13) (v := (-1)) D10_corks_13 (by decide) ?_
    refine J_iret (pc := 14) D10_corks_14 rfl ?_
    exact ⟨congrArg (fun q => some (Value.int q)) rfl, _, _, _, _, rfl, PX.s0⟩
