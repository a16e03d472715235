/-! THE MODEL: feed (own program mod_q15.py) -/
theorem byv_e (x s : Int32) : byv x s = (x >>> (s &&& 31)).toInt8.toInt32 := by
  unfold byv vp_nar
  rw [pk_nb]
/-- a byte on both sides -/
theorem by_t (y : Int32) : (∃ x, x < 128 ∧ y.toInt8.toInt32 = nI x ∧ y &&& nI 255 = nI x) ∨ (y.toInt8.toInt32 < 0 ∧ ∃ x, 128 ≤ x ∧ x < 256 ∧ y &&& nI 255 = nI x) := by
  have hm : y &&& nI 255 = nI (y.toBitVec.toNat % 256) := by
    apply Int32.toBitVec_inj.mp
    apply BitVec.eq_of_toNat_eq
    rw [Int32.toBitVec_and, BitVec.toNat_and]
    show y.toBitVec.toNat &&& 255 = (BitVec.ofNat 32 (y.toBitVec.toNat % 256)).toNat
    rw [BitVec.toNat_ofNat, show (255 : Nat) = 2 ^ 8 - 1 from rfl, Nat.and_two_pow_sub_one_eq_mod]
    omega
  have hc : (y.toInt8.toInt32).toInt = (y.toInt).bmod 256 := by rw [Int8.toInt_toInt32, Int32.toInt_toInt8]
  have hy : y.toInt % 256 = ((y.toBitVec.toNat % 256 : Nat) : Int) := by
    have h1 : y.toInt = y.toBitVec.toInt := rfl
    have hlt := y.toBitVec.isLt
    rw [h1, BitVec.toInt_eq_toNat_cond]
    split <;> omega
  have hb9 : (y.toInt).bmod 256 = if (y.toBitVec.toNat % 256) < 128 then ((y.toBitVec.toNat % 256 : Nat) : Int) else ((y.toBitVec.toNat % 256 : Nat) : Int) - 256 := by
    rw [Int.bmod_def, show ((256 : Nat) : Int) = 256 from rfl, hy]
    by_cases q : y.toBitVec.toNat % 256 < 128
    · rw [if_pos q, if_pos (by omega)]
    · rw [if_neg q, if_neg (by omega)]
  by_cases q : y.toBitVec.toNat % 256 < 128
  · refine Or.inl ⟨_, q, ?_, hm⟩
    rw [if_pos q] at hb9
    apply Int32.toInt_inj.mp
    rw [hc, hb9, nI_toInt (by omega)]
  · refine Or.inr ⟨?_, _, by omega, Nat.mod_lt _ (by decide), hm⟩
    rw [if_neg q] at hb9
    rw [Int32.lt_iff_toInt_lt, hc, hb9]
    show _ < (0 : Int)
    have := Nat.mod_lt y.toBitVec.toNat (show 256 > 0 by decide)
    omega
theorem pb_at {f : Nat → Int32} {t j : Nat} {x : Int32} (hj : j < 4) : pbF f t x (t + j) = byv x (nI (24 - 8 * j)) := by
  unfold pbF
  have h : j = 0 ∨ j = 1 ∨ j = 2 ∨ j = 3 := by omega
  rcases h with rfl | rfl | rfl | rfl
  · rw [pk_un (by omega), pk_un (by omega), pk_un (by omega)]; exact pk_us
  · rw [pk_un (by omega), pk_un (by omega), pk_us]
  · rw [pk_un (by omega), pk_us]
  · rw [pk_us]
theorem pb_n {f : Nat → Int32} {t i : Nat} {x : Int32} (h : i < t ∨ t + 4 ≤ i) : pbF f t x i = f i := by
  unfold pbF
  rw [pk_un (by omega), pk_un (by omega), pk_un (by omega), pk_un (by omega)]
def vsF (a b c e g : Int32) (k : Nat) : Int32 := if k < 4 then a else if k < 8 then b else if k < 12 then c else if k < 16 then e else g
theorem fd_at {f : Nat → Int32} {t k : Nat} {a b c e g : Int32} (hk : k < 20) : fdF f t a b c e g (t + k) = byv (vsF a b c e g k) (nI (24 - 8 * (k % 4))) := by
  unfold fdF vsF
  by_cases h1 : k < 4
  · rw [if_pos h1, pb_n (by omega), pb_n (by omega), pb_n (by omega), pb_n (by omega), pb_at h1, Nat.mod_eq_of_lt h1]
  · rw [if_neg h1]
    by_cases h2 : k < 8
    · rw [if_pos h2, pb_n (by omega), pb_n (by omega), pb_n (by omega), show t + k = t + 4 + (k - 4) by omega, pb_at (by omega), show k % 4 = k - 4 by omega]
    · rw [if_neg h2]
      by_cases h3 : k < 12
      · rw [if_pos h3, pb_n (by omega), pb_n (by omega), show t + k = t + 8 + (k - 8) by omega, pb_at (by omega), show k % 4 = k - 8 by omega]
      · rw [if_neg h3]
        by_cases h4 : k < 16
        · rw [if_pos h4, pb_n (by omega), show t + k = t + 12 + (k - 12) by omega, pb_at (by omega), show k % 4 = k - 12 by omega]
        · rw [if_neg h4, show t + k = t + 16 + (k - 16) by omega, pb_at (by omega), show k % 4 = k - 16 by omega]
theorem fd_n {f : Nat → Int32} {t i : Nat} {a b c e g : Int32} (h : i < t) : fdF f t a b c e g i = f i := by
  unfold fdF
  rw [pb_n (by omega), pb_n (by omega), pb_n (by omega), pb_n (by omega), pb_n (by omega)]
theorem rem4 : ∀ k, k < 20 → nI k - nI k / nI 4 * nI 4 = nI (k % 4) := by decide
theorem rem5 : ∀ k, k < 20 → nI 24 - nI 8 * nI (k % 4) = nI (24 - 8 * (k % 4)) := by decide
theorem TP.feed {tp m m' : Nat → Int32} {t : Nat} {a b c e g : Int32} (h : TP tp m t) (h1 : ∀ i, i < t → m' i = m i) (h2 : ∀ k, k < 20 → m' (t + k) = (vsF a b c e g k >>> (nI (24 - 8 * (k % 4)) &&& 31)) &&& nI 255) : TP (fdF tp t a b c e g) m' (t + 20) := by
  intro i hi
  by_cases q : i < t
  · rw [fd_n q, h1 i q]; exact h i q
  · obtain ⟨k, rfl⟩ : ∃ k, i = t + k := ⟨i - t, by omega⟩
    rw [fd_at (by omega), h2 k (by omega), byv_e]
    exact by_t _
theorem L10_feed {L0 : LL} {M : Nat → MR} {d t : Nat} {s : Nat → Int32} {A0 : Nat → Nat → Int32} {a b c e g : Int32} (ht : t + 20 ≤ 700) (e2 : s 2 = nI t) {Q : Option Value → List EC → Prop} : ∀ (n k : Nat) (A : Nat → Nat → Int32), k + n = 20 → (∀ j, j ≠ 1 → A j = A0 j) → (∀ i, i < t → A 1 i = A0 1 i) → (∀ i, i < k → A 1 (t + i) = (vsF a b c e g i >>> (nI (24 - 8 * (i % 4)) &&& 31)) &&& nI 255) →
    (∀ A, (∀ j, j ≠ 1 → A j = A0 j) → (∀ i, i < t → A 1 i = A0 1 i) → (∀ i, i < 20 → A 1 (t + i) = (vsF a b c e g i >>> (nI (24 - 8 * (i % 4)) &&& 31)) &&& nI 255) → J m10_feed d 0 0 40 110 [(0, .ref 0)] [] (modW s A L0 M) 0 0 Q) → J m10_feed d 0 0 40 20 [(0, .ref 0), (1, .int a), (2, .int b), (3, .int c), (4, .int e), (5, .int g), (6, .int (nI k))] [] (modW s A L0 M) 0 0 Q := by
  intro n
  induction n with
  | zero =>
    intro k A hk h1 h2 h3 Kc
    have e20 : k = 20 := by omega
    subst e20
    refine J_iload (pc := 20) D10_feed_20 rfl ?_
    refine J_bipush (pc := 22) (v := (nI 20)) D10_feed_22 (by decide) ?_
    refine J_icmp_ge (pc := 24) (tgt := 110) D10_feed_24 (by decide) (fun h24 => ?_) (fun h24 => absurd (nI_le (by omega) (by omega)) h24)
    refine J_lk [(0, .ref 0)] rfl ?_
    exact Kc A h1 h2 h3
  | succ n ih =>
    intro k A hk h1 h2 h3 Kc
    by_cases p0 : k < 4
    · have hv : vsF a b c e g k = a := by unfold vsF; rw [if_pos p0]
      refine J_iload (pc := 20) D10_feed_20 rfl ?_
      refine J_bipush (pc := 22) (v := (nI 20)) D10_feed_22 (by decide) ?_
      refine J_icmp_ge (pc := 24) (tgt := 110) D10_feed_24 (by decide) (fun h24 => absurd h24 (nI_ge (by omega) (by omega))) (fun h24 => ?_)
      refine J_iload (pc := 27) D10_feed_27 rfl ?_
      refine J_iconst (pc := 29) (v := (nI 4)) D10_feed_29 (by decide) ?_
      refine J_icmp_ge (pc := 30) (tgt := 37) D10_feed_30 (by decide) (fun h30 => absurd h30 (nI_ge (by omega) (by omega))) (fun h30 => ?_)
      refine J_iload_n (pc := 33) D10_feed_33 rfl ?_
      refine J_goto (pc := 34) (tgt := 73) D10_feed_34 (by decide) ?_
      refine J_istore (pc := 73) D10_feed_73 rfl ?_
      refine J_aload_n (pc := 75) D10_feed_75 rfl ?_
      refine J_getf (pc := 76) D10_feed_76 fl10_7 rfl rfl ?_
      refine J_aload_n (pc := 79) D10_feed_79 rfl ?_
      refine J_getf (pc := 80) D10_feed_80 fl10_142 rfl rfl ?_
      refine J_iload (pc := 83) D10_feed_83 rfl ?_
      refine J_iadd (pc := 85) D10_feed_85 ?_
      refine J_iload (pc := 86) D10_feed_86 rfl ?_
      refine J_bipush (pc := 88) (v := (nI 24)) D10_feed_88 (by decide) ?_
      refine J_bipush (pc := 90) (v := (nI 8)) D10_feed_90 (by decide) ?_
      refine J_iload (pc := 92) D10_feed_92 rfl ?_
      refine J_iconst (pc := 94) (v := (nI 4)) D10_feed_94 (by decide) ?_
      refine J_irem (pc := 95) D10_feed_95 (by decide) ?_
      refine J_imul (pc := 96) D10_feed_96 ?_
      refine J_isub (pc := 97) D10_feed_97 ?_
      refine J_ishr (pc := 98) D10_feed_98 ?_
      refine J_sipush (pc := 99) (v := (nI 255)) D10_feed_99 (by decide) ?_
      refine J_iand (pc := 102) D10_feed_102 ?_
      refine J_mast (pc := 103) D10_feed_103 ma_1 (by rw [e2, nI_add]) (by omega) rfl ?_
      refine J_iinc (pc := 104) D10_feed_104 rfl (nI_inc _) rfl ?_
      refine J_goto (pc := 107) (tgt := 20) D10_feed_107 (by decide) ?_
      refine J_lk [(0, .ref 0), (1, .int a), (2, .int b), (3, .int c), (4, .int e), (5, .int g), (6, .int (nI (k + 1)))] rfl ?_
      refine ih (k + 1) _ (by omega) (fun j hj => (upA_n hj).trans (h1 j hj)) (fun i hi => ?_) (fun i hi => ?_) Kc
      · rw [upA_s, pk_un (by omega)]; exact h2 i hi
      · rw [upA_s]
        by_cases q : i = k
        · rw [q, pk_us, hv, ← rem5 k (by omega), ← rem4 k (by omega)]
        · rw [pk_un (by omega)]; exact h3 i (by omega)
    · by_cases p1 : k < 8
      · have hv : vsF a b c e g k = b := by unfold vsF; rw [if_neg p0, if_pos p1]
        refine J_iload (pc := 20) D10_feed_20 rfl ?_
        refine J_bipush (pc := 22) (v := (nI 20)) D10_feed_22 (by decide) ?_
        refine J_icmp_ge (pc := 24) (tgt := 110) D10_feed_24 (by decide) (fun h24 => absurd h24 (nI_ge (by omega) (by omega))) (fun h24 => ?_)
        refine J_iload (pc := 27) D10_feed_27 rfl ?_
        refine J_iconst (pc := 29) (v := (nI 4)) D10_feed_29 (by decide) ?_
        refine J_icmp_ge (pc := 30) (tgt := 37) D10_feed_30 (by decide) (fun h30 => ?_) (fun h30 => absurd (nI_le (by omega) (by omega)) h30)
        refine J_iload (pc := 37) D10_feed_37 rfl ?_
        refine J_bipush (pc := 39) (v := (nI 8)) D10_feed_39 (by decide) ?_
        refine J_icmp_ge (pc := 41) (tgt := 48) D10_feed_41 (by decide) (fun h41 => absurd h41 (nI_ge (by omega) (by omega))) (fun h41 => ?_)
        refine J_iload_n (pc := 44) D10_feed_44 rfl ?_
        refine J_goto (pc := 45) (tgt := 73) D10_feed_45 (by decide) ?_
        refine J_istore (pc := 73) D10_feed_73 rfl ?_
        refine J_aload_n (pc := 75) D10_feed_75 rfl ?_
        refine J_getf (pc := 76) D10_feed_76 fl10_7 rfl rfl ?_
        refine J_aload_n (pc := 79) D10_feed_79 rfl ?_
        refine J_getf (pc := 80) D10_feed_80 fl10_142 rfl rfl ?_
        refine J_iload (pc := 83) D10_feed_83 rfl ?_
        refine J_iadd (pc := 85) D10_feed_85 ?_
        refine J_iload (pc := 86) D10_feed_86 rfl ?_
        refine J_bipush (pc := 88) (v := (nI 24)) D10_feed_88 (by decide) ?_
        refine J_bipush (pc := 90) (v := (nI 8)) D10_feed_90 (by decide) ?_
        refine J_iload (pc := 92) D10_feed_92 rfl ?_
        refine J_iconst (pc := 94) (v := (nI 4)) D10_feed_94 (by decide) ?_
        refine J_irem (pc := 95) D10_feed_95 (by decide) ?_
        refine J_imul (pc := 96) D10_feed_96 ?_
        refine J_isub (pc := 97) D10_feed_97 ?_
        refine J_ishr (pc := 98) D10_feed_98 ?_
        refine J_sipush (pc := 99) (v := (nI 255)) D10_feed_99 (by decide) ?_
        refine J_iand (pc := 102) D10_feed_102 ?_
        refine J_mast (pc := 103) D10_feed_103 ma_1 (by rw [e2, nI_add]) (by omega) rfl ?_
        refine J_iinc (pc := 104) D10_feed_104 rfl (nI_inc _) rfl ?_
        refine J_goto (pc := 107) (tgt := 20) D10_feed_107 (by decide) ?_
        refine J_lk [(0, .ref 0), (1, .int a), (2, .int b), (3, .int c), (4, .int e), (5, .int g), (6, .int (nI (k + 1)))] rfl ?_
        refine ih (k + 1) _ (by omega) (fun j hj => (upA_n hj).trans (h1 j hj)) (fun i hi => ?_) (fun i hi => ?_) Kc
        · rw [upA_s, pk_un (by omega)]; exact h2 i hi
        · rw [upA_s]
          by_cases q : i = k
          · rw [q, pk_us, hv, ← rem5 k (by omega), ← rem4 k (by omega)]
          · rw [pk_un (by omega)]; exact h3 i (by omega)
      · by_cases p2 : k < 12
        · have hv : vsF a b c e g k = c := by unfold vsF; rw [if_neg p0, if_neg p1, if_pos p2]
          refine J_iload (pc := 20) D10_feed_20 rfl ?_
          refine J_bipush (pc := 22) (v := (nI 20)) D10_feed_22 (by decide) ?_
          refine J_icmp_ge (pc := 24) (tgt := 110) D10_feed_24 (by decide) (fun h24 => absurd h24 (nI_ge (by omega) (by omega))) (fun h24 => ?_)
          refine J_iload (pc := 27) D10_feed_27 rfl ?_
          refine J_iconst (pc := 29) (v := (nI 4)) D10_feed_29 (by decide) ?_
          refine J_icmp_ge (pc := 30) (tgt := 37) D10_feed_30 (by decide) (fun h30 => ?_) (fun h30 => absurd (nI_le (by omega) (by omega)) h30)
          refine J_iload (pc := 37) D10_feed_37 rfl ?_
          refine J_bipush (pc := 39) (v := (nI 8)) D10_feed_39 (by decide) ?_
          refine J_icmp_ge (pc := 41) (tgt := 48) D10_feed_41 (by decide) (fun h41 => ?_) (fun h41 => absurd (nI_le (by omega) (by omega)) h41)
          refine J_iload (pc := 48) D10_feed_48 rfl ?_
          refine J_bipush (pc := 50) (v := (nI 12)) D10_feed_50 (by decide) ?_
          refine J_icmp_ge (pc := 52) (tgt := 59) D10_feed_52 (by decide) (fun h52 => absurd h52 (nI_ge (by omega) (by omega))) (fun h52 => ?_)
          refine J_iload_n (pc := 55) D10_feed_55 rfl ?_
          refine J_goto (pc := 56) (tgt := 73) D10_feed_56 (by decide) ?_
          refine J_istore (pc := 73) D10_feed_73 rfl ?_
          refine J_aload_n (pc := 75) D10_feed_75 rfl ?_
          refine J_getf (pc := 76) D10_feed_76 fl10_7 rfl rfl ?_
          refine J_aload_n (pc := 79) D10_feed_79 rfl ?_
          refine J_getf (pc := 80) D10_feed_80 fl10_142 rfl rfl ?_
          refine J_iload (pc := 83) D10_feed_83 rfl ?_
          refine J_iadd (pc := 85) D10_feed_85 ?_
          refine J_iload (pc := 86) D10_feed_86 rfl ?_
          refine J_bipush (pc := 88) (v := (nI 24)) D10_feed_88 (by decide) ?_
          refine J_bipush (pc := 90) (v := (nI 8)) D10_feed_90 (by decide) ?_
          refine J_iload (pc := 92) D10_feed_92 rfl ?_
          refine J_iconst (pc := 94) (v := (nI 4)) D10_feed_94 (by decide) ?_
          refine J_irem (pc := 95) D10_feed_95 (by decide) ?_
          refine J_imul (pc := 96) D10_feed_96 ?_
          refine J_isub (pc := 97) D10_feed_97 ?_
          refine J_ishr (pc := 98) D10_feed_98 ?_
          refine J_sipush (pc := 99) (v := (nI 255)) D10_feed_99 (by decide) ?_
          refine J_iand (pc := 102) D10_feed_102 ?_
          refine J_mast (pc := 103) D10_feed_103 ma_1 (by rw [e2, nI_add]) (by omega) rfl ?_
          refine J_iinc (pc := 104) D10_feed_104 rfl (nI_inc _) rfl ?_
          refine J_goto (pc := 107) (tgt := 20) D10_feed_107 (by decide) ?_
          refine J_lk [(0, .ref 0), (1, .int a), (2, .int b), (3, .int c), (4, .int e), (5, .int g), (6, .int (nI (k + 1)))] rfl ?_
          refine ih (k + 1) _ (by omega) (fun j hj => (upA_n hj).trans (h1 j hj)) (fun i hi => ?_) (fun i hi => ?_) Kc
          · rw [upA_s, pk_un (by omega)]; exact h2 i hi
          · rw [upA_s]
            by_cases q : i = k
            · rw [q, pk_us, hv, ← rem5 k (by omega), ← rem4 k (by omega)]
            · rw [pk_un (by omega)]; exact h3 i (by omega)
        · by_cases p3 : k < 16
          · have hv : vsF a b c e g k = e := by unfold vsF; rw [if_neg p0, if_neg p1, if_neg p2, if_pos p3]
            refine J_iload (pc := 20) D10_feed_20 rfl ?_
            refine J_bipush (pc := 22) (v := (nI 20)) D10_feed_22 (by decide) ?_
            refine J_icmp_ge (pc := 24) (tgt := 110) D10_feed_24 (by decide) (fun h24 => absurd h24 (nI_ge (by omega) (by omega))) (fun h24 => ?_)
            refine J_iload (pc := 27) D10_feed_27 rfl ?_
            refine J_iconst (pc := 29) (v := (nI 4)) D10_feed_29 (by decide) ?_
            refine J_icmp_ge (pc := 30) (tgt := 37) D10_feed_30 (by decide) (fun h30 => ?_) (fun h30 => absurd (nI_le (by omega) (by omega)) h30)
            refine J_iload (pc := 37) D10_feed_37 rfl ?_
            refine J_bipush (pc := 39) (v := (nI 8)) D10_feed_39 (by decide) ?_
            refine J_icmp_ge (pc := 41) (tgt := 48) D10_feed_41 (by decide) (fun h41 => ?_) (fun h41 => absurd (nI_le (by omega) (by omega)) h41)
            refine J_iload (pc := 48) D10_feed_48 rfl ?_
            refine J_bipush (pc := 50) (v := (nI 12)) D10_feed_50 (by decide) ?_
            refine J_icmp_ge (pc := 52) (tgt := 59) D10_feed_52 (by decide) (fun h52 => ?_) (fun h52 => absurd (nI_le (by omega) (by omega)) h52)
            refine J_iload (pc := 59) D10_feed_59 rfl ?_
            refine J_bipush (pc := 61) (v := (nI 16)) D10_feed_61 (by decide) ?_
            refine J_icmp_ge (pc := 63) (tgt := 71) D10_feed_63 (by decide) (fun h63 => absurd h63 (nI_ge (by omega) (by omega))) (fun h63 => ?_)
            refine J_iload (pc := 66) D10_feed_66 rfl ?_
            refine J_goto (pc := 68) (tgt := 73) D10_feed_68 (by decide) ?_
            refine J_istore (pc := 73) D10_feed_73 rfl ?_
            refine J_aload_n (pc := 75) D10_feed_75 rfl ?_
            refine J_getf (pc := 76) D10_feed_76 fl10_7 rfl rfl ?_
            refine J_aload_n (pc := 79) D10_feed_79 rfl ?_
            refine J_getf (pc := 80) D10_feed_80 fl10_142 rfl rfl ?_
            refine J_iload (pc := 83) D10_feed_83 rfl ?_
            refine J_iadd (pc := 85) D10_feed_85 ?_
            refine J_iload (pc := 86) D10_feed_86 rfl ?_
            refine J_bipush (pc := 88) (v := (nI 24)) D10_feed_88 (by decide) ?_
            refine J_bipush (pc := 90) (v := (nI 8)) D10_feed_90 (by decide) ?_
            refine J_iload (pc := 92) D10_feed_92 rfl ?_
            refine J_iconst (pc := 94) (v := (nI 4)) D10_feed_94 (by decide) ?_
            refine J_irem (pc := 95) D10_feed_95 (by decide) ?_
            refine J_imul (pc := 96) D10_feed_96 ?_
            refine J_isub (pc := 97) D10_feed_97 ?_
            refine J_ishr (pc := 98) D10_feed_98 ?_
            refine J_sipush (pc := 99) (v := (nI 255)) D10_feed_99 (by decide) ?_
            refine J_iand (pc := 102) D10_feed_102 ?_
            refine J_mast (pc := 103) D10_feed_103 ma_1 (by rw [e2, nI_add]) (by omega) rfl ?_
            refine J_iinc (pc := 104) D10_feed_104 rfl (nI_inc _) rfl ?_
            refine J_goto (pc := 107) (tgt := 20) D10_feed_107 (by decide) ?_
            refine J_lk [(0, .ref 0), (1, .int a), (2, .int b), (3, .int c), (4, .int e), (5, .int g), (6, .int (nI (k + 1)))] rfl ?_
            refine ih (k + 1) _ (by omega) (fun j hj => (upA_n hj).trans (h1 j hj)) (fun i hi => ?_) (fun i hi => ?_) Kc
            · rw [upA_s, pk_un (by omega)]; exact h2 i hi
            · rw [upA_s]
              by_cases q : i = k
              · rw [q, pk_us, hv, ← rem5 k (by omega), ← rem4 k (by omega)]
              · rw [pk_un (by omega)]; exact h3 i (by omega)
          · have hv : vsF a b c e g k = g := by unfold vsF; rw [if_neg p0, if_neg p1, if_neg p2, if_neg p3]
            refine J_iload (pc := 20) D10_feed_20 rfl ?_
            refine J_bipush (pc := 22) (v := (nI 20)) D10_feed_22 (by decide) ?_
            refine J_icmp_ge (pc := 24) (tgt := 110) D10_feed_24 (by decide) (fun h24 => absurd h24 (nI_ge (by omega) (by omega))) (fun h24 => ?_)
            refine J_iload (pc := 27) D10_feed_27 rfl ?_
            refine J_iconst (pc := 29) (v := (nI 4)) D10_feed_29 (by decide) ?_
            refine J_icmp_ge (pc := 30) (tgt := 37) D10_feed_30 (by decide) (fun h30 => ?_) (fun h30 => absurd (nI_le (by omega) (by omega)) h30)
            refine J_iload (pc := 37) D10_feed_37 rfl ?_
            refine J_bipush (pc := 39) (v := (nI 8)) D10_feed_39 (by decide) ?_
            refine J_icmp_ge (pc := 41) (tgt := 48) D10_feed_41 (by decide) (fun h41 => ?_) (fun h41 => absurd (nI_le (by omega) (by omega)) h41)
            refine J_iload (pc := 48) D10_feed_48 rfl ?_
            refine J_bipush (pc := 50) (v := (nI 12)) D10_feed_50 (by decide) ?_
            refine J_icmp_ge (pc := 52) (tgt := 59) D10_feed_52 (by decide) (fun h52 => ?_) (fun h52 => absurd (nI_le (by omega) (by omega)) h52)
            refine J_iload (pc := 59) D10_feed_59 rfl ?_
            refine J_bipush (pc := 61) (v := (nI 16)) D10_feed_61 (by decide) ?_
            refine J_icmp_ge (pc := 63) (tgt := 71) D10_feed_63 (by decide) (fun h63 => ?_) (fun h63 => absurd (nI_le (by omega) (by omega)) h63)
            refine J_iload (pc := 71) D10_feed_71 rfl ?_
            refine J_istore (pc := 73) D10_feed_73 rfl ?_
            refine J_aload_n (pc := 75) D10_feed_75 rfl ?_
            refine J_getf (pc := 76) D10_feed_76 fl10_7 rfl rfl ?_
            refine J_aload_n (pc := 79) D10_feed_79 rfl ?_
            refine J_getf (pc := 80) D10_feed_80 fl10_142 rfl rfl ?_
            refine J_iload (pc := 83) D10_feed_83 rfl ?_
            refine J_iadd (pc := 85) D10_feed_85 ?_
            refine J_iload (pc := 86) D10_feed_86 rfl ?_
            refine J_bipush (pc := 88) (v := (nI 24)) D10_feed_88 (by decide) ?_
            refine J_bipush (pc := 90) (v := (nI 8)) D10_feed_90 (by decide) ?_
            refine J_iload (pc := 92) D10_feed_92 rfl ?_
            refine J_iconst (pc := 94) (v := (nI 4)) D10_feed_94 (by decide) ?_
            refine J_irem (pc := 95) D10_feed_95 (by decide) ?_
            refine J_imul (pc := 96) D10_feed_96 ?_
            refine J_isub (pc := 97) D10_feed_97 ?_
            refine J_ishr (pc := 98) D10_feed_98 ?_
            refine J_sipush (pc := 99) (v := (nI 255)) D10_feed_99 (by decide) ?_
            refine J_iand (pc := 102) D10_feed_102 ?_
            refine J_mast (pc := 103) D10_feed_103 ma_1 (by rw [e2, nI_add]) (by omega) rfl ?_
            refine J_iinc (pc := 104) D10_feed_104 rfl (nI_inc _) rfl ?_
            refine J_goto (pc := 107) (tgt := 20) D10_feed_107 (by decide) ?_
            refine J_lk [(0, .ref 0), (1, .int a), (2, .int b), (3, .int c), (4, .int e), (5, .int g), (6, .int (nI (k + 1)))] rfl ?_
            refine ih (k + 1) _ (by omega) (fun j hj => (upA_n hj).trans (h1 j hj)) (fun i hi => ?_) (fun i hi => ?_) Kc
            · rw [upA_s, pk_un (by omega)]; exact h2 i hi
            · rw [upA_s]
              by_cases q : i = k
              · rw [q, pk_us, hv, ← rem5 k (by omega), ← rem4 k (by omega)]
              · rw [pk_un (by omega)]; exact h3 i (by omega)
theorem c10_feed {d : Nat} {s : Nat → Int32} {A : Nat → Nat → Int32} {L0 : LL} {M : Nat → MR} {t : Nat} {tp : Nat → Int32} {a b c e g : Int32} (ht : t ≤ 700) (e2 : s 2 = nI t) (hTP : TP tp (A 1) t) : Tr d 0 0 m10_feed [.ref 0, .int a, .int b, .int c, .int e, .int g] (modW s A L0 M) (fun r w' => r = some (.int (fdA t)) ∧ ∃ s' A', w' = modW s' A' L0 M ∧ s' 2 = nI (fdT t) ∧ (∀ k, k ≠ 0 → k ≠ 2 → s' k = s k) ∧ (∀ j, j ≠ 1 → A' j = A j) ∧ TP (if t + 20 ≤ 700 then fdF tp t a b c e g else tp) (A' 1) (fdT t)) := by
  by_cases hq : t + 20 ≤ 700
  · rw [fdA, if_pos hq, fdT, if_pos hq, if_pos hq]
    refine Tr.intro (by decide) rfl ?_
    refine J_aload_n (pc := 0) D10_feed_0 rfl ?_
    refine J_iconst (pc := 1) (v := (nI 0)) D10_feed_1 (by decide) ?_
    refine J_mput (pc := 2) D10_feed_2 fp10_139 ms_0 ?_
    refine J_aload_n (pc := 5) D10_feed_5 rfl ?_
    refine J_getf (pc := 6) D10_feed_6 fl10_142 rfl rfl ?_
    refine J_sipush (pc := 9) (v := (nI 680)) D10_feed_9 (by decide) ?_
    rw [show (updI s 0 (nI 0)) 2 = nI t from e2]
    refine J_icmp_le (pc := 12) (tgt := 17) D10_feed_12 (by decide) (fun h12 => ?_) (fun h12 => absurd (nI_le (by omega) (by omega)) h12)
    refine J_iconst (pc := 17) (v := (nI 0)) D10_feed_17 (by decide) ?_
    refine J_istore (pc := 18) D10_feed_18 rfl ?_
    refine J_lk [(0, .ref 0), (1, .int a), (2, .int b), (3, .int c), (4, .int e), (5, .int g), (6, .int (nI 0))] rfl ?_
    refine L10_feed (s := updI s 0 (nI 0)) hq e2 20 0 A (by omega) (fun _ _ => rfl) (fun _ _ => rfl) (fun i hi => absurd hi (by omega)) (fun A1 b1 b2 b3 => ?_)
    refine J_aload_n (pc := 110) D10_feed_110 rfl ?_
    refine J_dup (pc := 111) D10_feed_111 rfl ?_
    refine J_getf (pc := 112) D10_feed_112 fl10_142 rfl rfl ?_
    refine J_bipush (pc := 115) (v := (nI 20)) D10_feed_115 (by decide) ?_
    refine J_iadd (pc := 117) D10_feed_117 ?_
    refine J_mput (pc := 118) D10_feed_118 fp10_142 ms_2 ?_
    refine J_aload_n (pc := 121) D10_feed_121 rfl ?_
    refine J_getf (pc := 122) D10_feed_122 fl10_142 rfl rfl ?_
    refine J_iret (pc := 125) D10_feed_125 rfl ?_
    refine ⟨?_, _, A1, rfl, ?_, fun k h0 h2 => (updI_n h2).trans (updI_n h0), b1, hTP.feed b2 b3⟩
    · show some (Value.int (s 2 + nI 20)) = _
      rw [e2, nI_add]
    · show s 2 + nI 20 = _
      rw [e2, nI_add]
  · rw [fdA, if_neg hq, fdT, if_neg hq, if_neg hq]
    refine Tr.intro (by decide) rfl ?_
    refine J_aload_n (pc := 0) D10_feed_0 rfl ?_
    refine J_iconst (pc := 1) (v := (nI 0)) D10_feed_1 (by decide) ?_
    refine J_mput (pc := 2) D10_feed_2 fp10_139 ms_0 ?_
    refine J_aload_n (pc := 5) D10_feed_5 rfl ?_
    refine J_getf (pc := 6) D10_feed_6 fl10_142 rfl rfl ?_
    refine J_sipush (pc := 9) (v := (nI 680)) D10_feed_9 (by decide) ?_
    rw [show (updI s 0 (nI 0)) 2 = nI t from e2]
    refine J_icmp_le (pc := 12) (tgt := 17) D10_feed_12 (by decide) (fun h12 => absurd h12 (nI_ge (by omega) (by omega))) (fun h12 => ?_)
    refine J_iconst (pc := 15) (v := (-1)) D10_feed_15 (by decide) ?_
    refine J_iret (pc := 16) D10_feed_16 rfl ?_
    exact ⟨rfl, _, A, rfl, e2, fun k h0 _ => updI_n h0, fun _ _ => rfl, hTP⟩
