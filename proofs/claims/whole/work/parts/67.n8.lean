/-! THE MODEL: lasts (own program mod_n8.py) -/
def bwN (n : Nat) : Nat → Nat
  | 0 => 1
  | i + 1 => bwN n i * (n - i) / (i + 1)
theorem bw_d : ∀ n, n < 6 → ∀ i, i < 6 → Int64.ofNat (bwN n i) * (nI (n - i)).toInt64 / (nI (i + 1)).toInt64 = Int64.ofNat (bwN n (i + 1)) := by decide +kernel
theorem bw_le : ∀ n, n < 6 → ∀ i, i < 7 → bwN n i ≤ 10 := by decide
theorem oN_mul (a b : Nat) : Int64.ofNat a * Int64.ofNat b = Int64.ofNat (a * b) := (Int64.ofNat_mul a b).symm
theorem oN_add (a b : Nat) : Int64.ofNat a + Int64.ofNat b = Int64.ofNat (a + b) := (Int64.ofNat_add a b).symm
theorem pwF_n (x : Nat) : ∀ k, pwF (Int64.ofNat x) k = Int64.ofNat (x ^ k)
  | 0 => rfl
  | k + 1 => by rw [pwF, pwF_n x k, oN_mul, Nat.pow_succ]
theorem nI_subN {a b : Nat} (h : b ≤ a) : nI a - nI b = nI (a - b) := by
  obtain ⟨c, rfl⟩ : ∃ c, a = b + c := ⟨a - b, by omega⟩
  rw [← nI_add, Int32.add_comm, Int32.add_sub_cancel]
  congr 1
  omega
theorem lasL_b {t n : Nat} {ck : Int32} (ht : t ≤ 100) (hn : n ≤ 5) : ∀ (g s a0 : Nat), s + g = n + 1 → ∃ a, a ≤ a0 + g * 100000000000 ∧ lasL (nI t) ck n g s (Int64.ofNat a0) (Int64.ofNat (bwN n s)) = Int64.ofNat a
  | 0, s, a0, _ => ⟨a0, by omega, rfl⟩
  | g + 1, s, a0, h => by
    rw [lasL]
    by_cases hc : nI s < ck
    · rw [if_pos hc, nI_subN ht, nI_64 (by omega), nI_64 (by omega), pwF_n, pwF_n, oN_mul, oN_mul, oN_add]
      have hd := bw_d n (by omega) s (by omega)
      rw [hd]
      obtain ⟨a, h1, h2⟩ := lasL_b ht hn g (s + 1) (a0 + bwN n s * t ^ s * (100 - t) ^ (n - s)) (by omega)
      refine ⟨a, ?_, h2⟩
      have h3 := bw_le n (by omega) s (by omega)
      have h4 : t ^ s ≤ 100 ^ s := Nat.pow_le_pow_left ht s
      have h5 : (100 - t) ^ (n - s) ≤ 100 ^ (n - s) := Nat.pow_le_pow_left (by omega) _
      have h6 : bwN n s * t ^ s * (100 - t) ^ (n - s) ≤ 10 * 100 ^ s * 100 ^ (n - s) := Nat.mul_le_mul (Nat.mul_le_mul h3 h4) h5
      have h7 : 10 * 100 ^ s * 100 ^ (n - s) = 10 * 100 ^ n := by rw [Nat.mul_assoc, ← Nat.pow_add, show s + (n - s) = n by omega]
      have h8 : 100 ^ n ≤ 100 ^ 5 := Nat.pow_le_pow_right (by omega) hn
      have h9 : (100 : Nat) ^ 5 = 10000000000 := by decide
      omega
    · rw [if_neg hc]
      exact ⟨a0, by omega, rfl⟩
theorem oN_i {n : Nat} (h : n < 9223372036854775808) : (Int64.ofNat n).toInt = n := by
  rw [Int64.toInt_ofNat']
  exact bm64 (by omega) (by omega)
theorem oN_z {n : Nat} (h : n < 9223372036854775808) : Int64.ofNat n = 0 ↔ n = 0 := by
  constructor
  · intro e
    have := congrArg Int64.toInt e
    rw [oN_i h, z64] at this
    omega
  · rintro rfl; rfl
theorem oN_rem {a b : Nat} (ha : a < 4611686018427387904) (hb : b < 4611686018427387904) (h0 : b ≠ 0) : Int64.ofNat a - Int64.ofNat a / Int64.ofNat b * Int64.ofNat b = Int64.ofNat (a % b) := by
  have hd : Int64.ofNat a / Int64.ofNat b = Int64.ofNat (a / b) := by
    apply Int64.toInt_inj.mp
    rw [Int64.toInt_div_of_ne_left _ _ (by
      intro e
      have := congrArg Int64.toInt e
      rw [oN_i (by omega), show Int64.minValue.toInt = -9223372036854775808 from rfl] at this
      omega), oN_i (by omega), oN_i (by omega), oN_i (Nat.lt_of_le_of_lt (Nat.div_le_self a b) (by omega)), Int.tdiv_eq_ediv_of_nonneg (by omega)]
    exact (Int.natCast_ediv a b).symm
  rw [hd, oN_mul]
  have h1 : a / b * b ≤ a := Nat.div_mul_le_self a b
  have h2 := Nat.mod_add_div a b
  rw [Nat.mul_comm] at h2
  apply Int64.toInt_inj.mp
  rw [Int64.toInt_sub, oN_i (by omega), oN_i (by omega), oN_i (by omega), bm64 (by omega) (by omega)]
  omega
theorem gcd_s (a b : Nat) : Nat.gcd a b = Nat.gcd b (a % b) := by rw [Nat.gcd_comm a b, Nat.gcd_rec b a, Nat.gcd_comm]
/-- Euclid's steps, as many as they may be -/
theorem coL_g : ∀ (k g a b : Nat), 2 * k + 1 ≤ g → a < 4611686018427387904 → b < 4611686018427387904 → b < 2 ^ k → coL g (Int64.ofNat a) (Int64.ofNat b) = Int64.ofNat (Nat.gcd a b)
  | 0, g, a, b, hg, _, _, hb => by
    obtain ⟨g, rfl⟩ : ∃ g', g = g' + 1 := ⟨g - 1, by omega⟩
    have : b = 0 := by simp at hb; omega
    subst this
    rw [coL, if_pos (show Int64.ofNat 0 = 0 from rfl), Nat.gcd_zero_right]
  | k + 1, g, a, b, hg, ha, hb2, hb => by
    obtain ⟨g, rfl⟩ : ∃ g', g = g' + 2 := ⟨g - 2, by omega⟩
    rw [coL]
    by_cases h0 : b = 0
    · subst h0; rw [if_pos (show Int64.ofNat 0 = 0 from rfl), Nat.gcd_zero_right]
    · rw [if_neg (fun e => h0 ((oN_z (by omega)).mp e)), oN_rem ha hb2 h0]
      have hr : a % b < b := Nat.mod_lt a (by omega)
      rw [coL]
      by_cases h1 : a % b = 0
      · rw [h1, if_pos (show Int64.ofNat 0 = 0 from rfl), gcd_s, h1, Nat.gcd_zero_right]
      · rw [if_neg (fun e => h1 ((oN_z (by omega)).mp e)), oN_rem hb2 (by omega) h1]
        have h2 : b % (a % b) < a % b := Nat.mod_lt b (by omega)
        have h3 := Nat.mod_add_div b (a % b)
        have h4 : 1 ≤ b / (a % b) := Nat.div_pos (Nat.le_of_lt hr) (by omega)
        have h5 : a % b * 1 ≤ a % b * (b / (a % b)) := Nat.mul_le_mul_left _ h4
        have h6 : b % (a % b) < 2 ^ k := by
          rw [Nat.pow_succ] at hb
          omega
        rw [coL_g k g (a % b) (b % (a % b)) (by omega) (by omega) (by omega) h6, gcd_s a b, gcd_s b (a % b)]
theorem L10_common {d : Nat} {x0 y0 : Int64} : ∀ (f a b : Nat), b < f → a < 4611686018427387904 → b < 4611686018427387904 → J m10_common d 0 0 0 6 [(0, .long x0), (2, .long y0), (4, .long (Int64.ofNat a)), (6, .long (Int64.ofNat b))] [] [] 0 0 (fun r w' => w' = [] ∧ r = some (.long (Int64.ofNat (Nat.gcd a b)))) := by
  intro f
  induction f with
  | zero => intro a b hf; omega
  | succ f ih =>
    intro a b hf ha hb
    by_cases h0 : b = 0
    · subst h0
      refine J_lload (pc := 6) D10_common_6 rfl ?_
      refine J_lconst (pc := 8) (v := 0) D10_common_8 (by decide) ?_
      refine J_lcmp (pc := 9) D10_common_9 ?_
      refine J_if_eq (pc := 10) (tgt := 31) D10_common_10 (by decide) (fun h10 => ?_) (fun h10 => absurd (by decide) h10)
      refine J_lload (pc := 31) D10_common_31 rfl ?_
      refine J_lret (pc := 33) D10_common_33 rfl ?_
      exact ⟨rfl, congrArg (fun q => some (Value.long q)) (by rw [Nat.gcd_zero_right])⟩
    · have hr : a % b < b := Nat.mod_lt a (by omega)
      refine J_lload (pc := 6) D10_common_6 rfl ?_
      refine J_lconst (pc := 8) (v := 0) D10_common_8 (by decide) ?_
      refine J_lcmp (pc := 9) D10_common_9 ?_
      refine J_if_eq (pc := 10) (tgt := 31) D10_common_10 (by decide) (fun h10 => absurd h10 (fun q => h0 ((oN_z (by omega)).mp ((lg_cmp_eq _ _).mp q)))) (fun h10 => ?_)
      refine J_lload (pc := 13) D10_common_13 rfl ?_
      refine J_lload (pc := 15) D10_common_15 rfl ?_
      refine J_lrem (pc := 17) D10_common_17 (fun q => h0 ((oN_z (by omega)).mp q)) ?_
      refine J_lstore (pc := 18) D10_common_18 rfl ?_
      refine J_lload (pc := 20) D10_common_20 rfl ?_
      refine J_lstore (pc := 22) D10_common_22 rfl ?_
      refine J_lload (pc := 24) D10_common_24 rfl ?_
      refine J_lstore (pc := 26) D10_common_26 rfl ?_
      refine J_goto (pc := 28) (tgt := 6) D10_common_28 (by decide) ?_
      rw [gcd_s a b]
      refine J_lk [(0, .long x0), (2, .long y0), (4, .long (Int64.ofNat b)), (6, .long (Int64.ofNat (a % b)))] (by rw [← oN_rem ha hb h0]; rfl) ?_
      exact ih b (a % b) (by omega) hb (by omega)
theorem c10_common {d a b : Nat} (ha : a < 4611686018427387904) (hb : b < 4611686018427387904) : TR d m10_common [.long (Int64.ofNat a), .long (Int64.ofNat b)] [] (.long (Int64.ofNat (Nat.gcd a b))) := by
  refine Tr.intro (by decide) rfl ?_
  refine J_lload_n (pc := 0) D10_common_0 rfl ?_
  refine J_lstore (pc := 1) D10_common_1 rfl ?_
  refine J_lload_n (pc := 3) D10_common_3 rfl ?_
  refine J_lstore (pc := 4) D10_common_4 rfl ?_
  exact L10_common (b + 1) a b (by omega) ha hb
def wyP (T : TV) (n k i : Nat) : Int64 := if i ≤ k then Int64.ofNat (bwN n k) * pwF (T.1 15).toInt64 i else Int64.ofNat (bwN n k) * pwF (T.1 15).toInt64 k * pwF (nI 100 - T.1 15).toInt64 (i - k)
theorem wyP_1 {T : TV} {n k i : Nat} (h : i < k) : wyP T n k i * (T.1 15).toInt64 = wyP T n k (i + 1) := by
  rw [wyP, wyP, if_pos (by omega), if_pos (by omega), pwF, Int64.mul_assoc]
theorem wyP_2 {T : TV} {n k i : Nat} (h : k ≤ i) : wyP T n k i * (nI 100 - T.1 15).toInt64 = wyP T n k (i + 1) := by
  rw [wyP, wyP, if_neg (show ¬ i + 1 ≤ k by omega), show i + 1 - k = (i - k) + 1 by omega, pwF]
  by_cases e : i ≤ k
  · have e1 : i = k := by omega
    subst e1
    rw [if_pos e, Nat.sub_self, pwF, Int64.one_mul]
  · rw [if_neg e, Int64.mul_assoc]
theorem L10_ways34 {d : Nat} {s : Nat → Int32} {A : Nat → Nat → Int32} {L : LL} {M : Nat → MR} {T : TV} {np nb nn : Nat} (hR : RT A T np nb nn) (hT : WT T np nb nn) {n k : Nat} (hn : n ≤ 5) (hk : k ≤ n) : ∀ (g i : Nat), i + g = n → J m10_waysOf d 0 0 40 34 [(0, .ref 0), (1, .int (nI n)), (2, .int (nI k)), (3, .long (wyP T n k i)), (5, .int (nI i))] [] (modW s A L M) 0 0 (fun r w' => w' = modW s A L M ∧ r = some (.long (wyP T n k n))) := by
  have e3 := hR.2.2.2.1
  intro g
  induction g with
  | zero =>
    intro i hi
    have e9 : i = n := by omega
    refine J_iload (pc := 34) D10_waysOf_34 rfl ?_
    refine J_iload_n (pc := 36) D10_waysOf_36 rfl ?_
    refine J_icmp_ge (pc := 37) (tgt := 75) D10_waysOf_37 (by decide) (fun h37 => ?_) (fun h37 => absurd (nI_le (by omega) (by omega)) h37)
    refine J_lload_n (pc := 75) D10_waysOf_75 rfl ?_
    refine J_lret (pc := 76) D10_waysOf_76 rfl ?_
    exact ⟨rfl, by rw [e9]⟩
  | succ g ih =>
    intro i hi
    refine J_iload (pc := 34) D10_waysOf_34 rfl ?_
    refine J_iload_n (pc := 36) D10_waysOf_36 rfl ?_
    refine J_icmp_ge (pc := 37) (tgt := 75) D10_waysOf_37 (by decide) (fun h37 => absurd h37 (nI_ge (by omega) (by omega))) (fun h37 => ?_)
    refine J_lload_n (pc := 40) D10_waysOf_40 rfl ?_
    refine J_iload (pc := 41) D10_waysOf_41 rfl ?_
    refine J_iload_n (pc := 43) D10_waysOf_43 rfl ?_
    refine J_icmp_ge (pc := 44) (tgt := 57) D10_waysOf_44 (by decide) (fun h44 => ?_) (fun h44 => ?_)
    · have h44' := Int32.not_lt.mpr h44
      refine J_bipush (pc := 57) (v := (nI 100)) D10_waysOf_57 (by decide) ?_
      refine J_aload_n (pc := 59) D10_waysOf_59 rfl ?_
      refine J_getf (pc := 60) D10_waysOf_60 fl10_13 rfl rfl ?_
      refine J_iconst (pc := 63) (v := (nI 3)) D10_waysOf_63 (by decide) ?_
      refine J_mald (pc := 64) D10_waysOf_64 ma_3 rfl (by omega) rfl ?_
      rw [e3]
      refine J_isub (pc := 65) D10_waysOf_65 ?_
      refine J_i2l (pc := 66) D10_waysOf_66 ?_
      refine J_lmul (pc := 67) D10_waysOf_67 ?_
      refine J_lstore_n (pc := 68) D10_waysOf_68 rfl ?_
      refine J_iinc (pc := 69) D10_waysOf_69 rfl (nI_inc _) rfl ?_
      refine J_goto (pc := 72) (tgt := 34) D10_waysOf_72 (by decide) ?_
      refine J_lk [(0, .ref 0), (1, .int (nI n)), (2, .int (nI k)), (3, .long (wyP T n k (i + 1))), (5, .int (nI (i + 1)))] (by rw [← wyP_2 ((nI_leI (by omega) (by omega)).mp h44)]; rfl) ?_
      exact ih (i + 1) (by omega)
    · have h44' := Int32.not_le.mp h44
      refine J_aload_n (pc := 47) D10_waysOf_47 rfl ?_
      refine J_getf (pc := 48) D10_waysOf_48 fl10_13 rfl rfl ?_
      refine J_iconst (pc := 51) (v := (nI 3)) D10_waysOf_51 (by decide) ?_
      refine J_mald (pc := 52) D10_waysOf_52 ma_3 rfl (by omega) rfl ?_
      rw [e3]
      refine J_i2l (pc := 53) D10_waysOf_53 ?_
      refine J_goto (pc := 54) (tgt := 67) D10_waysOf_54 (by decide) ?_
      refine J_lmul (pc := 67) D10_waysOf_67 ?_
      refine J_lstore_n (pc := 68) D10_waysOf_68 rfl ?_
      refine J_iinc (pc := 69) D10_waysOf_69 rfl (nI_inc _) rfl ?_
      refine J_goto (pc := 72) (tgt := 34) D10_waysOf_72 (by decide) ?_
      refine J_lk [(0, .ref 0), (1, .int (nI n)), (2, .int (nI k)), (3, .long (wyP T n k (i + 1))), (5, .int (nI (i + 1)))] (by rw [← wyP_1 (Nat.lt_of_not_le (fun q => h44 (nI_le q (by omega))))]; rfl) ?_
      exact ih (i + 1) (by omega)
theorem L10_ways5 {d : Nat} {s : Nat → Int32} {A : Nat → Nat → Int32} {L : LL} {M : Nat → MR} {T : TV} {np nb nn : Nat} (hR : RT A T np nb nn) (hT : WT T np nb nn) {n k : Nat} (hn : n ≤ 5) (hk : k ≤ n) : ∀ (g i : Nat), i + g = k → J m10_waysOf d 0 0 40 5 [(0, .ref 0), (1, .int (nI n)), (2, .int (nI k)), (3, .long (Int64.ofNat (bwN n i))), (5, .int (nI i))] [] (modW s A L M) 0 0 (fun r w' => w' = modW s A L M ∧ r = some (.long (wyP T n k n))) := by
  intro g
  induction g with
  | zero =>
    intro i hi
    have e9 : i = k := by omega
    subst e9
    refine J_iload (pc := 5) D10_waysOf_5 rfl ?_
    refine J_iload_n (pc := 7) D10_waysOf_7 rfl ?_
    refine J_icmp_ge (pc := 8) (tgt := 31) D10_waysOf_8 (by decide) (fun h8 => ?_) (fun h8 => absurd (Int32.le_refl _) h8)
    refine J_iconst (pc := 31) (v := (nI 0)) D10_waysOf_31 (by decide) ?_
    refine J_istore (pc := 32) D10_waysOf_32 rfl ?_
    refine J_lk [(0, .ref 0), (1, .int (nI n)), (2, .int (nI i)), (3, .long (wyP T n i 0)), (5, .int (nI 0))] (by rw [wyP, if_pos (by omega), pwF, Int64.mul_one]; rfl) ?_
    exact L10_ways34 hR hT hn hk n 0 (by omega)
  | succ g ih =>
    intro i hi
    refine J_iload (pc := 5) D10_waysOf_5 rfl ?_
    refine J_iload_n (pc := 7) D10_waysOf_7 rfl ?_
    refine J_icmp_ge (pc := 8) (tgt := 31) D10_waysOf_8 (by decide) (fun h8 => absurd h8 (nI_ge (by omega) (by omega))) (fun h8 => ?_)
    refine J_lload_n (pc := 11) D10_waysOf_11 rfl ?_
    refine J_iload_n (pc := 12) D10_waysOf_12 rfl ?_
    refine J_iload (pc := 13) D10_waysOf_13 rfl ?_
    refine J_isub (pc := 15) D10_waysOf_15 ?_
    refine J_i2l (pc := 16) D10_waysOf_16 ?_
    refine J_lmul (pc := 17) D10_waysOf_17 ?_
    refine J_iload (pc := 18) D10_waysOf_18 rfl ?_
    refine J_iconst (pc := 20) (v := (nI 1)) D10_waysOf_20 (by decide) ?_
    refine J_iadd (pc := 21) D10_waysOf_21 ?_
    refine J_i2l (pc := 22) D10_waysOf_22 ?_
    refine J_ldiv (pc := 23) D10_waysOf_23 (by rw [nI_add]; exact s1_nz i (by omega)) ?_
    refine J_lstore_n (pc := 24) D10_waysOf_24 rfl ?_
    refine J_iinc (pc := 25) D10_waysOf_25 rfl (nI_inc _) rfl ?_
    refine J_goto (pc := 28) (tgt := 5) D10_waysOf_28 (by decide) ?_
    refine J_lk [(0, .ref 0), (1, .int (nI n)), (2, .int (nI k)), (3, .long (Int64.ofNat (bwN n (i + 1)))), (5, .int (nI (i + 1)))] (by rw [← bw_d n (by omega) i (by omega), ← nI_subN (show i ≤ n by omega), ← nI_add i 1]; rfl) ?_
    exact ih (i + 1) (by omega)
theorem c10_waysOf {d : Nat} {s : Nat → Int32} {A : Nat → Nat → Int32} {L : LL} {M : Nat → MR} {T : TV} {np nb nn : Nat} (hR : RT A T np nb nn) (hT : WT T np nb nn) {n k : Nat} (hn : n ≤ 5) (hk : k ≤ n) : TR d m10_waysOf [.ref 0, .int (nI n), .int (nI k)] (modW s A L M) (.long (wyP T n k n)) := by
  refine Tr.intro (by decide) rfl ?_
  refine J_lconst (pc := 0) (v := 1) D10_waysOf_0 (by decide) ?_
  refine J_lstore_n (pc := 1) D10_waysOf_1 rfl ?_
  refine J_iconst (pc := 2) (v := (nI 0)) D10_waysOf_2 (by decide) ?_
  refine J_istore (pc := 3) D10_waysOf_3 rfl ?_
  exact L10_ways5 hR hT hn hk k 0 (by omega)
theorem las_e {n a : Nat} {w : Int32} (hn : n ≤ 5) (ha : a ≤ 600000000000) : ¬ Int64.ofNat (Nat.gcd a (100 ^ n)) = 0 ∧ pwF 100 n = Int64.ofNat (100 ^ n) ∧ lasE (Int64.ofNat a) (pwF 100 n) (coL 100 (pwF 100 n) (Int64.ofNat a)) w = (if w = 0 then Int64.ofNat a else pwF 100 n) / Int64.ofNat (Nat.gcd a (100 ^ n)) := by
  have hp : (100 : Nat) ^ n ≤ 10000000000 := Nat.le_trans (Nat.pow_le_pow_right (by omega) hn) (by decide)
  have hp0 : 0 < (100 : Nat) ^ n := Nat.pow_pos (by omega)
  have e1 : pwF 100 n = Int64.ofNat (100 ^ n) := pwF_n 100 n
  have hg : Nat.gcd a (100 ^ n) ≤ 100 ^ n := Nat.gcd_le_right a hp0
  have hg0 : 0 < Nat.gcd a (100 ^ n) := Nat.gcd_pos_of_pos_right a hp0
  have e2 : coL 100 (pwF 100 n) (Int64.ofNat a) = Int64.ofNat (Nat.gcd a (100 ^ n)) := by
    rw [e1, coL_g 49 100 (100 ^ n) a (by omega) (by omega) (by omega) (by omega), Nat.gcd_comm]
  refine ⟨fun q => by have := (oN_z (by omega)).mp q; omega, e1, ?_⟩
  rw [e2, lasE, if_pos]
  rw [Int64.lt_iff_toInt_lt, oN_i (by omega), z64]
  omega
theorem L10_las82 {d : Nat} {s : Nat → Int32} {A : Nat → Nat → Int32} {L : LL} {M : Nat → MR} {T : TV} {np nb nn : Nat} (hR : RT A T np nb nn) (hT : WT T np nb nn) {b n a0 : Nat} {a : Int64} {w : Int32} (hn : n ≤ 5) (ea : a = Int64.ofNat a0) (ha : a0 ≤ 600000000000) : ∀ (g k : Nat), k + g = n → J m10_lasts (d + 1) 0 0 40 82 [(0, .ref 0), (1, .int (nI b)), (2, .int (nI n)), (3, .int w), (4, .long a), (6, .long (pwF 100 k)), (8, .int (nI k))] [] (modW s A L M) 0 0 (fun r w' => w' = modW s A L M ∧ r = some (.long (lasE a (pwF 100 n) (coL 100 (pwF 100 n) a) w))) := by
  obtain ⟨l1, l2, l3⟩ := las_e (w := w) hn ha
  have hp : (100 : Nat) ^ n ≤ 10000000000 := Nat.le_trans (Nat.pow_le_pow_right (by omega) hn) (by decide)
  intro g
  induction g with
  | zero =>
    intro k hk
    have e9 : k = n := by omega
    subst e9
    subst ea
    rw [l3, l2]
    refine J_iload (pc := 82) D10_lasts_82 rfl ?_
    refine J_iload_n (pc := 84) D10_lasts_84 rfl ?_
    refine J_icmp_ge (pc := 85) (tgt := 102) D10_lasts_85 (by decide) (fun h85 => ?_) (fun h85 => absurd (Int32.le_refl _) h85)
    try rw [l2]
    refine J_lload (pc := 102) D10_lasts_102 rfl ?_
    refine J_lload (pc := 104) D10_lasts_104 rfl ?_
    refine J_callSR (pc := 106) (ι := []) (ac := [.long _, .long _]) D10_lasts_106 m10_common_s t1837 (c10_common (d := d) (a := a0) (b := 100 ^ k) (by omega) (by omega)) (by omega) ⟨rfl, rfl⟩ rfl rfl (fun _ => rfl) rfl rfl rfl ?_
    refine J_lstore (pc := 109) D10_lasts_109 rfl ?_
    refine J_iload_n (pc := 111) D10_lasts_111 rfl ?_
    refine J_if_ne (pc := 112) (tgt := 123) D10_lasts_112 (by decide) (fun h112 => ?_) (fun h112 => ?_)
    · refine J_lload (pc := 123) D10_lasts_123 rfl ?_
      refine J_lload (pc := 125) D10_lasts_125 rfl ?_
      refine J_ldiv (pc := 127) D10_lasts_127 l1 ?_
      refine J_lret (pc := 128) D10_lasts_128 rfl ?_
      exact ⟨rfl, congrArg (fun q => some (Value.long q)) (by rw [if_neg h112])⟩
    · have h112' := eq_true h112
      refine J_lload (pc := 115) D10_lasts_115 rfl ?_
      refine J_lload (pc := 117) D10_lasts_117 rfl ?_
      refine J_ldiv (pc := 119) D10_lasts_119 l1 ?_
      refine J_goto (pc := 120) (tgt := 128) D10_lasts_120 (by decide) ?_
      refine J_lret (pc := 128) D10_lasts_128 rfl ?_
      exact ⟨rfl, congrArg (fun q => some (Value.long q)) (by rw [if_pos h112])⟩
  | succ g ih =>
    intro k hk
    refine J_iload (pc := 82) D10_lasts_82 rfl ?_
    refine J_iload_n (pc := 84) D10_lasts_84 rfl ?_
    refine J_icmp_ge (pc := 85) (tgt := 102) D10_lasts_85 (by decide) (fun h85 => absurd h85 (nI_ge (by omega) (by omega))) (fun h85 => ?_)
    refine J_lload (pc := 88) D10_lasts_88 rfl ?_
    refine J_ldc2_w (pc := 90) D10_lasts_90 t1836 ?_
    refine J_lmul (pc := 93) D10_lasts_93 ?_
    refine J_lstore (pc := 94) D10_lasts_94 rfl ?_
    refine J_iinc (pc := 96) D10_lasts_96 rfl (nI_inc _) rfl ?_
    refine J_goto (pc := 99) (tgt := 82) D10_lasts_99 (by decide) ?_
    exact ih (k + 1) (by omega)
theorem L10_las44D {d : Nat} {s : Nat → Int32} {A : Nat → Nat → Int32} {L : LL} {M : Nat → MR} {T : TV} {np nb nn : Nat} (hR : RT A T np nb nn) (hT : WT T np nb nn) {b n a0 : Nat} {a : Int64} {w : Int32} (hb : b < 10) (hn : n ≤ 5) (ea : a = Int64.ofNat a0) (ha : a0 ≤ 600000000000) : ∀ (g k : Nat), k + g = n + 1 → ¬ nI k < (M 0).2.2.2 2 b → J m10_lasts (d + 1) 0 0 40 44 [(0, .ref 0), (1, .int (nI b)), (2, .int (nI n)), (3, .int w), (4, .long a), (6, .long 1), (8, .int (nI k))] [] (modW s A L M) 0 0 (fun r w' => w' = modW s A L M ∧ r = some (.long (lasE a (pwF 100 n) (coL 100 (pwF 100 n) a) w))) := by
  intro g
  induction g with
  | zero =>
    intro k hk hc
    refine J_iload (pc := 44) D10_lasts_44 rfl ?_
    refine J_iload_n (pc := 46) D10_lasts_46 rfl ?_
    refine J_icmp_gt (pc := 47) (tgt := 79) D10_lasts_47 (by decide) (fun h47 => ?_) (fun h47 => absurd (nI_lt (by omega) (by omega)) h47)
    refine J_iconst (pc := 79) (v := (nI 0)) D10_lasts_79 (by decide) ?_
    refine J_istore (pc := 80) D10_lasts_80 rfl ?_
    exact L10_las82 hR hT hn ea ha n 0 (by omega)
  | succ g ih =>
    intro k hk hc
    refine J_iload (pc := 44) D10_lasts_44 rfl ?_
    refine J_iload_n (pc := 46) D10_lasts_46 rfl ?_
    refine J_icmp_gt (pc := 47) (tgt := 79) D10_lasts_47 (by decide) (fun h47 => absurd h47 (Int32.not_lt.mpr (nI_le (by omega) (by omega)))) (fun h47 => ?_)
    refine J_iload (pc := 50) D10_lasts_50 rfl ?_
    refine J_aload_n (pc := 52) D10_lasts_52 rfl ?_
    refine J_getf (pc := 53) D10_lasts_53 fl10_90 rfl rfl ?_
    refine J_iload_n (pc := 56) D10_lasts_56 rfl ?_
    refine J_mcld (pc := 57) (stp := 10) D10_lasts_57 mc_2 (ix0 _ _) (by omega) (by omega) rfl ?_
    refine J_icmp_ge (pc := 58) (tgt := 73) D10_lasts_58 (by decide) (fun h58 => ?_) (fun h58 => absurd (Int32.not_lt.mp hc) h58)
    refine J_iinc (pc := 73) D10_lasts_73 rfl (nI_inc _) rfl ?_
    refine J_goto (pc := 76) (tgt := 44) D10_lasts_76 (by decide) ?_
    exact ih (k + 1) (by omega) (fun q => hc (Int32.lt_trans (nI_lt (by omega) (by omega)) q))
theorem way_b {T : TV} {n k t : Nat} (et : T.1 15 = nI t) (ht : t ≤ 100) (hn : n ≤ 5) (hk : k ≤ n) : ∃ a, a ≤ 100000000000 ∧ wyP T n k n = Int64.ofNat a := by
  have ew : wyP T n k n = Int64.ofNat (bwN n k) * pwF (T.1 15).toInt64 k * pwF (nI 100 - T.1 15).toInt64 (n - k) := by
    rw [wyP]
    by_cases e : n ≤ k
    · have e1 : n = k := by omega
      subst e1
      rw [if_pos e, Nat.sub_self, pwF, Int64.mul_one]
    · rw [if_neg e]
  rw [ew, et, nI_subN ht, nI_64 (by omega), nI_64 (by omega), pwF_n, pwF_n, oN_mul, oN_mul]
  refine ⟨_, ?_, rfl⟩
  have h3 := bw_le n (by omega) k (by omega)
  have h4 : t ^ k ≤ 100 ^ k := Nat.pow_le_pow_left ht k
  have h5 : (100 - t) ^ (n - k) ≤ 100 ^ (n - k) := Nat.pow_le_pow_left (by omega) _
  have h6 : bwN n k * t ^ k * (100 - t) ^ (n - k) ≤ 10 * 100 ^ k * 100 ^ (n - k) := Nat.mul_le_mul (Nat.mul_le_mul h3 h4) h5
  have h7 : 10 * 100 ^ k * 100 ^ (n - k) = 10 * 100 ^ n := by rw [Nat.mul_assoc, ← Nat.pow_add, show k + (n - k) = n by omega]
  have h8 : 100 ^ n ≤ 100 ^ 5 := Nat.pow_le_pow_right (by omega) hn
  have h9 : (100 : Nat) ^ 5 = 10000000000 := by decide
  omega
theorem L10_las44 {d : Nat} {s : Nat → Int32} {A : Nat → Nat → Int32} {L : LL} {M : Nat → MR} {T : TV} {np nb nn : Nat} (hR : RT A T np nb nn) (hT : WT T np nb nn) {b n : Nat} {w : Int32} (hb : b < 10) (hn : n ≤ 5) : ∀ (g k a0 : Nat) (a : Int64), k + g = n + 1 → a = Int64.ofNat a0 → a0 ≤ k * 100000000000 → J m10_lasts (d + 1) 0 0 40 44 [(0, .ref 0), (1, .int (nI b)), (2, .int (nI n)), (3, .int w), (4, .long a), (6, .long 1), (8, .int (nI k))] [] (modW s A L M) 0 0 (fun r w' => w' = modW s A L M ∧ r = some (.long (lasE (lasL (T.1 15) ((M 0).2.2.2 2 b) n g k a (Int64.ofNat (bwN n k))) (pwF 100 n) (coL 100 (pwF 100 n) (lasL (T.1 15) ((M 0).2.2.2 2 b) n g k a (Int64.ofNat (bwN n k)))) w))) := by
  obtain ⟨t, ht, et⟩ := hR.2.2.2.2.2.2.2.2.2.2.1
  intro g
  induction g with
  | zero =>
    intro k a0 a hk ea ha
    refine J_iload (pc := 44) D10_lasts_44 rfl ?_
    refine J_iload_n (pc := 46) D10_lasts_46 rfl ?_
    refine J_icmp_gt (pc := 47) (tgt := 79) D10_lasts_47 (by decide) (fun h47 => ?_) (fun h47 => absurd (nI_lt (by omega) (by omega)) h47)
    refine J_iconst (pc := 79) (v := (nI 0)) D10_lasts_79 (by decide) ?_
    refine J_istore (pc := 80) D10_lasts_80 rfl ?_
    exact L10_las82 hR hT hn ea (by omega) n 0 (by omega)
  | succ g ih =>
    intro k a0 a hk ea ha
    refine J_iload (pc := 44) D10_lasts_44 rfl ?_
    refine J_iload_n (pc := 46) D10_lasts_46 rfl ?_
    refine J_icmp_gt (pc := 47) (tgt := 79) D10_lasts_47 (by decide) (fun h47 => absurd h47 (Int32.not_lt.mpr (nI_le (by omega) (by omega)))) (fun h47 => ?_)
    refine J_iload (pc := 50) D10_lasts_50 rfl ?_
    refine J_aload_n (pc := 52) D10_lasts_52 rfl ?_
    refine J_getf (pc := 53) D10_lasts_53 fl10_90 rfl rfl ?_
    refine J_iload_n (pc := 56) D10_lasts_56 rfl ?_
    refine J_mcld (pc := 57) (stp := 10) D10_lasts_57 mc_2 (ix0 _ _) (by omega) (by omega) rfl ?_
    refine J_icmp_ge (pc := 58) (tgt := 73) D10_lasts_58 (by decide) (fun h58 => ?_) (fun h58 => ?_)
    · have h58' := Int32.not_lt.mpr h58
      refine J_iinc (pc := 73) D10_lasts_73 rfl (nI_inc _) rfl ?_
      refine J_goto (pc := 76) (tgt := 44) D10_lasts_76 (by decide) ?_
      have hc : ¬ nI k < (M 0).2.2.2 2 b := Int32.not_lt.mpr h58
      rw [show lasL (T.1 15) ((M 0).2.2.2 2 b) n (g + 1) k a (Int64.ofNat (bwN n k)) = a from by rw [lasL, if_neg hc]]
      exact L10_las44D hR hT hb hn ea (by omega) g (k + 1) (by omega) (fun q => hc (Int32.lt_trans (nI_lt (by omega) (by omega)) q))
    · have h58' := Int32.not_le.mp h58
      refine J_lload (pc := 61) D10_lasts_61 rfl ?_
      refine J_aload_n (pc := 63) D10_lasts_63 rfl ?_
      refine J_iload_n (pc := 64) D10_lasts_64 rfl ?_
      refine J_iload (pc := 65) D10_lasts_65 rfl ?_
      refine J_callVTR (pc := 67) (ac := [.int _, .int _]) D10_lasts_67 m10_waysOf_v t1832 (c10_waysOf (d := d) hR hT hn (k := k) (by omega)) (by omega) rfl rfl rfl rfl (fun _ => rfl) rfl rfl rfl ?_
      refine J_ladd (pc := 70) D10_lasts_70 ?_
      refine J_lstore (pc := 71) D10_lasts_71 rfl ?_
      refine J_iinc (pc := 73) D10_lasts_73 rfl (nI_inc _) rfl ?_
      refine J_goto (pc := 76) (tgt := 44) D10_lasts_76 (by decide) ?_
      have hc : nI k < (M 0).2.2.2 2 b := Int32.not_le.mp h58
      have ew : wyP T n k n = Int64.ofNat (bwN n k) * pwF (T.1 15).toInt64 k * pwF (nI 100 - T.1 15).toInt64 (n - k) := by
        rw [wyP]
        by_cases e : n ≤ k
        · have e1 : n = k := by omega
          subst e1
          rw [if_pos e, Nat.sub_self, pwF, Int64.mul_one]
        · rw [if_neg e]
      rw [show lasL (T.1 15) ((M 0).2.2.2 2 b) n (g + 1) k a (Int64.ofNat (bwN n k)) = lasL (T.1 15) ((M 0).2.2.2 2 b) n g (k + 1) (a + wyP T n k n) (Int64.ofNat (bwN n (k + 1))) from by rw [lasL, if_pos hc, bw_d n (by omega) k (by omega), ew]]
      obtain ⟨a1, h1, h2⟩ := way_b (T := T) et ht hn (show k ≤ n by omega)
      exact ih (k + 1) (a0 + a1) _ (by omega) (by rw [ea, h2, oN_add]) (by omega)
theorem c10_lasts {d : Nat} {s : Nat → Int32} {A : Nat → Nat → Int32} {L : LL} {M : Nat → MR} {T : TV} {np nb nn : Nat} (hR : RT A T np nb nn) (hT : WT T np nb nn) {V : CV} (hC : CR False np nb nn (M 0) V) {x m w : Int32} : Tr (d + 2) 0 0 m10_lasts [.ref 0, .int x, .int m, .int w] (modW s A L M) (mR s A M (.long (lasF T V nb x m w))) := by
  have hnb := hT.2.2.2.2.1
  have hnp := hT.2.2.2.1
  have hnn := hT.2.2.2.2.2.1
  refine Tr.intro (by decide) rfl ?_
  refine J_aload_n (pc := 0) D10_lasts_0 rfl ?_
  refine J_iconst (pc := 1) (v := (nI 0)) D10_lasts_1 (by decide) ?_
  refine J_mput (pc := 2) D10_lasts_2 fp10_139 ms_0 ?_
  refine J_aload_n (pc := 5) D10_lasts_5 rfl ?_
  refine J_iload_n (pc := 6) D10_lasts_6 rfl ?_
  refine J_callVTR (pc := 7) (ac := [.int _]) D10_lasts_7 m10_isLyingNow_v t1614 (c10_isLyingNow (d := d) hR hT hC) (by omega) rfl rfl rfl rfl (fun _ => rfl) rfl rfl rfl ?_
  refine J_if_eq (pc := 10) (tgt := 31) D10_lasts_10 (by decide) (fun h10 => ?_) (fun h10 => ?_)
  · have h10' := eq_true h10
    replace h10 := i01_z h10
    refine J_ldc2_w (pc := 31) D10_lasts_31 t1831 ?_
    refine J_lret (pc := 34) D10_lasts_34 rfl ?_
    exact ⟨congrArg (fun q => some (Value.long q)) (by rw [lasF, if_neg (fun q => h10 q.1)]), _, _, _, _, rfl, PX.s0⟩
  · replace h10 := i01_nz h10
    refine J_iload_n (pc := 13) D10_lasts_13 rfl ?_
    refine J_if_lt (pc := 14) (tgt := 31) D10_lasts_14 (by decide) (fun h14 => ?_) (fun h14 => ?_)
    · have h14' := Int32.not_le.mpr h14
      refine J_ldc2_w (pc := 31) D10_lasts_31 t1831 ?_
      refine J_lret (pc := 34) D10_lasts_34 rfl ?_
      exact ⟨congrArg (fun q => some (Value.long q)) (by rw [lasF, if_neg (fun q => ixB_0 h14 q.2.1)]), _, _, _, _, rfl, PX.s0⟩
    · have h14' := Int32.not_lt.mp h14
      refine J_iload_n (pc := 17) D10_lasts_17 rfl ?_
      refine J_iconst (pc := 18) (v := (nI 5)) D10_lasts_18 (by decide) ?_
      refine J_icmp_gt (pc := 19) (tgt := 31) D10_lasts_19 (by decide) (fun h19 => ?_) (fun h19 => ?_)
      · have h19' := Int32.not_le.mpr h19
        refine J_ldc2_w (pc := 31) D10_lasts_31 t1831 ?_
        refine J_lret (pc := 34) D10_lasts_34 rfl ?_
        exact ⟨congrArg (fun q => some (Value.long q)) (by rw [lasF, if_neg (fun q => ixB_gt (n := 5) (by decide) h19 q.2.1)]), _, _, _, _, rfl, PX.s0⟩
      · have h19' := Int32.not_lt.mp h19
        refine J_iload_n (pc := 22) D10_lasts_22 rfl ?_
        refine J_if_lt (pc := 23) (tgt := 31) D10_lasts_23 (by decide) (fun h23 => ?_) (fun h23 => ?_)
        · have h23' := Int32.not_le.mpr h23
          refine J_ldc2_w (pc := 31) D10_lasts_31 t1831 ?_
          refine J_lret (pc := 34) D10_lasts_34 rfl ?_
          exact ⟨congrArg (fun q => some (Value.long q)) (by rw [lasF, if_neg (fun q => ixB_0 h23 q.2.2)]), _, _, _, _, rfl, PX.s0⟩
        · have h23' := Int32.not_lt.mp h23
          refine J_iload_n (pc := 26) D10_lasts_26 rfl ?_
          refine J_iconst (pc := 27) (v := (nI 1)) D10_lasts_27 (by decide) ?_
          refine J_icmp_le (pc := 28) (tgt := 35) D10_lasts_28 (by decide) (fun h28 => ?_) (fun h28 => ?_)
          · have h28' := Int32.not_lt.mpr h28
            refine J_lconst (pc := 35) (v := 0) D10_lasts_35 (by decide) ?_
            refine J_lstore (pc := 36) D10_lasts_36 rfl ?_
            refine J_lconst (pc := 38) (v := 1) D10_lasts_38 (by decide) ?_
            refine J_lstore (pc := 39) D10_lasts_39 rfl ?_
            refine J_iconst (pc := 41) (v := (nI 0)) D10_lasts_41 (by decide) ?_
            refine J_istore (pc := 42) D10_lasts_42 rfl ?_
            have h10b := h10
            obtain ⟨b1, hb1, rfl, hl1⟩ := lyiB_t h10 (by omega)
            have hm9 := ixB_in (n := 5) (by decide) h14 (Int32.not_lt.mp h19)
            have hw9 := ixB_in (n := 1) (by decide) h23 h28
            obtain ⟨n1, hn1, rfl⟩ := ixB_t hm9 (by decide)
            refine J_mono (L10_las44 (s := updI s 0 (nI 0)) hR hT (b := b1) (n := n1) (w := w) (by omega) (by omega) (n1 + 1) 0 0 0 (by omega) rfl (by omega)) ?_
            rintro r w' ⟨rfl, rfl⟩
            exact ⟨congrArg (fun q => some (Value.long q)) (by rw [lasF, if_pos ⟨h10b, hm9, hw9⟩, nI_clamp (by omega), nI_clamp (by omega), (hC.2.2.2.1 b1 hb1).2.2.1]; rfl), _, _, _, _, rfl, PX.s0⟩
          · have h28' := Int32.not_le.mp h28
            refine J_ldc2_w (pc := 31) D10_lasts_31 t1831 ?_
            refine J_lret (pc := 34) D10_lasts_34 rfl ?_
            exact ⟨congrArg (fun q => some (Value.long q)) (by rw [lasF, if_neg (fun q => ixB_gt (n := 1) (by decide) (Int32.not_le.mp h28) q.2.2)]), _, _, _, _, rfl, PX.s0⟩
