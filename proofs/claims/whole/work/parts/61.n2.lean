/-! bits, counts, pigeons (own program mod_n2.py) -/
/-- the places below n at which P holds, as a number -/
def bN (P : Nat → Bool) : Nat → Nat
  | 0 => 0
  | n + 1 => if P n = true then 2 ^ n + bN P n else bN P n
theorem bN_lt {P : Nat → Bool} : ∀ n, bN P n < 2 ^ n
  | 0 => Nat.zero_lt_one
  | n + 1 => by
    have := bN_lt (P := P) n
    rw [bN, Nat.pow_succ]
    split <;> omega
theorem bN_tb {P : Nat → Bool} (k : Nat) : ∀ n, (bN P n).testBit k = (decide (k < n) && P k)
  | 0 => by simp [bN]
  | n + 1 => by
    have ih := bN_tb (P := P) k n
    have hl := bN_lt (P := P) n
    rw [bN]
    by_cases e : k = n
    · subst e
      have h0 : (bN P k).testBit k = false := Nat.testBit_lt_two_pow hl
      by_cases hp : P k = true
      · rw [if_pos hp, Nat.testBit_two_pow_add_eq, h0, hp]; simp
      · rw [if_neg hp, h0]; simp [hp]
    · by_cases hk : k < n
      · have h1 : decide (k < n + 1) = decide (k < n) := by rw [decide_eq_true hk, decide_eq_true (by omega)]
        rw [h1, ← ih]
        by_cases hp : P n = true
        · rw [if_pos hp, Nat.testBit_two_pow_add_gt hk]
        · rw [if_neg hp]
      · have h1 : decide (k < n + 1) = false := decide_eq_false (by omega)
        rw [h1]
        have : (if P n = true then 2 ^ n + bN P n else bN P n) < 2 ^ k := by
          have h2 : 2 ^ (n + 1) ≤ 2 ^ k := Nat.pow_le_pow_right (by omega) (by omega)
          rw [Nat.pow_succ] at h2
          split <;> omega
        rw [Nat.testBit_lt_two_pow this]; rfl
def cnN (P : Nat → Bool) : Nat → Nat
  | 0 => 0
  | n + 1 => cnN P n + (if P n = true then 1 else 0)
theorem cnN_c {P Q : Nat → Bool} : ∀ n, (∀ i, i < n → P i = Q i) → cnN P n = cnN Q n
  | 0, _ => rfl
  | n + 1, h => by rw [cnN, cnN, cnN_c n (fun i hi => h i (by omega)), h n (by omega)]
theorem cnN_le {P : Nat → Bool} : ∀ n, cnN P n ≤ n
  | 0 => Nat.le_refl _
  | n + 1 => by
    have := cnN_le (P := P) n
    rw [cnN]; split <;> omega
theorem bN_c {P Q : Nat → Bool} : ∀ n, (∀ i, i < n → P i = Q i) → bN P n = bN Q n
  | 0, _ => rfl
  | n + 1, h => by rw [bN, bN, bN_c n (fun i hi => h i (by omega)), h n (by omega)]
/-- from nb on nothing -/
theorem cnN_up {P : Nat → Bool} {n : Nat} : ∀ k, (∀ i, n ≤ i → i < n + k → P i = false) → cnN P (n + k) = cnN P n
  | 0, _ => rfl
  | k + 1, h => by
    rw [show n + (k + 1) = n + k + 1 by omega, cnN, cnN_up k (fun i h1 h2 => h i h1 (by omega)), h (n + k) (by omega) (by omega)]
    simp
theorem bN_up {P : Nat → Bool} {n : Nat} : ∀ k, (∀ i, n ≤ i → i < n + k → P i = false) → bN P (n + k) = bN P n
  | 0, _ => rfl
  | k + 1, h => by
    rw [show n + (k + 1) = n + k + 1 by omega, bN, h (n + k) (by omega) (by omega), bN_up k (fun i h1 h2 => h i h1 (by omega))]
    simp
theorem bitN_p {n : Nat} (h : n < 31) : nI 1 <<< (nI n &&& 31) = nI (2 ^ n) := by
  have : ∀ n, n < 31 → nI 1 <<< (nI n &&& 31) = nI (2 ^ n) := by decide
  exact this n h
theorem nI_orp {n B : Nat} (h : B < 2 ^ n) : nI B ||| nI (2 ^ n) = nI (2 ^ n + B) := by
  rw [nI_or, Nat.or_comm]
  congr 1
  have := Nat.two_pow_add_eq_or_of_lt h 1
  rw [Nat.mul_one] at this
  exact this.symm
theorem bitsF_e {f : Nat → Int32} {x : Int32} : ∀ n, n ≤ 31 → bitsF f x n = nI (bN (fun i => decide (f i = x)) n)
  | 0, _ => rfl
  | n + 1, h => by
    rw [bitsF, bN, bitsF_e n (by omega)]
    by_cases e : f n = x
    · rw [if_pos e, if_pos (decide_eq_true e), bitN_p (by omega), nI_orp (bN_lt n)]
    · rw [if_neg e, if_neg (by rw [decide_eq_false e]; simp)]
def popN (B : Nat) : Nat → Nat
  | 0 => 0
  | n + 1 => popN B n + (if B.testBit n = true then 1 else 0)
theorem pop_d : ∀ B, B < 1024 → bcnt (nI B) = nI (popN B 10) := by decide +kernel
theorem popN_e {P : Nat → Bool} {m : Nat} : ∀ n, n ≤ m → popN (bN P m) n = cnN P n
  | 0, _ => rfl
  | n + 1, h => by
    rw [popN, cnN, popN_e n (by omega), bN_tb, decide_eq_true (show n < m by omega)]
    rfl
theorem bcnt_e {f : Nat → Int32} {x : Int32} : bcnt (bitsF f x 10) = nI (cnN (fun i => decide (f i = x)) 10) := by
  rw [bitsF_e 10 (by omega), pop_d _ (bN_lt 10), popN_e 10 (by omega)]
theorem m1_bv : (-1 : Int32).toBitVec = BitVec.allOnes 32 := by decide
/-- B without C -/
theorem nI_andn {P Q : Nat → Bool} {n : Nat} (hn : n ≤ 31) : nI (bN P n) &&& (nI (bN Q n) ^^^ -1) = nI (bN (fun i => P i && !Q i) n) := by
  apply Int32.toBitVec_inj.mp
  show BitVec.ofNat 32 (bN P n) &&& (BitVec.ofNat 32 (bN Q n) ^^^ (-1 : Int32).toBitVec) = BitVec.ofNat 32 (bN (fun i => P i && !Q i) n)
  rw [m1_bv]
  apply BitVec.eq_of_getLsbD_eq
  intro i hi
  simp only [BitVec.getLsbD_and, BitVec.getLsbD_xor, BitVec.getLsbD_allOnes, BitVec.getLsbD_ofNat, bN_tb, hi, decide_true, Bool.true_and]
  cases decide (i < n) <;> simp
theorem pigeon : ∀ (n k : Nat) (g : Nat → Nat), (∀ i, i < k → g i < n) → (∀ i j, i < j → j < k → g i ≠ g j) → k ≤ n
  | 0, k, g, h, _ => by
    cases k with
    | zero => exact Nat.le_refl _
    | succ k => exact absurd (h 0 (by omega)) (by omega)
  | n + 1, k, g, h, hd => by
    cases k with
    | zero => omega
    | succ k =>
      refine Nat.succ_le_succ (pigeon n k (fun i => if g i = n then g k else g i) (fun i hi => ?_) (fun i j hij hj => ?_))
      · have h1 := h i (by omega)
        have h2 := h k (by omega)
        have h3 := hd i k (by omega) (by omega)
        show (if g i = n then g k else g i) < n
        by_cases e : g i = n
        · rw [if_pos e]; omega
        · rw [if_neg e]; omega
      · have h1 := hd i j hij (by omega)
        have h2 := hd i k (by omega) (by omega)
        have h3 := hd j k (by omega) (by omega)
        show (if g i = n then g k else g i) ≠ (if g j = n then g k else g j)
        by_cases e : g i = n
        · rw [if_pos e, if_neg (fun q => h1 (e.trans q.symm))]; exact fun q => h3 q.symm
        · rw [if_neg e]
          by_cases e2 : g j = n
          · rw [if_pos e2]; exact h2
          · rw [if_neg e2]; exact h1
/-! the ring: as many steps as there are people are enough -/
def orb (f : Nat → Option Nat) (a : Nat) : Nat → Option Nat
  | 0 => some a
  | n + 1 => (orb f a n).bind f
/-- whether one comes back to a within g steps from x -/
def rgB (f : Nat → Option Nat) (a : Nat) : Nat → Option Nat → Bool
  | 0, _ => false
  | g + 1, x => match x.bind f with
    | none => false
    | some y => bif Nat.beq y a then true else rgB f a g (some y)
theorem rgB_i {f : Nat → Option Nat} {a : Nat} : ∀ (g i : Nat), rgB f a g (orb f a i) = true ↔ ∃ k, i < k ∧ k ≤ i + g ∧ orb f a k = some a ∧ ∀ j, i < j → j < k → orb f a j ≠ some a
  | 0, i => ⟨fun h => (by cases h), fun ⟨k, h1, h2, _⟩ => by omega⟩
  | g + 1, i => by
    rw [rgB]
    have e : (orb f a i).bind f = orb f a (i + 1) := rfl
    rw [e]
    cases h : orb f a (i + 1) with
    | none =>
      refine ⟨fun q => (by cases q), fun ⟨k, h1, h2, h3, _⟩ => ?_⟩
      have : ∀ m, orb f a (i + 1 + m) = none := fun m => by
        induction m with
        | zero => exact h
        | succ m ih => show (orb f a (i + 1 + m)).bind f = none; rw [ih]; rfl
      have := this (k - (i + 1))
      rw [show i + 1 + (k - (i + 1)) = k by omega, h3] at this
      cases this
    | some y =>
      show (bif Nat.beq y a then true else rgB f a g (some y)) = true ↔ _
      by_cases hy : y = a
      · rw [show Nat.beq y a = true by rw [hy]; exact Nat.beq_refl a]
        refine ⟨fun _ => ⟨i + 1, by omega, by omega, by rw [h, hy], fun j h1 h2 => by omega⟩, fun _ => rfl⟩
      · rw [show Nat.beq y a = false from nbf.mpr hy]
        show rgB f a g (some y) = true ↔ _
        rw [← h, rgB_i g (i + 1)]
        constructor
        · rintro ⟨k, h1, h2, h3, h4⟩
          refine ⟨k, by omega, by omega, h3, fun j q1 q2 => ?_⟩
          by_cases ej : j = i + 1
          · rw [ej, h]; exact fun q => hy (Option.some.inj q)
          · exact h4 j (by omega) q2
        · rintro ⟨k, h1, h2, h3, h4⟩
          by_cases ek : k = i + 1
          · rw [ek, h] at h3; exact absurd (Option.some.inj h3) hy
          · exact ⟨k, by omega, by omega, h3, fun j q1 q2 => h4 j (by omega) q2⟩
theorem orb_add {f : Nat → Option Nat} {a i j : Nat} (h : orb f a i = orb f a j) : ∀ m, orb f a (i + m) = orb f a (j + m)
  | 0 => h
  | m + 1 => by show (orb f a (i + m)).bind f = (orb f a (j + m)).bind f; rw [orb_add h m]
theorem ring_n {f : Nat → Option Nat} {a n : Nat} (ha : a < n) (hf : ∀ x y, x < n → f x = some y → y < n) (hn : n ≤ 5) : rgB f a n (some a) = rgB f a 5 (some a) := by
  have key : rgB f a 5 (some a) = true → rgB f a n (some a) = true := by
    intro h
    obtain ⟨k, h1, h2, h3, h4⟩ := (rgB_i 5 0).mp h
    refine (rgB_i n 0).mpr ⟨k, h1, ?_, h3, h4⟩
    have hs : ∀ i, i ≤ k → ∃ y, orb f a i = some y ∧ y < n := by
      intro i
      induction i with
      | zero => intro _; exact ⟨a, rfl, ha⟩
      | succ i ih =>
        intro hi
        obtain ⟨y, e1, e2⟩ := ih (by omega)
        cases e : orb f a (i + 1) with
        | none =>
          have : ∀ m, orb f a (i + 1 + m) = none := fun m => by
            induction m with
            | zero => exact e
            | succ m ih => show (orb f a (i + 1 + m)).bind f = none; rw [ih]; rfl
          have := this (k - (i + 1))
          rw [show i + 1 + (k - (i + 1)) = k by omega, h3] at this
          cases this
        | some z =>
          have : (orb f a i).bind f = some z := e
          rw [e1] at this
          exact ⟨z, rfl, hf y z e2 this⟩
    have := pigeon n k (fun i => (orb f a i).getD 0) (fun i hi => by
      obtain ⟨y, e1, e2⟩ := hs i (by omega)
      show (orb f a i).getD 0 < n
      rw [e1]; exact e2) (fun i j hij hj => by
      obtain ⟨y, e1, e2⟩ := hs i (by omega)
      obtain ⟨z, f1, f2⟩ := hs j (by omega)
      show (orb f a i).getD 0 ≠ (orb f a j).getD 0
      rw [e1, f1]
      intro q
      have q2 : y = z := q
      subst q2
      have := orb_add (e1.trans f1.symm) (k - j)
      rw [show j + (k - j) = k by omega, h3] at this
      exact h4 (i + (k - j)) (by omega) (by omega) this)
    omega
  have key2 : rgB f a n (some a) = true → rgB f a 5 (some a) = true := by
    intro h
    obtain ⟨k, h1, h2, h3, h4⟩ := (rgB_i n 0).mp h
    exact (rgB_i 5 0).mpr ⟨k, h1, by omega, h3, h4⟩
  cases h5 : rgB f a 5 (some a) with
  | true => exact key h5
  | false =>
    cases hn5 : rgB f a n (some a) with
    | false => rfl
    | true => rw [key2 hn5] at h5; cases h5
