/-! TOKENS on both sides, pure (own) -/
/-- the tape on both sides: the class' bytes, the model's numbers below 256 -/
def TP (tp m : Nat → Int32) (t : Nat) : Prop := ∀ i, i < t → (∃ x, x < 128 ∧ tp i = nI x ∧ m i = nI x) ∨ (tp i < 0 ∧ ∃ x, 128 ≤ x ∧ x < 256 ∧ m i = nI x)
section TPs
variable {tp m : Nat → Int32} {t i : Nat}
theorem TP.eq (h : TP tp m t) (hi : i < t) {x : Nat} (hx : x < 128) : m i = nI x ↔ tp i = nI x := by
  rcases h i hi with ⟨y, hy, e1, e2⟩ | ⟨h0, y, hy, hy2, e2⟩
  · rw [e1, e2]
  · constructor
    · intro q; exact absurd (nI_eqI (by omega) (by omega) (e2.symm.trans q)) (by omega)
    · intro q; rw [q] at h0; exact absurd h0 (nI_pos (by omega))
theorem TP.rg (h : TP tp m t) (hi : i < t) {a b : Nat} (ha : a < 128) (hb : b < 128) : (nI a ≤ m i ∧ m i ≤ nI b) ↔ (nI a ≤ tp i ∧ tp i ≤ nI b) := by
  rcases h i hi with ⟨y, hy, e1, e2⟩ | ⟨h0, y, hy, hy2, e2⟩
  · rw [e1, e2]
  · constructor
    · rintro ⟨-, q⟩; rw [e2] at q; exact absurd ((nI_leI (by omega) (by omega)).mp q) (by omega)
    · rintro ⟨q, -⟩; exact absurd (Int32.lt_of_le_of_lt q h0) (nI_pos (by omega))
theorem TP.vl (h : TP tp m t) (hi : i < t) {a : Nat} (ha : a < 128) (q : nI a ≤ tp i) : m i = tp i ∧ ∃ x, x < 128 ∧ tp i = nI x ∧ a ≤ x := by
  rcases h i hi with ⟨y, hy, e1, e2⟩ | ⟨h0, y, hy, hy2, e2⟩
  · exact ⟨by rw [e1, e2], y, hy, e1, by rw [e1] at q; exact (nI_leI (by omega) (by omega)).mp q⟩
  · exact absurd (Int32.lt_of_le_of_lt q h0) (nI_pos (by omega))
theorem TP.nn (h : TP tp m t) (hi : i < t) : ¬ m i = -1 := by
  rcases h i hi with ⟨y, hy, e1, e2⟩ | ⟨h0, y, hy, hy2, e2⟩
  · rw [e2]; exact nI_nm (by omega)
  · rw [e2]; exact nI_nm (by omega)
end TPs
/-- blanks passed over -/
def skL (tp : Nat → Int32) : Nat → Nat → Nat
  | 0, q => q
  | g + 1, q => if tp q = nI 10 ∨ tp q = nI 32 then skL tp g (q + 1) else q
def sk (tp : Nat → Int32) (L q : Nat) : Nat := skL tp (L - q) q
theorem skL_le {tp : Nat → Int32} : ∀ g q, q ≤ skL tp g q ∧ skL tp g q ≤ q + g
  | 0, q => ⟨Nat.le_refl _, Nat.le_refl _⟩
  | g + 1, q => by
    rw [skL]
    split
    · have := skL_le (tp := tp) g (q + 1); omega
    · omega
theorem skL_nb {tp : Nat → Int32} : ∀ g q, skL tp g q < q + g → ¬ (tp (skL tp g q) = nI 10 ∨ tp (skL tp g q) = nI 32)
  | 0, q, h => by rw [skL] at h; omega
  | g + 1, q, h => by
    rw [skL] at h ⊢
    by_cases e : tp q = nI 10 ∨ tp q = nI 32
    · rw [if_pos e] at h ⊢; exact skL_nb g (q + 1) (by omega)
    · rw [if_neg e]; exact e
/-- a number, on both sides: alike, or too large -/
def NuV (v va : Int32) : Prop := ∃ a b, v = nI a ∧ va = nI b ∧ a ≤ 1000000 ∧ b ≤ 999999 ∧ ((a ≤ 99999 ∧ a = b) ∨ (99999 < a ∧ 99999 < b))
/-- a token: the class' kind and value, the model's sort and value -/
def KVR (kd : Int32) (vo : Option Int32) (so va : Int32) : Prop :=
  (∃ j, j < 9 ∧ kd = nI j ∧ so = nI 0 ∧ va = nI j) ∨ (∃ j, j < 7 ∧ kd = nI (9 + j) ∧ so = nI 0 ∧ va = nI (12 + j)) ∨ (∃ j, j < 3 ∧ kd = nI (16 + j) ∧ so = nI 0 ∧ va = nI (9 + j)) ∨
  (∃ j, j < 10 ∧ kd = nI (19 + j) ∧ so = nI 3 ∧ va = sgM (nI (19 + j))) ∨ (kd = nI 29 ∧ so = nI 2 ∧ ∃ v, vo = some v ∧ NuV v va) ∨ (kd = nI 30 ∧ so = nI 1 ∧ vo = some va) ∨
  (kd = nI 31 ∧ so = nI 3 ∧ va = nI 59) ∨ (kd = nI 32 ∧ so = nI 3 ∧ va = nI 40) ∨ (kd = nI 33 ∧ so = nI 3 ∧ va = nI 41) ∨ (kd = nI 34 ∧ so = nI 4) ∨ (kd = nI 35 ∧ so = nI 5)
/-! the words -/
def stC (w : Nat) : Nat := ([0, 4, 11, 16, 24, 29, 33, 38, 44, 50, 56, 61, 67, 71, 75, 80, 85, 88, 92, 96] : List Nat).getD w 96
def stM (w : Nat) : Nat := ([0, 4, 11, 16, 24, 29, 33, 38, 44, 50, 53, 57, 61, 67, 72, 78, 82, 86, 91, 96] : List Nat).getD w 96
/-- the model's word, the class' -/
def wcM (v : Nat) : Nat := if v < 9 then v else if v < 12 then v + 7 else v - 3
def P0 (tp : Nat → Int32) (f n w : Nat) : Prop := n = stC (w + 1) - stC w - 1 ∧ ∀ i, i < n → chS 0 (stC w + i) = tp (f + i)
def P3 (m : Nat → Int32) (f n w : Nat) : Prop := n = stM (w + 1) - stM w - 1 ∧ ∀ i, i < n → chS 3 (stM w + i) = m (f + i)
theorem stC_d : ∀ w, w < 19 → stC w + 1 < stC (w + 1) ∧ stC (w + 1) ≤ 96 ∧ chS 0 (stC (w + 1) - 1) = nI 32 ∧ ∀ i, i < stC (w + 1) - stC w - 1 → ¬ chS 0 (stC w + i) = nI 32 := by decide +kernel
theorem stM_d : ∀ w, w < 19 → stM w + 1 < stM (w + 1) ∧ stM (w + 1) ≤ 96 ∧ chS 3 (stM (w + 1) - 1) = nI 32 ∧ ∀ i, i < stM (w + 1) - stM w - 1 → ¬ chS 3 (stM w + i) = nI 32 := by decide +kernel
theorem wcM_d : ∀ v, v < 19 → wcM v < 19 ∧ stC (wcM v + 1) - stC (wcM v) - 1 = stM (v + 1) - stM v - 1 ∧ ∀ i, i < stM (v + 1) - stM v - 1 → chS 3 (stM v + i) = chS 0 (stC (wcM v) + i) := by decide +kernel
theorem wcM_s : ∀ w, w < 19 → ∃ v, v < 19 ∧ wcM v = w := by decide
theorem wex_d : ∀ v, v < 19 → ∀ w, w < 19 → stC (v + 1) - stC v - 1 = stC (w + 1) - stC w - 1 → (∀ i, i < stC (v + 1) - stC v - 1 → chS 0 (stC v + i) = chS 0 (stC w + i)) → v = w := by decide +kernel
theorem P0_x {tp : Nat → Int32} {f n v w : Nat} (hv : v < 19) (hw : w < 19) (h : P0 tp f n v) (h' : P0 tp f n w) : v = w :=
  wex_d v hv w hw (h.1.symm.trans h'.1) (fun i hi => (h.2 i (by rw [h.1]; exact hi)).trans (h'.2 i (by rw [h.1]; exact hi)).symm)
theorem P3_0 {tp m : Nat → Int32} {f n v : Nat} (hv : v < 19) (e : ∀ i, i < n → m (f + i) = tp (f + i)) : P3 m f n v ↔ P0 tp f n (wcM v) := by
  obtain ⟨-, h1, h2⟩ := wcM_d v hv
  constructor
  · rintro ⟨a, b⟩
    exact ⟨by rw [h1]; exact a, fun i hi => by rw [← h2 i (by omega), b i hi, e i hi]⟩
  · rintro ⟨a, b⟩
    have a' : n = stM (v + 1) - stM v - 1 := by rw [← h1]; exact a
    exact ⟨a', fun i hi => by rw [h2 i (by omega), b i hi, e i hi]⟩
theorem alL_i {tp : Nat → Int32} {s f : Nat} : ∀ (g j : Nat), alL tp s f g j = true ↔ ∀ i, j ≤ i → i < j + g → chS 0 (s + i) = tp (f + i)
  | 0, j => ⟨fun _ i h1 h2 => absurd h2 (by omega), fun _ => rfl⟩
  | g + 1, j => by
    rw [alL]
    by_cases e : chS 0 (s + j) = tp (f + j)
    · rw [decide_eq_true e]
      show alL tp s f g (j + 1) = true ↔ _
      rw [alL_i g (j + 1)]
      constructor
      · intro h i h1 h2
        by_cases z : i = j
        · rw [z]; exact e
        · exact h i (by omega) (by omega)
      · intro h i h1 h2; exact h i (by omega) (by omega)
    · rw [decide_eq_false e]
      exact ⟨fun h => (by cases h), fun h => absurd (h j (Nat.le_refl _) (by omega)) e⟩
theorem wrB_i {tp : Nat → Int32} {f n w : Nat} (hw : w < 19) : wrB tp f n (stC (w + 1) - 1) (stC w) = true ↔ P0 tp f n w := by
  unfold wrB P0
  rw [Bool.and_eq_true_iff, alL_i, Nat.beq_eq]
  constructor
  · rintro ⟨a, b⟩; exact ⟨by omega, fun i hi => b i (by omega) (by omega)⟩
  · rintro ⟨a, b⟩; exact ⟨by omega, fun i _ hi => b i (by omega)⟩
theorem wrL_sk {tp : Nat → Int32} {f n w st g : Nat} : ∀ (a i : Nat), (∀ j, j < a → ¬ chS 0 (i + j) = nI 32) → wrL tp f n (g + a) i w st = wrL tp f n g (i + a) w st
  | 0, _, _ => rfl
  | a + 1, i, h => by
    rw [show g + (a + 1) = (g + a) + 1 by omega, wrL, if_neg (show ¬ chS 0 i = nI 32 from h 0 (by omega)), wrL_sk a (i + 1) (fun j hj => by rw [show i + 1 + j = i + (j + 1) by omega]; exact h (j + 1) (by omega)), show i + 1 + a = i + (a + 1) by omega]
theorem wrL_w {tp : Nat → Int32} {f n w : Nat} (hw : w < 19) : wrL tp f n (96 - stC w) (stC w) w (stC w) = bif wrB tp f n (stC (w + 1) - 1) (stC w) then some w else wrL tp f n (96 - stC (w + 1)) (stC (w + 1)) (w + 1) (stC (w + 1)) := by
  obtain ⟨h1, h2, h3, h4⟩ := stC_d w hw
  have := wrL_sk (tp := tp) (f := f) (n := n) (w := w) (st := stC w) (g := 96 - stC (w + 1) + 1) (stC (w + 1) - stC w - 1) (stC w) h4
  rw [show 96 - stC (w + 1) + 1 + (stC (w + 1) - stC w - 1) = 96 - stC w by omega, show stC w + (stC (w + 1) - stC w - 1) = stC (w + 1) - 1 by omega] at this
  rw [this, wrL, if_pos h3, show stC (w + 1) - 1 + 1 = stC (w + 1) by omega]
theorem wrL_f {tp : Nat → Int32} {f n : Nat} : ∀ (g w : Nat), w + g = 19 → (∀ v, w ≤ v → v < 19 → P0 tp f n v → wrL tp f n (96 - stC w) (stC w) w (stC w) = some v) ∧ ((∀ v, w ≤ v → v < 19 → ¬ P0 tp f n v) → wrL tp f n (96 - stC w) (stC w) w (stC w) = none)
  | 0, w, h => ⟨fun v h1 h2 => absurd h2 (by omega), fun _ => by rw [show w = 19 by omega]; rfl⟩
  | g + 1, w, h => by
    obtain ⟨i1, i2⟩ := wrL_f (tp := tp) (f := f) (n := n) g (w + 1) (by omega)
    rw [wrL_w (by omega)]
    refine ⟨fun v h1 h2 hp => ?_, fun hp => ?_⟩
    · by_cases e : v = w
      · rw [e] at hp ⊢
        rw [(wrB_i (by omega)).mpr hp]; rfl
      · cases q : wrB tp f n (stC (w + 1) - 1) (stC w) with
        | true => exact absurd (P0_x h2 (by omega) hp ((wrB_i (by omega)).mp q)) e
        | false => exact i1 v (by omega) h2 hp
    · cases q : wrB tp f n (stC (w + 1) - 1) (stC w) with
      | true => exact absurd ((wrB_i (by omega)).mp q) (hp w (Nat.le_refl _) (by omega))
      | false => exact i2 (fun v h1 h2 => hp v (by omega) h2)
theorem wrF_s {tp : Nat → Int32} {f n w : Nat} (hw : w < 19) (h : P0 tp f n w) : wrF tp f n = some w := (wrL_f 19 0 rfl).1 w (Nat.zero_le _) hw h
theorem wrF_n {tp : Nat → Int32} {f n : Nat} (h : ∀ w, w < 19 → ¬ P0 tp f n w) : wrF tp f n = none := (wrL_f 19 0 rfl).2 (fun v _ hv => h v hv)
/-! names -/
def lx (tp : Nat → Int32) (f n k : Nat) : Nat := if k < n then (tp (f + k)).toNatClampNeg - 96 else 0
def hor (x : Nat → Nat) : Nat → Nat
  | 0 => 0
  | k + 1 => hor x k * 32 + x k
theorem hor_lt {x : Nat → Nat} (h : ∀ k, x k < 32) : ∀ k, hor x k < 32 ^ k
  | 0 => by show 0 < 32 ^ 0; decide
  | k + 1 => by
    have := hor_lt h k
    have := h k
    rw [hor, Nat.pow_succ]
    omega
theorem hor_z {x : Nat → Nat} {n : Nat} (h : ∀ k, n ≤ k → x k = 0) : ∀ j, hor x (n + j) = hor x n * 32 ^ j
  | 0 => by simp
  | j + 1 => by
    rw [show n + (j + 1) = (n + j) + 1 by omega, hor, hor_z h j, h (n + j) (by omega), Nat.pow_succ, Nat.add_zero, Nat.mul_assoc]
theorem hor_or {a b j : Nat} (hb : b < 2 ^ j) : a * 2 ^ j ||| b = a * 2 ^ j + b := by
  rw [Nat.mul_comm]
  exact (Nat.two_pow_add_eq_or_of_lt hb a).symm
theorem nI_shl {a k : Nat} (hk : k < 31) : nI a <<< (nI k &&& 31) = nI (a * 2 ^ k) := by
  apply Int32.toBitVec_inj.mp
  rw [Int32.toBitVec_shiftLeft]
  have e : ∀ k, k < 31 → (nI k &&& 31).toBitVec.smod 32 = BitVec.ofNat 32 k := by decide
  rw [e k hk]
  show BitVec.ofNat 32 a <<< BitVec.ofNat 32 k = BitVec.ofNat 32 (a * 2 ^ k)
  apply BitVec.eq_of_toNat_eq
  simp only [BitVec.shiftLeft_eq', BitVec.toNat_shiftLeft, BitVec.toNat_ofNat, Nat.shiftLeft_eq]
  rw [Nat.mod_eq_of_lt (show k < 2 ^ 32 by omega)]
  exact Nat.mod_mul_mod a (2 ^ k) (2 ^ 32) |>.trans rfl
theorem woS_e {tp : Nat → Int32} {f i a : Nat} (hi : i < 6) (ht : nI 97 ≤ tp (f + i) ∧ tp (f + i) ≤ nI 122) (hf : f < 1000) : woS tp f (f + i) (nI (a * 32 ^ (6 - i))) = nI ((a * 32 + ((tp (f + i)).toNatClampNeg - 96)) * 32 ^ (5 - i)) ∧ (tp (f + i)).toNatClampNeg - 96 < 32 := by
  obtain ⟨x, hx, ex⟩ : ∃ x, x < 128 ∧ tp (f + i) = nI x := by
    have h0 : 0 ≤ tp (f + i) := Int32.le_trans (by decide) ht.1
    obtain ⟨x, hx, e⟩ := ixB_t (n := 128) (x := tp (f + i)) (by unfold ixB; rw [decide_eq_true h0, decide_eq_true (Int32.lt_of_le_of_lt ht.2 (by decide))]; rfl) (by decide)
    exact ⟨x, hx, e⟩
  have h97 : 97 ≤ x := by have := ht.1; rw [ex] at this; exact (nI_leI (by omega) (by omega)).mp this
  have h122 : x ≤ 122 := by have := ht.2; rw [ex] at this; exact (nI_leI (by omega) (by omega)).mp this
  have ec : (tp (f + i)).toNatClampNeg - 96 = x - 96 := by rw [ex, nI_clamp (by omega)]
  refine ⟨?_, by rw [ec]; omega⟩
  have es : nI 5 * (nI 5 - (nI (f + i) - nI f)) = nI (5 * (5 - i)) := by
    rw [nI_subN (by omega), show f + i - f = i by omega, nI_subN (by omega), nI_mulE]
  have ev : tp (f + i) - nI 97 + nI 1 = nI (x - 96) := by
    rw [ex, nI_subN h97, nI_add]
    congr 1
    omega
  unfold woS
  rw [es, if_neg (nI_pos (by omega)), ev, nI_shl (by omega), nI_or, ec]
  have e1 : 32 ^ (6 - i) = 2 ^ (5 * (5 - i) + 5) := by
    rw [show (32 : Nat) = 2 ^ 5 from rfl, ← Nat.pow_mul]
    congr 1
    omega
  have e2 : 32 ^ (5 - i) = 2 ^ (5 * (5 - i)) := by rw [show (32 : Nat) = 2 ^ 5 from rfl, ← Nat.pow_mul]
  rw [e1, e2, hor_or (by
    rw [Nat.pow_add, Nat.mul_comm]
    exact (Nat.mul_lt_mul_left (Nat.two_pow_pos _)).mpr (by omega))]
  congr 1
  rw [Nat.add_mul, Nat.pow_add, Nat.mul_assoc, Nat.mul_comm (2 ^ (5 * (5 - i))) (2 ^ 5)]
def ly6 (tp : Nat → Int32) (f k : Nat) : Nat := (tp (f + k)).toNatClampNeg - 96
theorem woL_v {tp : Nat → Int32} {f : Nat} (hf : f < 1000) : ∀ (g i : Nat) (v : Int32), (i ≤ 6 → v = nI (hor (ly6 tp f) i * 32 ^ (6 - i))) → f + i ≤ (woL tp f g (f + i) v).1 ∧ (∀ k, i ≤ k → f + k < (woL tp f g (f + i) v).1 → nI 97 ≤ tp (f + k) ∧ tp (f + k) ≤ nI 122) ∧ ((woL tp f g (f + i) v).1 - f ≤ 6 → (woL tp f g (f + i) v).2 = nI (hor (ly6 tp f) ((woL tp f g (f + i) v).1 - f) * 32 ^ (6 - ((woL tp f g (f + i) v).1 - f))))
  | 0, i, v, h => by
    rw [woL]
    refine ⟨Nat.le_refl _, fun k h1 h2 => absurd h2 (by show ¬ f + k < f + i; omega), fun q => ?_⟩
    show v = _
    have q2 : f + i - f ≤ 6 := q
    rw [show f + i - f = i by omega]
    exact h (by omega)
  | g + 1, i, v, h => by
    rw [woL]
    by_cases q : nI 97 ≤ tp (f + i) ∧ tp (f + i) ≤ nI 122
    · rw [if_pos q]
      have hn : i + 1 ≤ 6 → woS tp f (f + i) v = nI (hor (ly6 tp f) (i + 1) * 32 ^ (6 - (i + 1))) := fun hi => by
        rw [h (by omega), (woS_e (by omega) q hf).1, hor, show 6 - (i + 1) = 5 - i by omega]
        rfl
      obtain ⟨a, b, c⟩ := woL_v hf g (i + 1) (woS tp f (f + i) v) hn
      rw [show f + (i + 1) = f + i + 1 by omega] at a b c
      refine ⟨by omega, fun k h1 h2 => ?_, c⟩
      by_cases z : k = i
      · rw [z]; exact q
      · exact b k (by omega) h2
    · rw [if_neg q]
      refine ⟨Nat.le_refl _, fun k h1 h2 => absurd h2 (by show ¬ f + k < f + i; omega), fun q => ?_⟩
      show v = _
      have q2 : f + i - f ≤ 6 := q
      rw [show f + i - f = i by omega]
      exact h (by omega)
theorem hor_c {x y : Nat → Nat} : ∀ k, (∀ j, j < k → x j = y j) → hor x k = hor y k
  | 0, _ => rfl
  | k + 1, h => by rw [hor, hor, hor_c k (fun j hj => h j (by omega)), h k (by omega)]
/-- the model's name is the class' -/
theorem nam_e {tp : Nat → Int32} {f n : Nat} (hn : n ≤ 6) : hor (lx tp f n) 6 = hor (ly6 tp f) n * 32 ^ (6 - n) := by
  have h1 := hor_z (x := lx tp f n) (n := n) (fun k hk => if_neg (by omega)) (6 - n)
  rw [show n + (6 - n) = 6 by omega] at h1
  rw [h1, hor_c (x := lx tp f n) (y := ly6 tp f) n (fun j hj => if_pos hj)]
