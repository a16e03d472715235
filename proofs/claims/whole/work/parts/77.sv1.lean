/-! SERVE: most needs, each by a bottle of its own (own) -/
theorem bit_0 (y : BitVec 32) : (y &&& 1#32 = 0#32) ↔ y.getLsbD 0 = false := by
  constructor
  · intro h
    have := congrArg (fun z => BitVec.getLsbD z 0) h
    simpa using this
  · intro h
    apply BitVec.eq_of_getLsbD_eq
    intro i hi
    rw [BitVec.getLsbD_and, BitVec.getLsbD_one]
    by_cases e : i = 0
    · rw [e, h]; rfl
    · simp [e]
theorem sh_sm : ∀ m, m < 31 → ((nI m &&& 31).toBitVec.smod 32).toNat = m := by decide
theorem hb_i {x : Int32} {m : Nat} (hm : m < 31) : ((x >>> (nI m &&& 31)) &&& nI 1 = 0) ↔ x.toBitVec.getLsbD m = false := by
  have e1 : ((x >>> (nI m &&& 31)) &&& nI 1 = 0) ↔ ((x >>> (nI m &&& 31)).toBitVec &&& 1#32 = 0#32) := ⟨fun h => congrArg Int32.toBitVec h, fun h => Int32.toBitVec_inj.mp h⟩
  rw [e1, bit_0, Int32.toBitVec_shiftRight, BitVec.sshiftRight_eq', sh_sm m hm, BitVec.getLsbD_sshiftRight]
  simp
  intro h
  exact absurd h (by omega)
theorem bt_l {b m : Nat} (hb : b < 31) (hm : m < 31) : (bt b).toBitVec.getLsbD m = decide (m = b) := by
  rw [show bt b = nI (2 ^ b) from bitN_p hb, show (nI (2 ^ b)).toBitVec = BitVec.ofNat 32 (2 ^ b) from rfl, BitVec.getLsbD_ofNat, Nat.testBit_two_pow]
  rw [decide_eq_true (show m < 32 by omega), Bool.true_and]
  exact decide_eq_decide.mpr ⟨fun h => h.symm, fun h => h.symm⟩
def hb (x : Int32) (b : Nat) : Bool := decide (¬ (x >>> (nI b &&& 31)) &&& nI 1 = 0)
theorem hb_l {x : Int32} {m : Nat} (hm : m < 31) : hb x m = x.toBitVec.getLsbD m := by
  unfold hb
  by_cases h : x.toBitVec.getLsbD m = false
  · rw [h]; exact decide_eq_false (fun q => q ((hb_i hm).mpr h))
  · rw [Bool.not_eq_false _ |>.mp h]; exact decide_eq_true (fun q => h ((hb_i hm).mp q))
theorem hb_or {x : Int32} {b m : Nat} (hb9 : b < 31) (hm : m < 31) : hb (x ||| bt b) m = (hb x m || decide (m = b)) := by
  rw [hb_l hm, hb_l hm, Int32.toBitVec_or, BitVec.getLsbD_or, bt_l hb9 hm]
theorem hb_cl {x : Int32} {b m : Nat} (hb9 : b < 31) (hm : m < 31) : hb (x &&& (bt b ^^^ -1)) m = (hb x m && !decide (m = b)) := by
  rw [hb_l hm, hb_l hm, Int32.toBitVec_and, BitVec.getLsbD_and, Int32.toBitVec_xor, BitVec.getLsbD_xor, bt_l hb9 hm, m1_bv, BitVec.getLsbD_allOnes, decide_eq_true (show m < 32 by omega)]
  cases decide (m = b) <;> rfl
theorem hb_0 {m : Nat} (hm : m < 31) : hb (nI 0) m = false := by
  rw [hb_l hm]; show (0#32).getLsbD m = false; simp
abbrev Mu : Type := Nat → Option Nat
def Mt (fit : Nat → Nat → Prop) (N S : Nat → Prop) (μ : Mu) : Prop := (∀ n b, μ n = some b → N n ∧ S b ∧ fit n b) ∧ ∀ n m b, μ n = some b → μ m = some b → n = m
def sz (μ : Mu) : Nat := cnN (fun n => (μ n).isSome) 8
def IsMax (fit : Nat → Nat → Prop) (N S : Nat → Prop) (v : Nat) : Prop := (∃ μ, Mt fit N S μ ∧ sz μ = v) ∧ ∀ μ, Mt fit N S μ → sz μ ≤ v
def mset (μ : Mu) (x : Nat) (o : Option Nat) : Mu := fun n => if n = x then o else μ n
theorem mset_s {μ : Mu} {x : Nat} {o : Option Nat} : mset μ x o x = o := if_pos rfl
theorem mset_n {μ : Mu} {x i : Nat} {o : Option Nat} (h : i ≠ x) : mset μ x o i = μ i := if_neg h
theorem cn_set {μ : Mu} {x : Nat} {o : Option Nat} : ∀ k, cnN (fun n => (mset μ x o n).isSome) k + (if x < k ∧ (μ x).isSome = true then 1 else 0) = cnN (fun n => (μ n).isSome) k + (if x < k ∧ o.isSome = true then 1 else 0)
  | 0 => by rw [if_neg (fun h => absurd h.1 (by omega)), if_neg (fun h => absurd h.1 (by omega))]; rfl
  | k + 1 => by
    have ih := cn_set (μ := μ) (x := x) (o := o) k
    rw [cnN, cnN]
    by_cases e : k = x
    · subst e
      rw [if_neg (fun h => absurd h.1 (by omega)), if_neg (fun h => absurd h.1 (by omega))] at ih
      rw [mset_s]
      have e1 : (if k < k + 1 ∧ (μ k).isSome = true then 1 else 0) = (if (μ k).isSome = true then 1 else 0) := by
        by_cases q : (μ k).isSome = true
        · rw [if_pos ⟨by omega, q⟩, if_pos q]
        · rw [if_neg (fun z => q z.2), if_neg q]
      have e2 : (if k < k + 1 ∧ o.isSome = true then 1 else 0) = (if o.isSome = true then 1 else 0) := by
        by_cases q : o.isSome = true
        · rw [if_pos ⟨by omega, q⟩, if_pos q]
        · rw [if_neg (fun z => q z.2), if_neg q]
      rw [e1, e2]
      omega
    · rw [mset_n e]
      have e3 : (x < k + 1) ↔ (x < k) := ⟨fun _ => by omega, fun _ => by omega⟩
      simp only [e3]
      omega
theorem sz_set {μ : Mu} {x : Nat} {o : Option Nat} (hx : x < 8) : sz (mset μ x o) + (if (μ x).isSome = true then 1 else 0) = sz μ + (if o.isSome = true then 1 else 0) := by
  have := cn_set (μ := μ) (x := x) (o := o) 8
  unfold sz
  by_cases q : (μ x).isSome = true <;> by_cases q2 : o.isSome = true <;> simp only [q, q2, hx, and_true, if_true, and_false, if_false, Bool.false_eq_true] at this ⊢ <;> exact this
theorem sz_no {μ : Mu} (h : ∀ n, n < 8 → μ n = none) : sz μ = 0 := by
  have h2 : cnN (fun n => (μ n).isSome) 8 = cnN (fun _ => false) 8 := cnN_c 8 (fun i hi => by show (μ i).isSome = false; rw [h i hi]; rfl)
  unfold sz
  rw [h2]
  rfl
theorem IsMax.uq {fit : Nat → Nat → Prop} {N S : Nat → Prop} {v v' : Nat} (h : IsMax fit N S v) (h' : IsMax fit N S v') : v = v' := by
  obtain ⟨⟨μ, a, b⟩, c⟩ := h
  obtain ⟨⟨μ', a', b'⟩, c'⟩ := h'
  have := c μ' a'
  have := c' μ a
  omega
theorem IsMax.cg {fit : Nat → Nat → Prop} {N N' S S' : Nat → Prop} {v : Nat} (h : IsMax fit N S v) (hN : ∀ n, N n ↔ N' n) (hS : ∀ b, S b ↔ S' b) : IsMax fit N' S' v := by
  have e1 : N = N' := funext fun n => propext (hN n)
  have e2 : S = S' := funext fun n => propext (hS n)
  rw [← e1, ← e2]
  exact h
theorem IsMax.no {fit : Nat → Nat → Prop} {N S : Nat → Prop} (h : ∀ n, ¬ N n) : IsMax fit N S 0 := by
  refine ⟨⟨fun _ => none, ⟨fun n b e => (by cases e), fun n m b e => (by cases e)⟩, sz_no (fun _ _ => rfl)⟩, fun μ hμ => ?_⟩
  rw [sz_no (fun n _ => ?_)]
  · exact Nat.le_refl 0
  · cases e : μ n with
    | none => rfl
    | some b => exact absurd (hμ.1 n b e).1 (h n)
section GR
variable {lo hi f : Nat → Int32} {N S : Nat → Prop} {n b v : Nat}
abbrev fitI (lo hi f : Nat → Int32) (n b : Nat) : Prop := lo n ≤ f b ∧ f b ≤ hi n
theorem gr_skip (hno : ∀ c, S c → ¬ fitI lo hi f n c) (h : IsMax (fitI lo hi f) (fun m => N m ∧ m ≠ n) S v) : IsMax (fitI lo hi f) N S v := by
  obtain ⟨⟨μ, a, e⟩, c⟩ := h
  refine ⟨⟨μ, ⟨fun m k q => ⟨(a.1 m k q).1.1, (a.1 m k q).2⟩, a.2⟩, e⟩, fun μ' a' => c μ' ⟨fun m k q => ⟨⟨(a'.1 m k q).1, fun z => ?_⟩, (a'.1 m k q).2⟩, a'.2⟩⟩
  subst z
  exact hno k (a'.1 m k q).2.1 (a'.1 m k q).2.2
theorem g_put {fit : Nat → Nat → Prop} (hn8 : n < 8) (hN : N n) (hS : S b) (hf : fit n b) {μ : Mu} (a : Mt fit (fun m => N m ∧ m ≠ n) (fun c => S c ∧ c ≠ b) μ) : Mt fit N S (mset μ n (some b)) ∧ sz (mset μ n (some b)) = sz μ + 1 := by
  have h0 : μ n = none := by
    cases e : μ n with
    | none => rfl
    | some c => exact absurd rfl (a.1 n c e).1.2
  refine ⟨⟨fun m k q => ?_, fun m1 m2 k q1 q2 => ?_⟩, ?_⟩
  · by_cases z : m = n
    · subst z; rw [mset_s] at q; cases q; exact ⟨hN, hS, hf⟩
    · rw [mset_n z] at q; exact ⟨(a.1 m k q).1.1, (a.1 m k q).2.1.1, (a.1 m k q).2.2⟩
  · by_cases z1 : m1 = n
    · by_cases z2 : m2 = n
      · rw [z1, z2]
      · rw [z1, mset_s] at q1; cases q1; rw [mset_n z2] at q2; exact absurd rfl (a.1 m2 _ q2).2.1.2
    · by_cases z2 : m2 = n
      · rw [z2, mset_s] at q2; cases q2; rw [mset_n z1] at q1; exact absurd rfl (a.1 m1 _ q1).2.1.2
      · rw [mset_n z1] at q1; rw [mset_n z2] at q2; exact a.2 m1 m2 k q1 q2
  · have := sz_set (μ := μ) (x := n) (o := some b) hn8
    rw [h0] at this
    simpa using this
theorem gr_take (hN8 : ∀ m, N m → m < 8) (hN : N n) (hS : S b) (hf : fitI lo hi f n b) (hmin : ∀ m, N m → hi n ≤ hi m) (hw : ∀ c, S c → fitI lo hi f n c → f b ≤ f c) (h : IsMax (fitI lo hi f) (fun m => N m ∧ m ≠ n) (fun c => S c ∧ c ≠ b) v) : IsMax (fitI lo hi f) N S (v + 1) := by
  obtain ⟨⟨μ, a, e⟩, c⟩ := h
  refine ⟨⟨_, (g_put (hN8 n hN) hN hS hf a).1, by rw [(g_put (hN8 n hN) hN hS hf a).2, e]⟩, fun μ hμ => ?_⟩
  have key : ∃ μ', Mt (fitI lo hi f) (fun m => N m ∧ m ≠ n) (fun c => S c ∧ c ≠ b) μ' ∧ sz μ ≤ sz μ' + 1 := by
    by_cases hm : ∃ m, m ≠ n ∧ μ m = some b
    · obtain ⟨m, hmn, em⟩ := hm
      have hm8 := hN8 m (hμ.1 m b em).1
      cases en : μ n with
      | none =>
        refine ⟨mset μ m none, ⟨fun k c q => ?_, fun k1 k2 c q1 q2 => ?_⟩, ?_⟩
        · by_cases z : k = m
          · rw [z, mset_s] at q; cases q
          · rw [mset_n z] at q
            refine ⟨⟨(hμ.1 k c q).1, fun z2 => ?_⟩, ⟨(hμ.1 k c q).2.1, fun z2 => ?_⟩, (hμ.1 k c q).2.2⟩
            · rw [z2, en] at q; cases q
            · rw [z2] at q; exact z (hμ.2 k m b q em)
        · by_cases z1 : k1 = m
          · rw [z1, mset_s] at q1; cases q1
          · by_cases z2 : k2 = m
            · rw [z2, mset_s] at q2; cases q2
            · rw [mset_n z1] at q1; rw [mset_n z2] at q2; exact hμ.2 k1 k2 c q1 q2
        · have := sz_set (μ := μ) (x := m) (o := none) hm8
          rw [em] at this
          simp at this
          omega
      | some d =>
        have hd : d ≠ b := fun z => hmn (hμ.2 m n b em (by rw [en, z]))
        have fm := (hμ.1 m b em).2.2
        have fn := (hμ.1 n d en).2
        have hmd : fitI lo hi f m d := ⟨Int32.le_trans fm.1 (hw d fn.1 fn.2), Int32.le_trans fn.2.2 (hmin m (hμ.1 m b em).1)⟩
        refine ⟨mset (mset μ n none) m (some d), ⟨fun k c q => ?_, fun k1 k2 c q1 q2 => ?_⟩, ?_⟩
        · by_cases z : k = m
          · rw [z, mset_s] at q; cases q
            rw [z]
            exact ⟨⟨(hμ.1 m b em).1, hmn⟩, ⟨fn.1, hd⟩, hmd⟩
          · rw [mset_n z] at q
            by_cases z2 : k = n
            · rw [z2, mset_s] at q; cases q
            · rw [mset_n z2] at q
              exact ⟨⟨(hμ.1 k c q).1, z2⟩, ⟨(hμ.1 k c q).2.1, fun z3 => z (hμ.2 k m b (by rw [← z3]; exact q) em)⟩, (hμ.1 k c q).2.2⟩
        · have one : ∀ k, mset (mset μ n none) m (some d) k = some d → k = m := fun k q => by
            by_cases z : k = m
            · exact z
            · rw [mset_n z] at q
              by_cases z2 : k = n
              · rw [z2, mset_s] at q; cases q
              · rw [mset_n z2] at q
                exact absurd (hμ.2 k n d q en) z2
          by_cases z1 : k1 = m
          · rw [z1, mset_s] at q1; cases q1
            rw [z1]; exact (one k2 q2).symm
          · by_cases z2 : k2 = m
            · rw [z2, mset_s] at q2; cases q2
              rw [z2]; exact one k1 q1
            · rw [mset_n z1] at q1; rw [mset_n z2] at q2
              by_cases y1 : k1 = n
              · rw [y1, mset_s] at q1; cases q1
              · by_cases y2 : k2 = n
                · rw [y2, mset_s] at q2; cases q2
                · rw [mset_n y1] at q1; rw [mset_n y2] at q2; exact hμ.2 k1 k2 c q1 q2
        · have h1 := sz_set (μ := μ) (x := n) (o := none) (hN8 n hN)
          have h2 := sz_set (μ := mset μ n none) (x := m) (o := some d) hm8
          rw [mset_n hmn, em] at h2
          rw [en] at h1
          simp at h1 h2
          omega
    · refine ⟨mset μ n none, ⟨fun k c q => ?_, fun k1 k2 c q1 q2 => ?_⟩, ?_⟩
      · by_cases z : k = n
        · rw [z, mset_s] at q; cases q
        · rw [mset_n z] at q
          exact ⟨⟨(hμ.1 k c q).1, z⟩, ⟨(hμ.1 k c q).2.1, fun z3 => hm ⟨k, z, by rw [← z3]; exact q⟩⟩, (hμ.1 k c q).2.2⟩
      · by_cases z1 : k1 = n
        · rw [z1, mset_s] at q1; cases q1
        · by_cases z2 : k2 = n
          · rw [z2, mset_s] at q2; cases q2
          · rw [mset_n z1] at q1; rw [mset_n z2] at q2; exact hμ.2 k1 k2 c q1 q2
      · have := sz_set (μ := μ) (x := n) (o := none) (hN8 n hN)
        have h9 : (if (μ n).isSome = true then 1 else 0) ≤ 1 := by split <;> omega
        simp only [Option.isSome_none, Bool.false_eq_true, if_false, Nat.add_zero] at this
        omega
  obtain ⟨μ', h1, h2⟩ := key
  have := c μ' h1
  omega
theorem gr_dp {fit : Nat → Nat → Prop} {v0 : Nat} {g : Nat → Nat} (hn8 : n < 8) (hN : N n) (h0 : IsMax fit (fun m => N m ∧ m ≠ n) S v0) (hb : ∀ b, S b → fit n b → IsMax fit (fun m => N m ∧ m ≠ n) (fun c => S c ∧ c ≠ b) (g b)) (h1 : v0 ≤ v) (h2 : ∀ b, S b → fit n b → g b + 1 ≤ v) (h3 : v = v0 ∨ ∃ b, S b ∧ fit n b ∧ v = g b + 1) : IsMax fit N S v := by
  refine ⟨?_, fun μ hμ => ?_⟩
  · rcases h3 with h3 | ⟨b, hS, hf, h3⟩
    · obtain ⟨⟨μ, a, e⟩, -⟩ := h0
      exact ⟨μ, ⟨fun m k q => ⟨(a.1 m k q).1.1, (a.1 m k q).2⟩, a.2⟩, by omega⟩
    · obtain ⟨⟨μ, a, e⟩, -⟩ := hb b hS hf
      exact ⟨_, (g_put hn8 hN hS hf a).1, by rw [(g_put hn8 hN hS hf a).2, e, h3]⟩
  · cases en : μ n with
    | none =>
      have := h0.2 μ ⟨fun m k q => ⟨⟨(hμ.1 m k q).1, fun z => by rw [z, en] at q; cases q⟩, (hμ.1 m k q).2⟩, hμ.2⟩
      omega
    | some b =>
      have hS := (hμ.1 n b en).2.1
      have hf := (hμ.1 n b en).2.2
      have h4 := (hb b hS hf).2 (mset μ n none) ⟨fun k c q => by
          by_cases z : k = n
          · rw [z, mset_s] at q; cases q
          · rw [mset_n z] at q
            exact ⟨⟨(hμ.1 k c q).1, z⟩, ⟨(hμ.1 k c q).2.1, fun z3 => z (hμ.2 k n b (by rw [← z3]; exact q) en)⟩, (hμ.1 k c q).2.2⟩, fun k1 k2 c q1 q2 => by
          by_cases z1 : k1 = n
          · rw [z1, mset_s] at q1; cases q1
          · by_cases z2 : k2 = n
            · rw [z2, mset_s] at q2; cases q2
            · rw [mset_n z1] at q1; rw [mset_n z2] at q2; exact hμ.2 k1 k2 c q1 q2⟩
      have h5 := sz_set (μ := μ) (x := n) (o := none) hn8
      have h6 := h2 b hS hf
      rw [en] at h5
      simp at h5
      omega
end GR
theorem cnN_lt {P Q : Nat → Bool} {x : Nat} : ∀ n, x < n → (∀ i, i < n → Q i = true → P i = true) → P x = true → Q x = false → cnN Q n + 1 ≤ cnN P n
  | 0, h, _, _, _ => by omega
  | n + 1, h, hq, h1, h2 => by
    rw [cnN, cnN]
    by_cases e : x = n
    · subst e
      have := cnN_mono x (fun i hi => hq i (by omega))
      rw [h1, h2]
      simp
      omega
    · have := cnN_lt n (by omega) (fun i hi => hq i (by omega)) h1 h2
      have h3 := hq n (by omega)
      by_cases q : Q n = true
      · rw [if_pos q, if_pos (h3 q)]; omega
      · rw [if_neg q]; omega
theorem enL_p {T : TV} {dn : Int32} : ∀ (g i : Nat) (ac : Option Nat), (∀ n, enL T dn g i ac = some n → (ac = some n ∨ (i ≤ n ∧ n < i + g ∧ hb dn n = false)) ∧ (∀ w, ac = some w → T.2.1 14 n ≤ T.2.1 14 w) ∧ ∀ m, i ≤ m → m < i + g → hb dn m = false → T.2.1 14 n ≤ T.2.1 14 m) ∧ (enL T dn g i ac = none → ac = none ∧ ∀ m, i ≤ m → m < i + g → hb dn m = true)
  | 0, i, ac => ⟨fun n h => ⟨Or.inl h, fun w e => by rw [show ac = some n from h] at e; cases e; exact Int32.le_refl _, fun m h1 h2 => absurd h2 (by omega)⟩, fun h => ⟨h, fun m h1 h2 => absurd h2 (by omega)⟩⟩
  | g + 1, i, ac => by
    rw [enL]
    have ih := enL_p (T := T) (dn := dn) g (i + 1) (enS T dn i ac)
    have hz : ∀ j, hb dn j = false → (dn >>> (nI j &&& 31)) &&& nI 1 = 0 := fun j h => Decidable.not_not.mp (of_decide_eq_false h)
    have hz2 : ∀ j, (dn >>> (nI j &&& 31)) &&& nI 1 = 0 → hb dn j = false := fun j h => decide_eq_false (not_not_intro h)
    by_cases hc : (dn >>> (nI i &&& 31)) &&& nI 1 = 0 ∧ (∀ w, ac = some w → T.2.1 14 i < T.2.1 14 w)
    · have eS : enS T dn i ac = some i := if_pos hc
      rw [eS] at ih ⊢
      refine ⟨fun n h => ?_, fun h => absurd (ih.2 h).1 (by simp)⟩
      obtain ⟨a, b, c⟩ := ih.1 n h
      have hin := b i rfl
      refine ⟨Or.inr ?_, fun w e => Int32.le_trans hin (Int32.le_of_lt (hc.2 w e)), fun m h1 h2 h3 => ?_⟩
      · rcases a with a | ⟨a1, a2, a3⟩
        · cases a; exact ⟨Nat.le_refl _, by omega, hz2 i hc.1⟩
        · exact ⟨by omega, by omega, a3⟩
      · by_cases e : m = i
        · rw [e]; exact hin
        · exact c m (by omega) (by omega) h3
    · have eS : enS T dn i ac = ac := if_neg hc
      rw [eS] at ih ⊢
      refine ⟨fun n h => ?_, fun h => ?_⟩
      · obtain ⟨a, b, c⟩ := ih.1 n h
        refine ⟨a.imp id (fun z => ⟨by omega, by omega, z.2.2⟩), b, fun m h1 h2 h3 => ?_⟩
        by_cases e : m = i
        · subst e
          have h5 : ¬ ∀ w, ac = some w → T.2.1 14 m < T.2.1 14 w := fun z => hc ⟨hz m h3, z⟩
          cases ea : ac with
          | none => exact absurd (fun w e => by rw [ea] at e; cases e) h5
          | some w =>
            have h6 : ¬ T.2.1 14 m < T.2.1 14 w := fun z => h5 (fun w' e => by rw [ea] at e; cases e; exact z)
            exact Int32.le_trans (b w ea) (Int32.not_lt.mp h6)
        · exact c m (by omega) (by omega) h3
      · obtain ⟨a, b⟩ := ih.2 h
        refine ⟨a, fun m h1 h2 => ?_⟩
        by_cases e : m = i
        · subst e
          cases hv : hb dn m with
          | true => rfl
          | false => exact absurd ⟨hz m hv, fun w e => by rw [a] at e; cases e⟩ hc
        · exact b m (by omega) (by omega)
theorem wfL_p {T : TV} {V : CV} {n : Nat} {fr : Int32} : ∀ (g i : Nat) (ac : Option Nat), (∀ b, wfL T V n fr g i ac = some b → (ac = some b ∨ (i ≤ b ∧ b < i + g ∧ ftB T V n b fr = true)) ∧ (∀ w, ac = some w → V.2.2.2 1 b ≤ V.2.2.2 1 w) ∧ ∀ m, i ≤ m → m < i + g → ftB T V n m fr = true → V.2.2.2 1 b ≤ V.2.2.2 1 m) ∧ (wfL T V n fr g i ac = none → ac = none ∧ ∀ m, i ≤ m → m < i + g → ¬ ftB T V n m fr = true)
  | 0, i, ac => ⟨fun n h => ⟨Or.inl h, fun w e => by rw [show ac = some n from h] at e; cases e; exact Int32.le_refl _, fun m h1 h2 => absurd h2 (by omega)⟩, fun h => ⟨h, fun m h1 h2 => absurd h2 (by omega)⟩⟩
  | g + 1, i, ac => by
    rw [wfL]
    have ih := wfL_p (T := T) (V := V) (n := n) (fr := fr) g (i + 1) (wfS T V n fr i ac)
    by_cases hc : ftB T V n i fr = true ∧ (∀ w, ac = some w → V.2.2.2 1 i < V.2.2.2 1 w)
    · have eS : wfS T V n fr i ac = some i := if_pos hc
      rw [eS] at ih ⊢
      refine ⟨fun n h => ?_, fun h => absurd (ih.2 h).1 (by simp)⟩
      obtain ⟨a, b, c⟩ := ih.1 n h
      have hin := b i rfl
      refine ⟨Or.inr ?_, fun w e => Int32.le_trans hin (Int32.le_of_lt (hc.2 w e)), fun m h1 h2 h3 => ?_⟩
      · rcases a with a | ⟨a1, a2, a3⟩
        · cases a; exact ⟨Nat.le_refl _, by omega, hc.1⟩
        · exact ⟨by omega, by omega, a3⟩
      · by_cases e : m = i
        · rw [e]; exact hin
        · exact c m (by omega) (by omega) h3
    · have eS : wfS T V n fr i ac = ac := if_neg hc
      rw [eS] at ih ⊢
      refine ⟨fun n h => ?_, fun h => ?_⟩
      · obtain ⟨a, b, c⟩ := ih.1 n h
        refine ⟨a.imp id (fun z => ⟨by omega, by omega, z.2.2⟩), b, fun m h1 h2 h3 => ?_⟩
        by_cases e : m = i
        · subst e
          have h5 : ¬ ∀ w, ac = some w → V.2.2.2 1 m < V.2.2.2 1 w := fun z => hc ⟨h3, z⟩
          cases ea : ac with
          | none => exact absurd (fun w e => by rw [ea] at e; cases e) h5
          | some w =>
            have h6 : ¬ V.2.2.2 1 m < V.2.2.2 1 w := fun z => h5 (fun w' e => by rw [ea] at e; cases e; exact z)
            exact Int32.le_trans (b w ea) (Int32.not_lt.mp h6)
        · exact c m (by omega) (by omega) h3
      · obtain ⟨a, b⟩ := ih.2 h
        refine ⟨a, fun m h1 h2 => ?_⟩
        by_cases e : m = i
        · subst e
          exact fun hv => hc ⟨hv, fun w e => by rw [a] at e; cases e⟩
        · exact b m (by omega) (by omega)
def fitT (T : TV) (V : CV) : Nat → Nat → Prop := fitI (T.2.1 13) (T.2.1 14) (V.2.2.2 1)
def Nf (V : CV) (nn f : Nat) : Nat → Prop := fun n => f ≤ n ∧ n < nn ∧ V.2.2.2 5 n = -1
def Sf (nb : Nat) (fr : Int32) : Nat → Prop := fun b => b < nb ∧ hb fr b = true
theorem ftB_e {T : TV} {V : CV} {n b : Nat} {fr : Int32} : ftB T V n b fr = true ↔ (V.2.2.2 5 n = -1 ∧ hb fr b = true ∧ fitT T V n b) := by
  unfold ftB hb fitT
  rw [Bool.and_eq_true_iff, Bool.and_eq_true_iff, decide_eq_true_iff, decide_eq_true_iff, decide_eq_true_iff]
theorem Sf_cl {nb b : Nat} {fr : Int32} (hnb : nb ≤ 10) (hb9 : b < nb) (c : Nat) : (Sf nb fr c ∧ c ≠ b) ↔ Sf nb (fr &&& (bt b ^^^ -1)) c := by
  unfold Sf
  constructor
  · rintro ⟨⟨h1, h2⟩, h3⟩
    exact ⟨h1, by rw [hb_cl (by omega) (by omega), h2, decide_eq_false h3]; rfl⟩
  · rintro ⟨h1, h2⟩
    rw [hb_cl (by omega) (by omega), Bool.and_eq_true_iff] at h2
    exact ⟨⟨h1, h2.1⟩, fun e => by rw [decide_eq_true e] at h2; exact absurd h2.2 (by decide)⟩
def remP (f : Nat) (dn : Int32) : Nat → Bool := fun n => decide (f ≤ n) && !hb dn n
theorem mfL_p {T : TV} {V : CV} {nb nn f : Nat} (hnn : nn ≤ 8) (hnb : nb ≤ 10) (hf : f ≤ nn) : ∀ (g : Nat) (S : MS3), cnN (remP f S.1) nn ≤ g → ∃ v, (mfL T V nb nn f g S).2.2 = S.2.2 + v ∧ IsMax (fitT T V) (fun n => Nf V nn f n ∧ hb S.1 n = false) (Sf nb S.2.1) v
  | 0, S, h => ⟨0, rfl, IsMax.no (fun n hn => by
      have := cnN_lt (P := remP f S.1) (Q := fun _ => false) (x := n) nn hn.1.2.1 (fun _ _ q => by cases q) (by unfold remP; rw [decide_eq_true hn.1.1, hn.2]; rfl) rfl
      omega)⟩
  | g + 1, S, h => by
    have en := enL_p (T := T) (dn := S.1) (nn - f) f none
    rw [mfL]
    cases e : enL T S.1 (nn - f) f none with
    | none =>
      have h2 := (en.2 e).2
      rw [mfS_0 e]
      refine mfL_p hnn hnb hf g S ?_
      have h0 : cnN (remP f S.1) nn = cnN (fun _ => false) nn := cnN_c nn (fun i hi => by
        unfold remP
        by_cases q : f ≤ i
        · rw [h2 i q (by omega)]; simp
        · rw [decide_eq_false q]; rfl)
      have h1 : cnN (fun _ => false) nn = 0 := by
        have := cnN_up (P := fun _ => false) (n := 0) nn (fun _ _ _ => rfl)
        rw [Nat.zero_add] at this
        exact this
      omega
    | some n =>
      obtain ⟨a, -, c⟩ := en.1 n e
      rcases a with a | ⟨a1, a2, a3⟩
      · cases a
      have hn : n < nn := by omega
      have hor : ∀ m, m < 31 → hb (S.1 ||| bt n) m = (hb S.1 m || decide (m = n)) := fun m hm => hb_or (by omega) hm
      have hrem : cnN (remP f (S.1 ||| bt n)) nn ≤ g := by
        have := cnN_lt (P := remP f S.1) (Q := remP f (S.1 ||| bt n)) (x := n) nn hn (fun i hi q => by
          unfold remP at q ⊢
          rw [hor i (by omega)] at q
          rw [Bool.and_eq_true_iff] at q ⊢
          refine ⟨q.1, ?_⟩
          have q2 := q.2
          cases hv : hb S.1 i with
          | false => rfl
          | true => rw [hv] at q2; simp at q2) (by unfold remP; rw [decide_eq_true a1, a3]; rfl) (by unfold remP; rw [hor n (by omega), decide_eq_true rfl]; simp)
        omega
      have hset : ∀ m, ((Nf V nn f m ∧ hb S.1 m = false) ∧ m ≠ n) ↔ (Nf V nn f m ∧ hb (S.1 ||| bt n) m = false) := fun m => by
        constructor
        · rintro ⟨⟨h1, h2⟩, h3⟩
          exact ⟨h1, by rw [hor m (by have := h1.2.1; omega), h2, decide_eq_false h3]; rfl⟩
        · rintro ⟨h1, h2⟩
          rw [hor m (by have := h1.2.1; omega), Bool.or_eq_false_iff] at h2
          exact ⟨⟨h1, h2.1⟩, of_decide_eq_false h2.2⟩
      have wf := wfL_p (T := T) (V := V) (n := n) (fr := S.2.1) nb 0 none
      cases e2 : wfL T V n S.2.1 nb 0 none with
      | none =>
        have h2 := (wf.2 e2).2
        rw [mfS_1 e e2]
        obtain ⟨v, ev, hv⟩ := mfL_p (T := T) (V := V) hnn hnb hf g (S.1 ||| bt n, S.2.1, S.2.2) hrem
        refine ⟨v, ev, ?_⟩
        have hv2 := hv.cg (fun m => (hset m).symm) (fun _ => Iff.rfl)
        by_cases hm : V.2.2.2 5 n = -1
        · exact gr_skip (fun b hS hfit => h2 b (by omega) (by have := hS.1; omega) (ftB_e.mpr ⟨hm, hS.2, hfit⟩)) hv2
        · exact hv2.cg (fun m => ⟨fun z => z.1, fun z => ⟨z, fun q => hm (by rw [← q]; exact z.1.2.2)⟩⟩) (fun _ => Iff.rfl)
      | some b =>
        obtain ⟨b1, -, b2⟩ := wf.1 b e2
        rcases b1 with b1 | ⟨-, b3, b4⟩
        · cases b1
        have hb9 : b < nb := by omega
        obtain ⟨k1, k2, k3⟩ := ftB_e.mp b4
        rw [mfS_2 e e2]
        obtain ⟨v, ev, hv⟩ := mfL_p (T := T) (V := V) hnn hnb hf g (S.1 ||| bt n, S.2.1 &&& (bt b ^^^ -1), S.2.2 + 1) hrem
        refine ⟨v + 1, by rw [ev]; show S.2.2 + 1 + v = _; omega, ?_⟩
        refine gr_take (fun m hm => by have := hm.1.2.1; omega) ⟨⟨a1, hn, k1⟩, a3⟩ ⟨hb9, k2⟩ k3 (fun m hm => c m hm.1.1 (by have := hm.1.2.1; omega) hm.2) (fun c hc hfc => b2 c (by omega) (by have := hc.1; omega) (ftB_e.mpr ⟨k1, hc.2, hfc⟩)) (hv.cg (fun m => (hset m).symm) (fun c => (Sf_cl hnb hb9 c).symm))
theorem most_p {T : TV} {V : CV} {nb nn f : Nat} {fr : Int32} (hnn : nn ≤ 8) (hnb : nb ≤ 10) (hf : f ≤ nn) : IsMax (fitT T V) (Nf V nn f) (Sf nb fr) (mostF T V nb nn f fr) := by
  have hle : cnN (remP f (nI 0)) nn ≤ nn - f := by
    have h1 : ∀ k, k ≤ nn → cnN (remP f (nI 0)) k ≤ k - f := fun k => by
      induction k with
      | zero => intro _; exact Nat.zero_le _
      | succ k ih =>
        intro hk
        have := ih (by omega)
        rw [cnN]
        by_cases q : f ≤ k
        · split <;> omega
        · rw [if_neg (by unfold remP; rw [decide_eq_false q]; simp)]; omega
    exact h1 nn (Nat.le_refl _)
  obtain ⟨v, ev, hv⟩ := mfL_p (T := T) (V := V) hnn hnb hf (nn - f) (nI 0, fr, 0) hle
  have e : mostF T V nb nn f fr = v := by
    show (mfL T V nb nn f (nn - f) (nI 0, fr, 0)).2.2 = v
    rw [ev]; exact Nat.zero_add v
  rw [e]
  exact hv.cg (fun m => ⟨fun z => z.1, fun z => ⟨z, hb_0 (by have := z.2.1; omega)⟩⟩) (fun _ => Iff.rfl)
theorem most_nn {T : TV} {V : CV} {nb nn : Nat} {fr : Int32} : mostF T V nb nn nn fr = 0 := by unfold mostF; rw [Nat.sub_self]; rfl
theorem most_sk {T : TV} {V : CV} {nb nn f : Nat} {fr : Int32} (hnn : nn ≤ 8) (hnb : nb ≤ 10) (hf : f < nn) (hm : ¬ V.2.2.2 5 f = -1) : mostF T V nb nn f fr = mostF T V nb nn (f + 1) fr :=
  (most_p (T := T) (V := V) hnn hnb (by omega)).uq ((most_p hnn hnb (by omega)).cg (fun n => ⟨fun z => ⟨by have := z.1; omega, z.2⟩, fun z => ⟨by
    have := z.1
    by_cases e : n = f
    · exact absurd (by rw [← e]; exact z.2.2) hm
    · omega, z.2⟩⟩) (fun _ => Iff.rfl))
theorem most_c {T : TV} {V : CV} {nb nn f : Nat} {fr fr' : Int32} (hnn : nn ≤ 8) (hnb : nb ≤ 10) (hf : f ≤ nn) (h : ∀ b, b < nb → hb fr b = hb fr' b) : mostF T V nb nn f fr = mostF T V nb nn f fr' :=
  (most_p (T := T) (V := V) hnn hnb hf).uq ((most_p hnn hnb hf).cg (fun _ => Iff.rfl) (fun b => ⟨fun z => ⟨z.1, by rw [h b z.1]; exact z.2⟩, fun z => ⟨z.1, by rw [← h b z.1]; exact z.2⟩⟩))
/-- the best of what need n may have, or go without -/
def dpL (T : TV) (V : CV) (nb nn n : Nat) (fr : Int32) : Nat → Nat → Nat → Nat
  | 0, _, a => a
  | g + 1, b, a => dpL T V nb nn n fr g (b + 1) (if ftB T V n b fr = true then max a (1 + mostF T V nb nn (n + 1) (fr &&& (bt b ^^^ -1))) else a)
theorem dpL_p {T : TV} {V : CV} {nb nn n : Nat} {fr : Int32} : ∀ (g b a : Nat), a ≤ dpL T V nb nn n fr g b a ∧ (∀ c, b ≤ c → c < b + g → ftB T V n c fr = true → 1 + mostF T V nb nn (n + 1) (fr &&& (bt c ^^^ -1)) ≤ dpL T V nb nn n fr g b a) ∧ (dpL T V nb nn n fr g b a = a ∨ ∃ c, b ≤ c ∧ c < b + g ∧ ftB T V n c fr = true ∧ dpL T V nb nn n fr g b a = 1 + mostF T V nb nn (n + 1) (fr &&& (bt c ^^^ -1)))
  | 0, b, a => ⟨Nat.le_refl _, fun c h1 h2 => absurd h2 (by omega), Or.inl rfl⟩
  | g + 1, b, a => by
    rw [dpL]
    by_cases h : ftB T V n b fr = true
    · rw [if_pos h]
      obtain ⟨p1, p2, p3⟩ := dpL_p (T := T) (V := V) (nb := nb) (nn := nn) (n := n) (fr := fr) g (b + 1) (max a (1 + mostF T V nb nn (n + 1) (fr &&& (bt b ^^^ -1))))
      refine ⟨by omega, fun c h1 h2 h3 => ?_, ?_⟩
      · by_cases e : c = b
        · rw [e]; omega
        · exact p2 c (by omega) (by omega) h3
      · rcases p3 with p3 | ⟨c, c1, c2, c3, c4⟩
        · rw [p3]
          by_cases q : a ≤ 1 + mostF T V nb nn (n + 1) (fr &&& (bt b ^^^ -1))
          · exact Or.inr ⟨b, Nat.le_refl _, by omega, h, by omega⟩
          · exact Or.inl (by omega)
        · exact Or.inr ⟨c, by omega, by omega, c3, c4⟩
    · rw [if_neg h]
      obtain ⟨p1, p2, p3⟩ := dpL_p (T := T) (V := V) (nb := nb) (nn := nn) (n := n) (fr := fr) g (b + 1) a
      refine ⟨p1, fun c h1 h2 h3 => ?_, p3.imp id (fun ⟨c, c1, c2, c3⟩ => ⟨c, by omega, by omega, c3⟩)⟩
      by_cases e : c = b
      · rw [e] at h3; exact absurd h3 h
      · exact p2 c (by omega) (by omega) h3
theorem most_dp {T : TV} {V : CV} {nb nn n : Nat} {fr : Int32} (hnn : nn ≤ 8) (hnb : nb ≤ 10) (hn : n < nn) (hm : V.2.2.2 5 n = -1) : mostF T V nb nn n fr = dpL T V nb nn n fr nb 0 (mostF T V nb nn (n + 1) fr) := by
  have hN : ∀ m, Nf V nn (n + 1) m ↔ (Nf V nn n m ∧ m ≠ n) := fun m => ⟨fun z => ⟨⟨by have := z.1; omega, z.2⟩, by have := z.1; omega⟩, fun z => ⟨by have := z.1.1; have := z.2; omega, z.1.2⟩⟩
  obtain ⟨p1, p2, p3⟩ := dpL_p (T := T) (V := V) (nb := nb) (nn := nn) (n := n) (fr := fr) nb 0 (mostF T V nb nn (n + 1) fr)
  refine (most_p (T := T) (V := V) hnn hnb (by omega)).uq (gr_dp (g := fun b => mostF T V nb nn (n + 1) (fr &&& (bt b ^^^ -1))) (by omega) ⟨Nat.le_refl _, hn, hm⟩ ((most_p hnn hnb hn).cg hN (fun _ => Iff.rfl)) (fun b hS hf => (most_p hnn hnb hn).cg hN (fun c => (Sf_cl hnb hS.1 c).symm)) p1 (fun b hS hf => ?_) ?_)
  · have := p2 b (by omega) (by have := hS.1; omega) (ftB_e.mpr ⟨hm, hS.2, hf⟩)
    omega
  · refine p3.imp id (fun ⟨c, c1, c2, c3, c4⟩ => ?_)
    obtain ⟨k1, k2, k3⟩ := ftB_e.mp c3
    exact ⟨c, ⟨by omega, k2⟩, k3, by rw [c4]; omega⟩
