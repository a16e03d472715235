/-! the class' tokens by their places; the model's token at hand (own) -/
def psF (tp : Nat → Int32) (L : Nat) : Nat → Nat
  | 0 => sk tp L 0
  | c + 1 => if psF tp L c < L then sk tp L (tk1 tp L (psF tp L c)).2.2 else L
/-- the tokens c of a text of L bytes, in the class' rows -/
def TKN (tp : Nat → Int32) (L : Nat) (kd pl vl : Nat → Int32) (c : Nat) : Prop := psF tp L c < L ∧ kd c = (tk1 tp L (psF tp L c)).1 ∧ pl c = nI (psF tp L c) ∧ ∀ v, (tk1 tp L (psF tp L c)).2.1 = some v → vl c = v
theorem sk_le {tp : Nat → Int32} {L q : Nat} (h : q ≤ L) : q ≤ sk tp L q ∧ sk tp L q ≤ L := by
  have := skL_le (tp := tp) (L - q) q
  unfold sk
  omega
theorem sk_b {tp : Nat → Int32} {L q : Nat} (h : q < L) (hb : tp q = nI 10 ∨ tp q = nI 32) : sk tp L q = sk tp L (q + 1) := by
  unfold sk
  rw [show L - q = (L - (q + 1)) + 1 by omega, skL, if_pos hb]
theorem sk_n {tp : Nat → Int32} {L q : Nat} (h : q < L) (hb : ¬ (tp q = nI 10 ∨ tp q = nI 32)) : sk tp L q = q := by
  unfold sk
  rw [show L - q = (L - (q + 1)) + 1 by omega, skL, if_neg hb]
theorem sk_L {tp : Nat → Int32} {L : Nat} : sk tp L L = L := by unfold sk; rw [Nat.sub_self]; rfl
theorem vlU_s {vl : Nat → Int32} {c : Nat} {o : Option Int32} {v : Int32} (h : o = some v) : vlU vl c o c = v := by rw [h]; exact pk_us
theorem vlU_n {vl : Nat → Int32} {c i : Nat} {o : Option Int32} (h : i ≠ c) : vlU vl c o i = vl i := by
  cases o with
  | none => rfl
  | some v => exact pk_un h
theorem raL_p {tp : Nat → Int32} {L : Nat} : ∀ (g p c : Nat) (A : A3), p ≤ L → L ≤ p + g → c ≤ p → sk tp L p = psF tp L c → (∀ i, i < c → TKN tp L A.1 A.2.1 A.2.2 i) →
    ∃ n, (raL tp L g p c A).2.1 = n ∧ n ≤ L ∧ psF tp L n = L ∧ ∀ i, i < n → TKN tp L (raL tp L g p c A).2.2.1 (raL tp L g p c A).2.2.2.1 (raL tp L g p c A).2.2.2.2 i
  | 0, p, c, A, h1, h2, h3, h4, h5 => ⟨c, rfl, by omega, by rw [← h4, show p = L by omega]; exact sk_L, h5⟩
  | g + 1, p, c, A, h1, h2, h3, h4, h5 => by
    rw [raL]
    by_cases hp : p < L
    · rw [if_pos hp]
      by_cases hb : tp p = nI 10 ∨ tp p = nI 32
      · rw [if_pos hb]
        exact raL_p g (p + 1) c A (by omega) (by omega) (by omega) (by rw [← h4]; exact (sk_b hp hb).symm) h5
      · rw [if_neg hb]
        have ep : psF tp L c = p := by rw [← h4]; exact sk_n hp hb
        have hk := tk1_le (tp := tp) hp
        refine raL_p g (tk1 tp L p).2.2 (c + 1) _ (by omega) (by omega) (by omega) (by rw [psF, if_pos (by rw [ep]; exact hp), ep]) (fun i hi => ?_)
        by_cases e : i = c
        · subst e
          refine ⟨by rw [ep]; exact hp, ?_, ?_, fun v hv => ?_⟩
          · rw [ep]; exact pk_us
          · rw [ep]; exact pk_us
          · rw [ep] at hv; exact vlU_s hv
        · obtain ⟨k1, k2, k3, k4⟩ := h5 i (by omega)
          exact ⟨k1, (pk_un e).trans k2, (pk_un e).trans k3, fun v hv => (vlU_n e).trans (k4 v hv)⟩
    · rw [if_neg hp]
      exact ⟨c, rfl, by omega, by rw [← h4, show p = L by omega]; exact sk_L, h5⟩
/-- the rows of tokens as the class has read them -/
def KT (K : TK) (L cnt : Nat) : Prop := L ≤ 700 ∧ cnt ≤ L ∧ psF K.2.2.1 L cnt = L ∧ K.2.2.2.1 cnt = nI 34 ∧ K.2.2.2.2.1 cnt = nI L ∧ ∀ c, c < cnt → TKN K.2.2.1 L K.2.2.2.1 K.2.2.2.2.1 K.2.2.2.2.2 c
theorem txK_t {K : TK} {L : Nat} (hL : L ≤ 700) : ∃ cnt, KT (txK K L) L cnt := by
  obtain ⟨n, e, h1, h2, h3⟩ := raL_p (tp := K.2.2.1) (L := L) L 0 0 (K.2.2.2.1, K.2.2.2.2.1, K.2.2.2.2.2) (by omega) (by omega) (by omega) rfl (fun i hi => absurd hi (by omega))
  refine ⟨n, hL, h1, h2, ?_, ?_, fun c hc => ?_⟩
  · show upd _ (raL K.2.2.1 L L 0 0 (K.2.2.2.1, K.2.2.2.2.1, K.2.2.2.2.2)).2.1 (nI 34) n = nI 34
    rw [e]; exact pk_us
  · show upd _ (raL K.2.2.1 L L 0 0 (K.2.2.2.1, K.2.2.2.2.1, K.2.2.2.2.2)).2.1 (nI L) n = nI L
    rw [e]; exact pk_us
  · obtain ⟨k1, k2, k3, k4⟩ := h3 c hc
    refine ⟨k1, ?_, ?_, k4⟩
    · show upd _ (raL K.2.2.1 L L 0 0 (K.2.2.2.1, K.2.2.2.2.1, K.2.2.2.2.2)).2.1 (nI 34) c = _
      rw [e, pk_un (by omega)]; exact k2
    · show upd _ (raL K.2.2.1 L L 0 0 (K.2.2.2.1, K.2.2.2.2.1, K.2.2.2.2.2)).2.1 (nI L) c = _
      rw [e, pk_un (by omega)]; exact k3
theorem wdK_n {tp : Nat → Int32} {f e : Nat} : ¬ wdK tp f e = nI 34 := by
  unfold wdK
  by_cases h : ∃ w, w < 19 ∧ P0 tp f (e - f) w
  · obtain ⟨w, hw, hp⟩ := h
    rw [wrF_s hw hp]
    exact fun q => absurd (nI_eqI (by omega) (by decide) q) (by omega)
  · rw [wrF_n (fun w hw hp => h ⟨w, hw, hp⟩)]
    show ¬ (if e - f ≤ 6 then nI 30 else nI 35) = nI 34
    split <;> decide
theorem sgO_34 {x y : Int32} : ¬ sgO x y = nI 34 := by
  by_cases h : SG x
  · obtain ⟨k, hk, rfl, hk2⟩ := SG_d h
    rcases hk2 with rfl | rfl | rfl | rfl | rfl | rfl | rfl | rfl | rfl | rfl
    · rw [show sgO (nI 59) y = nI 31 from rfl]; decide
    · rw [show sgO (nI 40) y = nI 32 from rfl]; decide
    · rw [show sgO (nI 41) y = nI 33 from rfl]; decide
    · rw [show sgO (nI 43) y = nI 25 from rfl]; decide
    · rw [show sgO (nI 45) y = nI 26 from rfl]; decide
    · rw [show sgO (nI 42) y = nI 27 from rfl]; decide
    · rw [show sgO (nI 47) y = nI 28 from rfl]; decide
    · rw [show sgO (nI 60) y = if y = nI 61 then nI 20 else if y = nI 62 then nI 22 else nI 19 from rfl]
      split
      · decide
      · split <;> decide
    · rw [show sgO (nI 61) y = nI 21 from rfl]; decide
    · rw [show sgO (nI 62) y = if y = nI 61 then nI 23 else nI 24 from rfl]
      split <;> decide
  · rw [sgO_no h]; decide
theorem tk1_34 {tp : Nat → Int32} {L p : Nat} : ¬ (tk1 tp L p).1 = nI 34 := by
  unfold tk1
  split
  · show ¬ nI 29 = nI 34; decide
  · split
    · exact wdK_n
    · exact sgO_34
theorem KT.end {K : TK} {L cnt c : Nat} (h : KT K L cnt) (hc : c ≤ cnt) : K.2.2.2.1 c = nI 34 ↔ c = cnt := by
  constructor
  · intro e
    by_cases q : c = cnt
    · exact q
    · exact absurd ((h.2.2.2.2.2 c (by omega)).2.1.symm.trans e) tk1_34
  · intro e; rw [e]; exact h.2.2.2.1
theorem KVR.v {kd so va : Int32} {vo : Option Int32} {v : Int32} (h : KVR kd vo so va) (e : ∀ u, vo = some u → v = u) : KVR kd (some v) so va := by
  rcases h with h | h | h | h | ⟨a, b, u, hu, hn⟩ | ⟨a, b, hu⟩ | h | h | h | h | h
  · exact Or.inl h
  · exact Or.inr (Or.inl h)
  · exact Or.inr (Or.inr (Or.inl h))
  · exact Or.inr (Or.inr (Or.inr (Or.inl h)))
  · exact Or.inr (Or.inr (Or.inr (Or.inr (Or.inl ⟨a, b, v, rfl, by rw [e u hu]; exact hn⟩))))
  · exact Or.inr (Or.inr (Or.inr (Or.inr (Or.inr (Or.inl ⟨a, b, by rw [e va hu]⟩)))))
  · exact Or.inr (Or.inr (Or.inr (Or.inr (Or.inr (Or.inr (Or.inl h))))))
  · exact Or.inr (Or.inr (Or.inr (Or.inr (Or.inr (Or.inr (Or.inr (Or.inl h)))))))
  · exact Or.inr (Or.inr (Or.inr (Or.inr (Or.inr (Or.inr (Or.inr (Or.inr (Or.inl h))))))))
  · exact Or.inr (Or.inr (Or.inr (Or.inr (Or.inr (Or.inr (Or.inr (Or.inr (Or.inr (Or.inl h)))))))))
  · exact Or.inr (Or.inr (Or.inr (Or.inr (Or.inr (Or.inr (Or.inr (Or.inr (Or.inr (Or.inr h)))))))))
/-- the model's token at hand is the class' token c -/
def MTk (K : TK) (L cnt : Nat) (s : Nat → Int32) (c : Nat) : Prop := c ≤ cnt ∧ s 22 = nI L ∧ s 24 = K.2.2.2.2.1 c ∧ KVR (K.2.2.2.1 c) (some (K.2.2.2.2.2 c)) (s 25) (s 26) ∧ s 23 = nI (if c < cnt then (tk1 K.2.2.1 L (psF K.2.2.1 L c)).2.2 else L)
theorem MTk.c {K : TK} {L cnt c : Nat} {s s' : Nat → Int32} (h : MTk K L cnt s c) (e : ∀ k, k = 22 ∨ k = 23 ∨ k = 24 ∨ k = 25 ∨ k = 26 → s' k = s k) : MTk K L cnt s' c := by
  unfold MTk
  rw [e 22 (by omega), e 23 (by omega), e 24 (by omega), e 25 (by omega), e 26 (by omega)]
  exact h
theorem MTk.of {K : TK} {L cnt c q : Nat} {s' : Nat → Int32} (hK : KT K L cnt) (hc : c ≤ cnt) (e22 : s' 22 = nI L) (eq : sk K.2.2.1 L q = psF K.2.2.1 L c) (h24 : s' 24 = nI (sk K.2.2.1 L q)) (h : (sk K.2.2.1 L q < L ∧ tkE K.2.2.1 L (sk K.2.2.1 L q) s') ∨ (sk K.2.2.1 L q = L ∧ s' 25 = nI 4 ∧ s' 23 = nI L)) : MTk K L cnt s' c := by
  rw [eq] at h h24
  by_cases q : c < cnt
  · obtain ⟨k1, k2, k3, k4⟩ := hK.2.2.2.2.2 c q
    rcases h with ⟨-, h1, h2⟩ | ⟨h, -⟩
    · exact ⟨hc, e22, h24.trans k3.symm, by rw [k2]; exact h1.v k4, by rw [if_pos q]; exact h2⟩
    · omega
  · have ec : c = cnt := by omega
    subst ec
    rcases h with ⟨h, -⟩ | ⟨-, h1, h2⟩
    · have := hK.2.2.1; omega
    · exact ⟨hc, e22, by rw [h24, hK.2.2.1, hK.2.2.2.2.1], Or.inr (Or.inr (Or.inr (Or.inr (Or.inr (Or.inr (Or.inr (Or.inr (Or.inr (Or.inl ⟨hK.2.2.2.1, h1⟩))))))))), by rw [if_neg q]; exact h2⟩
theorem L10_tokC {d : Nat} {s : Nat → Int32} {A : Nat → Nat → Int32} {L0 : LL} {M : Nat → MR} {K : TK} {L cnt c : Nat} (hK : KT K L cnt) (hTP : TP K.2.2.1 (A 1) L) (h : MTk K L cnt s c) : J m10_token (d + 5) 0 0 40 0 [(0, .ref 0)] [] (modW s A L0 M) 0 0 (fun r w' => r = none ∧ ∃ s', w' = modW s' A L0 M ∧ (∀ k, k ≠ 23 → k ≠ 24 → k ≠ 25 → k ≠ 26 → s' k = s k) ∧ MTk K L cnt s' (if c < cnt then c + 1 else c)) := by
  obtain ⟨h1, h2, h3, h4, h5⟩ := h
  by_cases q : c < cnt
  · rw [if_pos q] at h5
    obtain ⟨k1, k2, k3, k4⟩ := hK.2.2.2.2.2 c q
    have hk := tk1_le (tp := K.2.2.1) k1
    refine J_mono (L10_token (d := d) hK.1 hTP hk.2 h5 h2) ?_
    rintro r w' ⟨rfl, s2, rfl, a, b, e⟩
    refine ⟨rfl, s2, rfl, a, ?_⟩
    rw [if_pos q]
    exact MTk.of hK (by omega) ((a 22 (by decide) (by decide) (by decide) (by decide)).trans h2) (by rw [psF, if_pos k1]) b e
  · rw [if_neg q] at h5
    refine J_mono (L10_token (d := d) hK.1 hTP (Nat.le_refl _) h5 h2) ?_
    rintro r w' ⟨rfl, s2, rfl, a, b, e⟩
    refine ⟨rfl, s2, rfl, a, ?_⟩
    rw [if_neg q]
    exact MTk.of hK h1 ((a 22 (by decide) (by decide) (by decide) (by decide)).trans h2) (by rw [sk_L, show c = cnt by omega]; exact hK.2.2.1.symm) b e
