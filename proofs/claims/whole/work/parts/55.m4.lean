/-! THE MODEL: changes of a cellar, on both sides (own program mod_m4.py) -/
theorem upd_c {f g : Nat → Int32} {b i : Nat} {x : Int32} (h : f i = g i) : upd f b x i = upd g b x i := by
  by_cases e : i = b
  · rw [e, pk_us, pk_us]
  · rw [pk_un e, pk_un e, h]
theorem ldN_c {m m' : MR} {x : Int32} : ∀ n, (∀ i, i < n → (m.2.2.2 3 i = 0 ↔ m'.2.2.2 3 i = 0) ∧ m.2.2.2 0 i = m'.2.2.2 0 i) → ldN m x n = ldN m' x n
  | 0, _ => rfl
  | n + 1, h => by
    have h1 := h n (by omega)
    rw [ldN, ldN, ldN_c n (fun i hi => h i (by omega)), h1.2]
    by_cases e : m.2.2.2 3 n = 0 ∧ m'.2.2.2 0 n = x
    · rw [if_pos e, if_pos ⟨h1.1.mp e.1, e.2⟩]
    · rw [if_neg e, if_neg (fun q => e ⟨h1.1.mpr q.1, q.2⟩)]
theorem hdS_c {m m' : MR} {x : Int32} : ∀ n, (∀ i, i < n → m.2.2.2 6 i = m'.2.2.2 6 i) → hdS m x n = hdS m' x n
  | 0, _ => rfl
  | n + 1, h => by rw [hdS, hdS, hdS_c n (fun i hi => h i (by omega)), h n (by omega)]
def lyN (m : MR) : Nat → Nat
  | 0 => 0
  | n + 1 => lyN m n + (if m.2.2.2 3 n = 0 then 1 else 0)
theorem lyN_c {m m' : MR} : ∀ n, (∀ i, i < n → (m.2.2.2 3 i = 0 ↔ m'.2.2.2 3 i = 0)) → lyN m n = lyN m' n
  | 0, _ => rfl
  | n + 1, h => by
    rw [lyN, lyN, lyN_c n (fun i hi => h i (by omega))]
    by_cases e : m.2.2.2 3 n = 0
    · rw [if_pos e, if_pos ((h n (by omega)).mp e)]
    · rw [if_neg e, if_neg (fun q => e ((h n (by omega)).mpr q))]
theorem lyN_le {m : MR} : ∀ n, lyN m n ≤ n
  | 0 => Nat.le_refl _
  | n + 1 => by
    have := lyN_le (m := m) n
    rw [lyN]; split <;> omega
theorem sm_s {m : MR} {kk b : Nat} {x : Int32} : (setm m kk b x).2.2.2 kk = upd (m.2.2.2 kk) b x := upA_s
theorem sm_n {m : MR} {kk b j : Nat} {x : Int32} (h : j ≠ kk) : (setm m kk b x).2.2.2 j = m.2.2.2 j := upA_n h
theorem lyN_leave {m : MR} {b : Nat} {x : Int32} (hm : m.2.2.2 3 b = 0) (hx : ¬ x = 0) : ∀ n, b < n → lyN (setm m 3 b x) n + 1 = lyN m n
  | 0, h => by omega
  | n + 1, h => by
    rw [lyN, lyN, sm_s]
    by_cases e : n = b
    · rw [e, pk_us, if_neg hx, if_pos hm, lyN_c (m' := m) b (fun i hi => by rw [sm_s, pk_un (by omega)])]
    · rw [pk_un e]
      have := lyN_leave hm hx n (by omega)
      omega
theorem lyN_pos {m : MR} {b : Nat} (hm : m.2.2.2 3 b = 0) : ∀ n, b < n → 0 < lyN m n
  | 0, h => by omega
  | n + 1, h => by
    rw [lyN]
    by_cases e : n = b
    · rw [e, if_pos hm]; omega
    · have := lyN_pos hm n (by omega)
      omega
theorem ldN_leave {m : MR} {b : Nat} {x q : Int32} (hm : m.2.2.2 3 b = 0) (hx : ¬ x = 0) : ∀ n, b < n → ldN (setm m 3 b x) q n + (if m.2.2.2 0 b = q then 1 else 0) = ldN m q n
  | 0, h => by omega
  | n + 1, h => by
    rw [ldN, ldN, sm_s, sm_n (by decide)]
    by_cases e : n = b
    · rw [e, pk_us, if_neg (fun z => hx z.1), ldN_c (m' := m) b (fun i hi => by rw [sm_s, sm_n (by decide), pk_un (by omega)]; exact ⟨Iff.rfl, rfl⟩)]
      by_cases z : m.2.2.2 0 b = q
      · rw [if_pos z, if_pos ⟨hm, z⟩]
      · rw [if_neg z, if_neg (fun w => z w.2)]
    · rw [pk_un e]
      have := ldN_leave (q := q) hm hx n (by omega)
      omega
section CRU
variable {σ : Prop} {np nb nn : Nat} {m : MR} {V : CV}
theorem CR.val1 (h : CR σ np nb nn m V) (b : Nat) (x : Int32) (hx : ∃ f, f ≤ 199 ∧ x = nI f) : CR σ np nb nn (setm m 1 b x) (V.1, V.2.1, V.2.2.1, upA V.2.2.2 1 (upd (V.2.2.2 1) b x)) := by
  obtain ⟨h1, h2, h3, h4, h5, h6, h7, h8, h9, h10, h11, h12, h13, h14⟩ := h
  exact ⟨h1, h2, h3, fun i hi => ⟨(h4 i hi).1, upd_c (h4 i hi).2.1, (h4 i hi).2.2⟩, h5, h6, fun q hq => (h7 q hq).trans (hdS_c np (fun _ _ => rfl)), fun β hβ => (h8 β hβ).trans (congrArg nI (ldN_c nb (fun _ _ => ⟨Iff.rfl, rfl⟩))), h9, h10, h11, h12, h13, fun i hi => by
    show ∃ f, f ≤ 199 ∧ upd (V.2.2.2 1) b x i = nI f
    by_cases e : i = b
    · rw [e, pk_us]; exact hx
    · rw [pk_un e]; exact h14 i hi⟩
theorem CR.val2 (h : CR σ np nb nn m V) (b : Nat) (x : Int32) : CR σ np nb nn (setm m 2 b x) (V.1, V.2.1, V.2.2.1, upA V.2.2.2 2 (upd (V.2.2.2 2) b x)) := by
  obtain ⟨h1, h2, h3, h4, h5, h6, h7, h8, h9, h10, h11, h12⟩ := h
  exact ⟨h1, h2, h3, fun i hi => ⟨(h4 i hi).1, (h4 i hi).2.1, upd_c (h4 i hi).2.2.1, (h4 i hi).2.2.2⟩, h5, h6, fun q hq => (h7 q hq).trans (hdS_c np (fun _ _ => rfl)), fun β hβ => (h8 β hβ).trans (congrArg nI (ldN_c nb (fun _ _ => ⟨Iff.rfl, rfl⟩))), h9, h10, h11, h12⟩
theorem CR.val4 (h : CR σ np nb nn m V) (b : Nat) (x : Int32) : CR σ np nb nn (setm m 4 b x) (V.1, V.2.1, V.2.2.1, upA V.2.2.2 4 (upd (V.2.2.2 4) b x)) := by
  obtain ⟨h1, h2, h3, h4, h5, h6, h7, h8, h9, h10, h11, h12⟩ := h
  exact ⟨h1, h2, h3, fun i hi => ⟨(h4 i hi).1, (h4 i hi).2.1, (h4 i hi).2.2.1, upd_c (h4 i hi).2.2.2.1, (h4 i hi).2.2.2.2⟩, h5, h6, fun q hq => (h7 q hq).trans (hdS_c np (fun _ _ => rfl)), fun β hβ => (h8 β hβ).trans (congrArg nI (ldN_c nb (fun _ _ => ⟨Iff.rfl, rfl⟩))), h9, h10, h11, h12⟩
theorem CR.met (h : CR σ np nb nn m V) {n : Nat} (hn : n < nn) (x : Int32) (hx : MT x) : CR σ np nb nn (setm m 5 n x) (V.1, V.2.1, V.2.2.1, upA V.2.2.2 5 (upd (V.2.2.2 5) n x)) := by
  obtain ⟨h1, h2, h3, h4, h5, h6, h7, h8, h9, h10, h11, h12, h13, h14⟩ := h
  exact ⟨h1, h2, h3, h4, fun i hi => upd_c (h5 i hi), h6, fun q hq => (h7 q hq).trans (hdS_c np (fun _ _ => rfl)), fun β hβ => (h8 β hβ).trans (congrArg nI (ldN_c nb (fun _ _ => ⟨Iff.rfl, rfl⟩))), h9, fun i hi hi8 => (pk_un (by omega)).trans (h10 i hi hi8), h11, h12, fun i hi => by
    show MT (upd (V.2.2.2 5) n x i)
    by_cases e : i = n
    · rw [e, pk_us]; exact hx
    · rw [pk_un e]; exact h13 i hi, h14⟩
theorem CR.yr (h : CR σ np nb nn m V) : CR σ np nb nn (stY m (m.1 + nI 1)) (incY V) := by
  obtain ⟨h1, h2, h3, h4, h5, h6, h7, h8, h9, h10, h11, h12⟩ := h
  exact ⟨congrArg (fun z => z + nI 1) h1, h2, h3, h4, h5, h6, fun q hq => (h7 q hq).trans (hdS_c np (fun _ _ => rfl)), fun β hβ => (h8 β hβ).trans (congrArg nI (ldN_c nb (fun _ _ => ⟨Iff.rfl, rfl⟩))), h9, h10, h11, h12⟩
theorem CR.thu (h : CR σ np nb nn m V) : CR σ np nb nn (stT m (m.2.2.1 + nI 1)) (V.1, V.2.1, V.2.2.1 + nI 1, V.2.2.2) := by
  obtain ⟨h1, h2, h3, h4, h5, h6, h7, h8, h9, h10, h11, h12⟩ := h
  exact ⟨h1, h2, congrArg (fun z => z + nI 1) h3, h4, h5, h6, fun q hq => (h7 q hq).trans (hdS_c np (fun _ _ => rfl)), fun β hβ => (h8 β hβ).trans (congrArg nI (ldN_c nb (fun _ _ => ⟨Iff.rfl, rfl⟩))), h9, h10, h11, h12⟩
theorem CR.drw (h : CR σ np nb nn m V) {x : Int32} {l : Int64} (hx : x.toInt64 = l) (h0 : 0 ≤ x) : CR σ np nb nn (stD m x) (V.1, l, V.2.2) := by
  obtain ⟨h1, h2, h3, h4, h5, h6, h7, h8, h9, h10, h11, h12⟩ := h
  exact ⟨h1, ⟨hx, h0⟩, h3, h4, h5, h6, fun q hq => (h7 q hq).trans (hdS_c np (fun _ _ => rfl)), fun β hβ => (h8 β hβ).trans (congrArg nI (ldN_c nb (fun _ _ => ⟨Iff.rfl, rfl⟩))), h9, h10, h11, h12⟩
theorem CR.leave (h : CR σ np nb nn m V) {b : Nat} (hb : b < nb) (hl : V.2.2.2 3 b = 0) {x : Int32} (hx : ¬ x = 0) : CR σ np nb nn (setm m 3 b x) (lvV V b x) := by
  have hm := (h.ly hb).mpr hl
  obtain ⟨h1, h2, h3, h4, h5, h6, h7, h8, h9, h10, h11, h12⟩ := h
  obtain ⟨β, hβ, eβ⟩ := h11 b hb
  have e0 : m.2.2.2 0 b = nI β := (h4 b hb).1.trans eβ
  refine ⟨h1, h2, h3, fun i hi => ⟨(h4 i hi).1, (h4 i hi).2.1, (h4 i hi).2.2.1, (h4 i hi).2.2.2.1, ?_⟩, h5, h6, fun q hq => (h7 q hq).trans (hdS_c np (fun _ _ => rfl)), fun β2 hβ2 => ?_, fun i hi hi8 => (pk_un (by omega)).trans (h9 i hi hi8), h10, h11, h12⟩
  · show upd (m.2.2.2 3) b x i = upd (V.2.2.2 3) b x i ∨ _ ∧ upd (m.2.2.2 3) b x i = nI 1 ∧ upd (V.2.2.2 3) b x i = nI 3
    by_cases e : i = b
    · rw [e, pk_us, pk_us]; exact Or.inl rfl
    · rw [pk_un e, pk_un e]; exact (h4 i hi).2.2.2.2
  · show upd (V.2.2.2 8) (V.2.2.2 0 b).toNatClampNeg (V.2.2.2 8 (V.2.2.2 0 b).toNatClampNeg - nI 1) β2 = _
    rw [eβ, nI_clamp (by omega)]
    have hq := ldN_leave (q := nI β2) hm hx nb hb
    by_cases e : β2 = β
    · rw [e, pk_us, h8 β hβ]
      rw [e, if_pos e0] at hq
      rw [← hq]
      exact nI_pred _
    · rw [pk_un e, h8 β2 hβ2, ← hq, if_neg (fun z => e (nI_eqI (by omega) (by omega) (z.symm.trans e0)))]
      rfl
theorem hd_bit : ∀ h, h < 32 → ∀ q, q < 5 → ∀ q', q' < 5 → (nI h >>> (nI q &&& 31)) &&& nI 1 = 0 → ((nI h >>> (nI q' &&& 31)) &&& nI 1 = if q' = q then 0 else (nI h >>> (nI q' &&& 31)) &&& nI 1) ∧ ((nI h ||| (nI 1 <<< (nI q &&& 31))) >>> (nI q' &&& 31)) &&& nI 1 = if q' = q then nI 1 else (nI h >>> (nI q' &&& 31)) &&& nI 1 := by decide +kernel
theorem hd_set : ∀ h, h < 32 → ∀ q, q < 5 → (¬ (nI h >>> (nI q &&& 31)) &&& nI 1 = 0 → nI h ||| (nI 1 <<< (nI q &&& 31)) = nI h) ∧ ∃ h', h' < 32 ∧ nI h ||| (nI 1 <<< (nI q &&& 31)) = nI h' := by decide +kernel
theorem hdS_up {m : MR} {p : Nat} {y q : Int32} (h0 : (m.2.2.2 6 p >>> (q &&& 31)) &&& nI 1 = 0) (h1 : (y >>> (q &&& 31)) &&& nI 1 = nI 1) : ∀ n, p < n → hdS (setm m 6 p y) q n = hdS m q n + nI 1
  | 0, h => by omega
  | n + 1, h => by
    rw [hdS, hdS, sm_s]
    by_cases e : n = p
    · rw [e, pk_us, h0, h1, hdS_c (m' := m) p (fun i hi => by rw [sm_s, pk_un (by omega)]), Int32.add_zero]
    · rw [pk_un e, hdS_up h0 h1 n (by omega), Int32.add_assoc, Int32.add_comm (nI 1), ← Int32.add_assoc]
theorem hdS_sm {m : MR} {p : Nat} {y q : Int32} (h0 : (y >>> (q &&& 31)) &&& nI 1 = (m.2.2.2 6 p >>> (q &&& 31)) &&& nI 1) : ∀ n, hdS (setm m 6 p y) q n = hdS m q n
  | 0 => rfl
  | n + 1 => by
    rw [hdS, hdS, sm_s, hdS_sm h0 n]
    by_cases e : n = p
    · rw [e, pk_us, h0]
    · rw [pk_un e]
theorem CR.hate (h : CR σ np nb nn m V) {p q : Nat} (hp : p < np) (hnp : np ≤ 5) (hq : q < 5) : CR σ np nb nn (setm m 6 p (m.2.2.2 6 p ||| (nI 1 <<< (nI q &&& 31)))) (V.1, V.2.1, V.2.2.1, haF V.2.2.2 p q) := by
  obtain ⟨h1, h2, h3, h4, h5, h6, h7, h8, h9, h10, h11, h12, h1314⟩ := h
  obtain ⟨hh, hhl, eh⟩ := h12 p (by omega)
  have e6 := (h6 p (by omega)).trans eh
  have hs := hd_set hh hhl q hq
  by_cases hz : (V.2.2.2 6 p >>> (nI q &&& 31)) &&& nI 1 = 0
  · have hz' := hz
    rw [eh] at hz'
    rw [show haF V.2.2.2 p q = _ from if_pos hz]
    refine ⟨h1, h2, h3, h4, h5, fun i hi => ?_, fun q' hq' => ?_, fun β hβ => (h8 β hβ).trans (congrArg nI (ldN_c nb (fun _ _ => ⟨Iff.rfl, rfl⟩))), h9, h10, h11, fun i hi => ?_, h1314⟩
    · show upd (m.2.2.2 6) p _ i = upd (V.2.2.2 6) p _ i
      rw [h6 p (by omega)]
      exact upd_c (h6 i hi)
    · show upd (V.2.2.2 7) q (V.2.2.2 7 q + nI 1) q' = _
      have hb := hd_bit hh hhl q hq q' hq' hz'
      by_cases e : q' = q
      · subst e
        rw [pk_us, h7 q' hq']
        rw [if_pos rfl, if_pos rfl] at hb
        exact (hdS_up (by rw [e6]; exact hz') (by rw [e6]; exact hb.2) np hp).symm
      · rw [pk_un e, h7 q' hq']
        rw [if_neg e, if_neg e] at hb
        exact (hdS_sm (by rw [e6]; exact hb.2) np).symm
    · show ∃ h, h < 32 ∧ upd (V.2.2.2 6) p _ i = nI h
      by_cases e : i = p
      · rw [e, pk_us, eh]; exact hs.2
      · rw [pk_un e]; exact h12 i hi
  · have hz' := hz
    rw [eh] at hz'
    rw [show haF V.2.2.2 p q = V.2.2.2 from if_neg hz]
    have ee : m.2.2.2 6 p ||| (nI 1 <<< (nI q &&& 31)) = m.2.2.2 6 p := by rw [e6]; exact hs.1 hz'
    rw [ee]
    refine ⟨h1, h2, h3, h4, h5, fun i hi => ?_, fun q' hq' => (h7 q' hq').trans (hdS_sm rfl np).symm, fun β hβ => (h8 β hβ).trans (congrArg nI (ldN_c nb (fun _ _ => ⟨Iff.rfl, rfl⟩))), h9, h10, h11, h12, h1314⟩
    show upd (m.2.2.2 6) p _ i = _
    by_cases e : i = p
    · rw [e, pk_us]; exact h6 p (by omega)
    · rw [pk_un e]; exact h6 i hi
end CRU
/-- the same cellar, as far as it is looked at -/
def EqR (m m' : MR) : Prop := m.1 = m'.1 ∧ m.2.1 = m'.2.1 ∧ m.2.2.1 = m'.2.2.1 ∧ (∀ k b, k < 5 → b < 10 → m.2.2.2 k b = m'.2.2.2 k b) ∧ (∀ n, n < 8 → m.2.2.2 5 n = m'.2.2.2 5 n) ∧ ∀ p, p < 5 → m.2.2.2 6 p = m'.2.2.2 6 p
theorem CR.eqR {σ : Prop} {np nb nn : Nat} {m m' : MR} {V : CV} (h : CR σ np nb nn m' V) (e : EqR m m') (hp : np ≤ 5) (hb : nb ≤ 10) : CR σ np nb nn m V := by
  obtain ⟨e1, e2, e3, e4, e5, e6⟩ := e
  obtain ⟨h1, h2, h3, h4, h5, h6, h7, h8, h9, h10, h11, h12⟩ := h
  refine ⟨e1.trans h1, by rw [e2]; exact h2, e3.trans h3, fun i hi => ?_, fun n hn => (e5 n hn).trans (h5 n hn), fun p hp => (e6 p hp).trans (h6 p hp), fun q hq => (h7 q hq).trans (hdS_c np (fun i hi => (e6 i (by omega)).symm)), fun β hβ => (h8 β hβ).trans (congrArg nI (ldN_c nb (fun i hi => by rw [e4 3 i (by decide) (by omega), e4 0 i (by decide) (by omega)]; exact ⟨Iff.rfl, rfl⟩))), h9, h10, h11, h12⟩
  rw [e4 0 i (by decide) (by omega), e4 1 i (by decide) (by omega), e4 2 i (by decide) (by omega), e4 3 i (by decide) (by omega), e4 4 i (by decide) (by omega)]
  exact h4 i hi
theorem CR.weak {σ : Prop} {np nb nn : Nat} {m : MR} {V : CV} (h : CR False np nb nn m V) : CR σ np nb nn m V := by
  obtain ⟨h1, h2, h3, h4, h5⟩ := h
  exact ⟨h1, h2, h3, fun i hi => ⟨(h4 i hi).1, (h4 i hi).2.1, (h4 i hi).2.2.1, (h4 i hi).2.2.2.1, (h4 i hi).2.2.2.2.imp id (fun z => z.1.elim)⟩, h5⟩
/-- what goes along while a method works on the cellar c -/
def IV (σ : Prop) (np nb nn c : Nat) (s0 : Nat → Int32) (A0 : Nat → Nat → Int32) (M0 : Nat → MR) (s : Nat → Int32) (A : Nat → Nat → Int32) (M : Nat → MR) (V : CV) : Prop := SC s0 A0 s A ∧ (∀ i, i ≠ c → M i = M0 i) ∧ CR σ np nb nn (M c) V
theorem IV.put {σ : Prop} {np nb nn c : Nat} {s0 s : Nat → Int32} {A0 A : Nat → Nat → Int32} {M0 M : Nat → MR} {V V' : CV} {m : MR} (h : IV σ np nb nn c s0 A0 M0 s A M V) (hm : CR σ np nb nn m V') : IV σ np nb nn c s0 A0 M0 s A (upM M c m) V' := ⟨h.1, fun i hi => (upM_n hi).trans (h.2.1 i hi), by rw [upM_s]; exact hm⟩
theorem IV.sc {σ : Prop} {np nb nn c : Nat} {s0 s s' : Nat → Int32} {A0 A A' : Nat → Nat → Int32} {M0 M : Nat → MR} {V : CV} (h : IV σ np nb nn c s0 A0 M0 s A M V) (hs : SC s A s' A') : IV σ np nb nn c s0 A0 M0 s' A' M V := ⟨h.1.tr hs, h.2⟩
theorem IV.go {σ : Prop} {np nb nn c : Nat} {s0 s s' : Nat → Int32} {A0 A A' : Nat → Nat → Int32} {M0 M M' : Nat → MR} {V V' : CV} (h : IV σ np nb nn c s0 A0 M0 s A M V) (hs : SC s A s' A') (hM : ∀ i, i ≠ c → M' i = M i) (hC : CR σ np nb nn (M' c) V') : IV σ np nb nn c s0 A0 M0 s' A' M' V' := ⟨h.1.tr hs, fun i hi => (hM i hi).trans (h.2.1 i hi), hC⟩
theorem IV.q {σ : Prop} {np nb nn c : Nat} {s0 s : Nat → Int32} {A0 A : Nat → Nat → Int32} {M0 M : Nat → MR} {V : CV} {L : LL} (h : IV σ np nb nn c s0 A0 M0 s A M V) : mQ c s0 A0 M0 (fun m => CR σ np nb nn m V) none (modW s A L M) := ⟨rfl, s, A, L, M, rfl, h.1, h.2.1, h.2.2⟩
theorem SC.x35 {s : Nat → Int32} {A : Nat → Nat → Int32} {x : Int32} : SC s A (updI s 35 x) A := SC.s35
