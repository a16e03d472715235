/-! THE MODEL: deeds (own program mod_o4.py) -/
theorem ldN_move {m : MR} {b : Nat} {y x : Int32} (hm : m.2.2.2 3 b = 0) : ∀ n, b < n → ldN (setm m 0 b y) x n + (if m.2.2.2 0 b = x then 1 else 0) = ldN m x n + (if y = x then 1 else 0)
  | 0, h => by omega
  | n + 1, h => by
    rw [ldN, ldN, sm_s, sm_n (by decide)]
    by_cases e : n = b
    · rw [e, pk_us, ldN_c (m' := m) b (fun i hi => by rw [sm_s, sm_n (by decide), pk_un (by omega)]; exact ⟨Iff.rfl, rfl⟩)]
      have a1 : (if m.2.2.2 3 b = 0 ∧ y = x then 1 else 0) = (if y = x then 1 else 0) := by
        by_cases z : y = x
        · rw [if_pos ⟨hm, z⟩, if_pos z]
        · rw [if_neg (fun q => z q.2), if_neg z]
      have a2 : (if m.2.2.2 3 b = 0 ∧ m.2.2.2 0 b = x then 1 else 0) = (if m.2.2.2 0 b = x then 1 else 0) := by
        by_cases z : m.2.2.2 0 b = x
        · rw [if_pos ⟨hm, z⟩, if_pos z]
        · rw [if_neg (fun q => z q.2), if_neg z]
      rw [a1, a2]
      omega
    · rw [pk_un e]
      have := ldN_move (y := y) (x := x) hm n (by omega)
      omega
theorem CR.move {σ : Prop} {np nb nn : Nat} {m : MR} {V : CV} (h : CR σ np nb nn m V) {b q : Nat} (hb : b < nb) (hl : V.2.2.2 3 b = 0) (hq : q < 6) : CR σ np nb nn (setm m 0 b (nI q)) (mvV V b q) := by
  have hm := (h.ly hb).mpr hl
  obtain ⟨h1, h2, h3, h4, h5, h6, h7, h8, h9, h10, h11, h12⟩ := h
  obtain ⟨β, hβ, eβ⟩ := h11 b hb
  have e0 : m.2.2.2 0 b = nI β := (h4 b hb).1.trans eβ
  refine ⟨h1, h2, h3, fun i hi => ⟨upd_c (h4 i hi).1, (h4 i hi).2⟩, h5, h6, fun q hq => (h7 q hq).trans (hdS_c np (fun _ _ => rfl)), fun β2 hβ2 => ?_, h9, h10, fun i hi => ?_, h12⟩
  · show upd (upd (V.2.2.2 8) (V.2.2.2 0 b).toNatClampNeg (V.2.2.2 8 (V.2.2.2 0 b).toNatClampNeg - nI 1)) q (upd (V.2.2.2 8) (V.2.2.2 0 b).toNatClampNeg (V.2.2.2 8 (V.2.2.2 0 b).toNatClampNeg - nI 1) q + nI 1) β2 = _
    rw [eβ, nI_clamp (by omega)]
    have hx := ldN_move (y := nI q) (x := nI β2) hm nb hb
    rw [e0] at hx
    have c1 : (nI β = nI β2) ↔ β2 = β := ⟨fun z => (nI_eqI (by omega) (by omega) z).symm, fun z => by rw [z]⟩
    have c2 : (nI q = nI β2) ↔ β2 = q := ⟨fun z => (nI_eqI (by omega) (by omega) z).symm, fun z => by rw [z]⟩
    by_cases d1 : β2 = q
    · rw [if_pos (c2.mpr d1)] at hx
      subst d1
      rw [pk_us]
      by_cases d2 : β2 = β
      · subst d2
        rw [if_pos rfl] at hx
        rw [pk_us, sub_ad, h8 β2 hβ2]
        congr 1
        omega
      · rw [if_neg (fun z => d2 (c1.mp z))] at hx
        rw [pk_un d2, h8 β2 hβ2, nI_add]
        congr 1
        omega
    · rw [if_neg (fun z => d1 (c2.mp z))] at hx
      rw [pk_un d1]
      by_cases d2 : β2 = β
      · rw [if_pos (c1.mpr d2)] at hx
        subst d2
        rw [pk_us, h8 β2 hβ2, show ldN m (nI β2) nb = ldN (setm m 0 b (nI q)) (nI β2) nb + 1 by omega]
        exact nI_pred _
      · rw [if_neg (fun z => d2 (c1.mp z))] at hx
        rw [pk_un d2, h8 β2 hβ2]
        congr 1
        omega
  · show ∃ β, β < 6 ∧ upd (V.2.2.2 0) b (nI q) i = nI β
    by_cases e : i = b
    · rw [e, pk_us]; exact ⟨q, hq, rfl⟩
    · rw [pk_un e]; exact h11 i hi
/-- the end of a deed -/
def dQ (s : Nat → Int32) (A : Nat → Nat → Int32) (M : Nat → MR) (np nb nn : Nat) (v : Int32) (U : UV) (V : CV) : Option Value → List EC → Prop := fun r w' => r = some (.int v) ∧ ∃ s' L' M', w' = modW s' A L' M' ∧ (∀ k, k ≠ 0 → k ≠ 47 → s' k = s k) ∧ M' 2 = M 2 ∧ CR False np nb nn (M' 0) V ∧ UR s' M' U V np nb nn
theorem dQ.no {s : Nat → Int32} {A : Nat → Nat → Int32} {L : LL} {M : Nat → MR} {np nb nn : Nat} {v v' : Int32} {U U' : UV} {V V' : CV} (hC : CR False np nb nn (M 0) V) (hU : UR s M U V np nb nn) (ev : v' = v) (eU : U' = U) (eV : V' = V) : dQ s A M np nb nn v' U' V' (some (.int v)) (modW (updI s 0 (nI 0)) A L M) := by
  subst ev eU eV
  exact ⟨rfl, _, L, M, rfl, fun k h0 _ => updI_n h0, rfl, hC, hU.1, hU.2⟩
