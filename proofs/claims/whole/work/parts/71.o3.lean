/-! deeds undone (own program mod_o3.py) -/
theorem upd_i {f : Nat → Int32} {b : Nat} {x y : Int32} (h : f b = y) : upd (upd f b x) b y = f := funext fun i => by
  by_cases e : i = b
  · rw [e, pk_us, h]
  · rw [pk_un e, pk_un e]
theorem cv_eq {V V' : CV} (h1 : V'.1 = V.1) (h2 : V'.2.1 = V.2.1) (h3 : V'.2.2.1 = V.2.2.1) (h : ∀ k, V'.2.2.2 k = V.2.2.2 k) : V' = V := Prod.ext h1 (Prod.ext h2 (Prod.ext h3 (funext h)))
theorem adU_s {c : Nat} {a : Nat → Nat → Int32} {x b z : Int32} : adU c a x b z 1 c = x ∧ adU c a x b z 2 c = b ∧ adU c a x b z 3 c = z := ⟨pk_us, pk_us, pk_us⟩
theorem sub_ad (x : Int32) : x - nI 1 + nI 1 = x := by rw [Int32.sub_add_cancel]
theorem ad_sub (x : Int32) : x + nI 1 - nI 1 = x := by rw [Int32.add_sub_cancel]
theorem mv_back {V : CV} {b β q : Nat} (e0 : V.2.2.2 0 b = nI β) (hβ : β < 6) (hq : q < 6) : mvV (mvV V b q) b β = V := by
  refine cv_eq rfl rfl rfl (fun k => ?_)
  show mvF (mvF V.2.2.2 b q) b β k = _
  have h0 : mvF V.2.2.2 b q 0 = upd (V.2.2.2 0) b (nI q) := rfl
  have h8 : mvF V.2.2.2 b q 8 = upd (upd (V.2.2.2 8) β (V.2.2.2 8 β - nI 1)) q (upd (V.2.2.2 8) β (V.2.2.2 8 β - nI 1) q + nI 1) := by
    show upd (upd (V.2.2.2 8) (V.2.2.2 0 b).toNatClampNeg _) q _ = _
    rw [e0, nI_clamp (by omega)]
  by_cases e : k = 0
  · subst e
    show upd (mvF V.2.2.2 b q 0) b (nI β) = _
    rw [h0]
    exact upd_i e0
  · by_cases e8 : k = 8
    · subst e8
      show upd (upd (mvF V.2.2.2 b q 8) (mvF V.2.2.2 b q 0 b).toNatClampNeg (mvF V.2.2.2 b q 8 (mvF V.2.2.2 b q 0 b).toNatClampNeg - nI 1)) β (upd (mvF V.2.2.2 b q 8) (mvF V.2.2.2 b q 0 b).toNatClampNeg (mvF V.2.2.2 b q 8 (mvF V.2.2.2 b q 0 b).toNatClampNeg - nI 1) β + nI 1) = V.2.2.2 8
      rw [h0, pk_us, nI_clamp (by omega), h8]
      funext i
      by_cases e1 : β = q
      · subst e1
        by_cases e2 : i = β
        · rw [e2]; simp only [pk_us]
          rw [sub_ad, sub_ad]
        · simp only [pk_un e2]
      · have e1' : q ≠ β := fun z => e1 z.symm
        by_cases e2 : i = β
        · rw [e2, pk_us, pk_un e1, pk_un e1, pk_us, sub_ad]
        · rw [pk_un e2]
          by_cases e3 : i = q
          · rw [e3, pk_us, pk_us, pk_un e1', ad_sub]
          · rw [pk_un e3, pk_un e3, pk_un e2]
    · show upA (upA (upA (upA V.2.2.2 0 _) 8 _) 0 _) 8 _ k = _
      rw [upA_n e8, upA_n e, upA_n e8, upA_n e]
theorem co_back {V : CV} {b : Nat} {x : Int32} : coV (coV V b x) b (V.2.2.2 2 b) = V := by
  refine cv_eq rfl rfl rfl (fun k => ?_)
  by_cases e : k = 2
  · subst e
    show upd (upd (V.2.2.2 2) b x) b (V.2.2.2 2 b) = _
    exact upd_i rfl
  · show upA (upA V.2.2.2 2 _) 2 _ k = _
    rw [upA_n e, upA_n e]
theorem li_back {V : CV} {b : Nat} {x : Int32} (h : V.2.2.2 3 b = 0) : lieV (lvV V b x) b = V := by
  refine cv_eq rfl rfl rfl (fun k => ?_)
  by_cases e : k = 3
  · subst e
    show upd (upd (V.2.2.2 3) b x) b (nI 0) = _
    exact upd_i h
  · by_cases e8 : k = 8
    · subst e8
      show upd (upd (V.2.2.2 8) (V.2.2.2 0 b).toNatClampNeg (V.2.2.2 8 (V.2.2.2 0 b).toNatClampNeg - nI 1)) (V.2.2.2 0 b).toNatClampNeg (upd (V.2.2.2 8) (V.2.2.2 0 b).toNatClampNeg (V.2.2.2 8 (V.2.2.2 0 b).toNatClampNeg - nI 1) (V.2.2.2 0 b).toNatClampNeg + nI 1) = V.2.2.2 8
      rw [pk_us, sub_ad]
      exact upd_i rfl
    · show upA (upA (upA (upA V.2.2.2 3 _) 8 _) 3 _) 8 _ k = _
      rw [upA_n e8, upA_n e, upA_n e8, upA_n e]
/-- the last j of c deeds undone -/
def unL (a : Nat → Nat → Int32) : Nat → Nat → CV → CV
  | 0, _, V => V
  | j + 1, c, V => unL a j (c - 1) (tkV a (c - 1) V)
theorem tkV_c {a a' : Nat → Nat → Int32} {c c' : Nat} {V : CV} (h : ∀ k, k = 1 ∨ k = 2 ∨ k = 3 → a' k c' = a k c) : tkV a' c' V = tkV a c V := by
  unfold tkV
  rw [h 1 (by omega), h 2 (by omega), h 3 (by omega)]
theorem unL_c {a a' : Nat → Nat → Int32} : ∀ (j c : Nat) (V : CV), j ≤ c → (∀ k, k = 1 ∨ k = 2 ∨ k = 3 → ∀ i, i < c → a' k i = a k i) → unL a' j c V = unL a j c V
  | 0, _, _, _, _ => rfl
  | j + 1, c, V, hj, h => by
    rw [unL, unL, tkV_c (fun k hk => h k hk (c - 1) (by omega)), unL_c j (c - 1) _ (by omega) (fun k hk i hi => h k hk i (by omega))]
theorem unL_sh {a : Nat → Nat → Int32} : ∀ (j c : Nat) (V : CV), j ≤ c → c ≤ 19 → unL (fun k => shF (a k)) j c V = unL a j (c + 1) V
  | 0, _, _, _, _ => rfl
  | j + 1, c, V, hj, hc => by
    obtain ⟨c, rfl⟩ : ∃ c', c = c' + 1 := ⟨c - 1, by omega⟩
    rw [unL, unL, Nat.add_sub_cancel, Nat.add_sub_cancel, unL_sh j c _ (by omega) (by omega)]
    congr 1
    refine tkV_c (fun k _ => ?_)
    show (if c < 19 then a k (c + 1) else a k c) = a k (c + 1)
    exact if_pos (by omega)
/-- what can be undone, on both sides -/
def UR (s : Nat → Int32) (M : Nat → MR) (U : UV) (V : CV) (np nb nn : Nat) : Prop := s 47 = nI U.1 ∧ UI U nb ∧ ∀ k, k < U.1 → CR False np nb nn (M (3 + k)) (unL U.2 (U.1 - k) U.1 V)
/-- the model's cellars behind keepNow -/
def KN (c : Nat) (M M' : Nat → MR) : Prop := (∀ i, i < 3 → M' i = M i) ∧ (if c < 20 then EqR (M' (3 + c)) (M 0) ∧ ∀ k, k < c → M' (3 + k) = M (3 + k) else EqR (M' 22) (M 0) ∧ ∀ k, k < 19 → EqR (M' (3 + k)) (M (4 + k)))
theorem UR.add {s s' : Nat → Int32} {M M' : Nat → MR} {U : UV} {V V' : CV} {np nb nn b : Nat} {x z : Int32} (h : UR s M U V np nb nn) (hC : CR False np nb nn (M 0) V) (hp : np ≤ 5) (hnb : nb ≤ 10) (hb : b < nb) (hz : x = 0 → ∃ q, q < 6 ∧ z = nI q)
    (hk : ∀ c a, tkV (adU c a x (nI b) z) c V' = V) (hM : KN U.1 M M') (e47 : s' 47 = nI (addU U.1 U.2 x (nI b) z).1) : UR s' M' (addU U.1 U.2 x (nI b) z) V' np nb nn := by
  obtain ⟨h1, ⟨h20, hU⟩, h3⟩ := h
  obtain ⟨hM1, hM2⟩ := hM
  have ad_k : ∀ (c : Nat) (a : Nat → Nat → Int32) (k : Nat), k = 1 ∨ k = 2 ∨ k = 3 → ∀ i, i < c → adU c a x (nI b) z k i = a k i := by
    intro c a k hk i hi
    rcases hk with rfl | rfl | rfl <;> exact pk_un (by omega)
  by_cases hc : U.1 < 20
  · rw [if_pos hc] at hM2
    have eU : addU U.1 U.2 x (nI b) z = (U.1 + 1, adU U.1 U.2 x (nI b) z) := if_pos hc
    rw [eU] at e47 ⊢
    refine ⟨e47, ⟨by show U.1 + 1 ≤ 20; omega, fun i hi => ?_⟩, fun k hk' => ?_⟩
    · by_cases e : i = U.1
      · subst e
        exact ⟨⟨b, hb, (adU_s (x := x) (z := z)).2.1⟩, fun q => by
          obtain ⟨q1, h9, e9⟩ := hz ((adU_s (b := nI b) (z := z)).1.symm.trans q)
          exact ⟨q1, h9, (adU_s (x := x) (b := nI b)).2.2.trans e9⟩⟩
      · have hi2 : i < U.1 := by have : i < U.1 + 1 := hi; omega
        show (∃ b', b' < nb ∧ adU U.1 U.2 x (nI b) z 2 i = nI b') ∧ (adU U.1 U.2 x (nI b) z 1 i = 0 → ∃ q, q < 6 ∧ adU U.1 U.2 x (nI b) z 3 i = nI q)
        rw [ad_k _ _ 1 (by omega) i hi2, ad_k _ _ 2 (by omega) i hi2, ad_k _ _ 3 (by omega) i hi2]
        exact hU i hi2
    · show CR False np nb nn (M' (3 + k)) (unL (adU U.1 U.2 x (nI b) z) (U.1 + 1 - k) (U.1 + 1) V')
      have hk2 : k < U.1 + 1 := hk'
      rw [show U.1 + 1 - k = (U.1 - k) + 1 by omega, unL, Nat.add_sub_cancel, hk, unL_c (a := U.2) (U.1 - k) U.1 V (by omega) (ad_k _ _)]
      by_cases e : k = U.1
      · rw [e, Nat.sub_self]
        exact hC.eqR hM2.1 hp hnb
      · rw [hM2.2 k (by omega)]
        exact h3 k (by omega)
  · rw [if_neg hc] at hM2
    have hc20 : U.1 = 20 := by omega
    have eU : addU U.1 U.2 x (nI b) z = (20, adU 19 (fun k => shF (U.2 k)) x (nI b) z) := if_neg hc
    rw [eU] at e47 ⊢
    have sh_i : ∀ k i, i < 19 → shF (U.2 k) i = U.2 k (i + 1) := fun k i hi => if_pos hi
    refine ⟨e47, ⟨by show 20 ≤ 20; omega, fun i hi => ?_⟩, fun k hk' => ?_⟩
    · have hi20 : i < 20 := hi
      by_cases e : i = 19
      · subst e
        exact ⟨⟨b, hb, (adU_s (c := 19) (a := fun k => shF (U.2 k)) (x := x) (b := nI b) (z := z)).2.1⟩, fun q => by
          obtain ⟨q1, h9, e9⟩ := hz ((adU_s (c := 19) (a := fun k => shF (U.2 k)) (x := x) (b := nI b) (z := z)).1.symm.trans q)
          exact ⟨q1, h9, (adU_s (c := 19) (a := fun k => shF (U.2 k)) (x := x) (b := nI b) (z := z)).2.2.trans e9⟩⟩
      · show (∃ b', b' < nb ∧ adU 19 (fun k => shF (U.2 k)) x (nI b) z 2 i = nI b') ∧ (adU 19 (fun k => shF (U.2 k)) x (nI b) z 1 i = 0 → ∃ q, q < 6 ∧ adU 19 (fun k => shF (U.2 k)) x (nI b) z 3 i = nI q)
        rw [ad_k _ _ 1 (by omega) i (by omega), ad_k _ _ 2 (by omega) i (by omega), ad_k _ _ 3 (by omega) i (by omega), sh_i 1 i (by omega), sh_i 2 i (by omega), sh_i 3 i (by omega)]
        exact hU (i + 1) (by omega)
    · have hk2 : k < 20 := hk'
      show CR False np nb nn (M' (3 + k)) (unL (adU 19 (fun k => shF (U.2 k)) x (nI b) z) (20 - k) 20 V')
      rw [show 20 - k = (19 - k) + 1 by omega, unL, show 20 - 1 = 19 from rfl, hk, unL_c (a := fun k => shF (U.2 k)) (19 - k) 19 V (by omega) (ad_k _ _), unL_sh (19 - k) 19 V (by omega) (by omega)]
      by_cases e : k = 19
      · rw [e, Nat.sub_self]
        exact hC.eqR hM2.1 hp hnb
      · have h9 := h3 (k + 1) (by omega)
        rw [hc20, show 20 - (k + 1) = 19 - k by omega] at h9
        exact h9.eqR (by rw [show 3 + (k + 1) = 4 + k by omega]; exact hM2.2 k (by omega)) hp hnb
theorem UR.undo {s s' : Nat → Int32} {M M' : Nat → MR} {U : UV} {V : CV} {np nb nn : Nat} (h : UR s M U V np nb nn) (h0 : ¬ U.1 = 0) (e47 : s' 47 = nI (U.1 - 1)) (hM : ∀ i, i ≠ 0 → M' i = M i) : UR s' M' (unU U) (unV V U) np nb nn := by
  obtain ⟨h1, ⟨h20, hU⟩, h3⟩ := h
  refine ⟨e47, ⟨by show U.1 - 1 ≤ 20; omega, fun i hi => hU i (by have : i < U.1 - 1 := hi; omega)⟩, fun k hk => ?_⟩
  have hk2 : k < U.1 - 1 := hk
  rw [hM _ (by omega)]
  have h9 := h3 k (by omega)
  rw [show U.1 - k = (U.1 - 1 - k) + 1 by omega, unL] at h9
  show CR False np nb nn _ (unL U.2 (U.1 - 1 - k) (U.1 - 1) (unV V U))
  rw [show unV V U = tkV U.2 (U.1 - 1) V from if_neg h0]
  exact h9
theorem UR.now {s : Nat → Int32} {M : Nat → MR} {U : UV} {V : CV} {np nb nn : Nat} (h : UR s M U V np nb nn) (h0 : ¬ U.1 = 0) : CR False np nb nn (M (3 + (U.1 - 1))) (unV V U) := by
  have h9 := h.2.2 (U.1 - 1) (by omega)
  rw [show U.1 - (U.1 - 1) = 1 by omega] at h9
  rw [show unV V U = tkV U.2 (U.1 - 1) V from if_neg h0]
  exact h9
theorem UR.clear {s s' : Nat → Int32} {M M' : Nat → MR} {U : UV} {V V' : CV} {np nb nn : Nat} (a : Nat → Nat → Int32) (e47 : s' 47 = nI 0) : UR s' M' (0, a) V' np nb nn := ⟨e47, ⟨by show 0 ≤ 20; omega, fun i hi => absurd hi (by show ¬ i < 0; omega)⟩, fun k hk => absurd hk (by show ¬ k < 0; omega)⟩
