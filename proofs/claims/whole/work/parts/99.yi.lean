/-! the year and the needs to come, kept (own) -/
def K5 (V V' : CV) : Prop := V'.1 = V.1 ∧ V'.2.2.2 5 = V.2.2.2 5
theorem K5.rf {V : CV} : K5 V V := ⟨rfl, rfl⟩
theorem K5.tr {V V' V'' : CV} (h : K5 V V') (h' : K5 V' V'') : K5 V V'' := ⟨h'.1.trans h.1, h'.2.trans h.2⟩
theorem crL_5 {T : TV} : ∀ (g b : Nat) (V : CV), K5 V (crL T g b V)
  | 0, _, _ => K5.rf
  | g + 1, b, V => by
    rw [crL]
    refine K5.tr ?_ (crL_5 g (b + 1) _)
    unfold crS
    split
    · exact ⟨rfl, rfl⟩
    · exact K5.rf
theorem agL_5 {T : TV} : ∀ (g b : Nat) (V : CV), K5 V (agL T g b V)
  | 0, _, _ => K5.rf
  | g + 1, b, V => by
    rw [agL]
    refine K5.tr ?_ (agL_5 g (b + 1) _)
    unfold agS
    split
    · exact ⟨rfl, rfl⟩
    · exact K5.rf
theorem goI_5 {T : TV} {bin : Int32} : ∀ (g b : Nat) (S : GS), K5 S.1 (goI T bin g b S).1
  | 0, _, _ => K5.rf
  | g + 1, b, S => by
    rw [goI]
    refine K5.tr ?_ (goI_5 g (b + 1) _)
    unfold goS
    split
    · exact ⟨rfl, rfl⟩
    · exact K5.rf
theorem goO_5 {T : TV} {nb : Nat} : ∀ (g x : Nat) (S : GS), K5 S.1 (goO T nb g x S).1
  | 0, _, _ => K5.rf
  | g + 1, x, S => by
    rw [goO]
    split
    · exact (goI_5 nb 0 S).tr (goO_5 g (x + 1) _)
    · exact K5.rf
theorem goF_5 {T : TV} {y : Int32 × Int32 × Int32} {nb b : Nat} {V : CV} : K5 V (goOffF T y nb V b) := by
  unfold goOffF
  split
  · exact ⟨rfl, rfl⟩
  · exact (show K5 V (lvV V b (nI 2)) from ⟨rfl, rfl⟩).tr (goO_5 10 0 _)
theorem p3L_5 {T : TV} {y : Int32 × Int32 × Int32} {nb : Nat} : ∀ (g b : Nat) (V : CV), K5 V (p3L T y nb g b V)
  | 0, _, _ => K5.rf
  | g + 1, b, V => by
    rw [p3L]
    refine K5.tr ?_ (p3L_5 g (b + 1) _)
    unfold p3S
    split
    · exact goF_5
    · exact K5.rf
theorem haF_5 {a : Nat → Nat → Int32} {p q : Nat} : haF a p q 5 = a 5 := by
  unfold haF
  split
  · rfl
  · rfl
theorem meet_5 {T : TV} {nb n : Nat} {V : CV} : (meetF T nb V n).1 = V.1 ∧ ∃ x, ¬ x = -1 ∧ (meetF T nb V n).2.2.2 5 = upd (V.2.2.2 5) n x := by
  unfold meetF
  split
  · exact ⟨rfl, nI 1, by decide, rfl⟩
  · split
    · refine ⟨rfl, nI 2, by decide, ?_⟩
      show haF _ _ _ 5 = _
      rw [haF_5]
      rfl
    · exact ⟨rfl, nI 0, by decide, rfl⟩
theorem p4L_5 {T : TV} {nb : Nat} : ∀ (g n : Nat) (V : CV), (p4L T nb g n V).1 = V.1 ∧ ∀ j, (n ≤ j → j < n + g → T.2.1 12 j = V.1 → ¬ (p4L T nb g n V).2.2.2 5 j = -1) ∧ (¬ (n ≤ j ∧ j < n + g ∧ T.2.1 12 j = V.1) → (p4L T nb g n V).2.2.2 5 j = V.2.2.2 5 j)
  | 0, n, V => ⟨rfl, fun j => ⟨fun h1 h2 => absurd h2 (by omega), fun _ => rfl⟩⟩
  | g + 1, n, V => by
    rw [p4L]
    obtain ⟨i1, i2⟩ := p4L_5 (T := T) (nb := nb) g (n + 1) (p4S T nb V n)
    by_cases hc : T.2.1 12 n = V.1
    · have e : p4S T nb V n = meetF T nb V n := if_pos hc
      rw [e] at i1 i2 ⊢
      obtain ⟨m1, x, hx, m2⟩ := meet_5 (T := T) (nb := nb) (n := n) (V := V)
      rw [m1] at i1 i2
      refine ⟨i1, fun j => ⟨fun h1 h2 h3 => ?_, fun h => ?_⟩⟩
      · by_cases q : j = n
        · rw [(i2 j).2 (by omega), m2, q, pk_us]; exact hx
        · exact (i2 j).1 (by omega) (by omega) h3
      · have q : j ≠ n := fun q => h ⟨by omega, by omega, by rw [q]; exact hc⟩
        rw [(i2 j).2 (fun z => h ⟨by omega, by omega, z.2.2⟩), m2, pk_un q]
    · have e : p4S T nb V n = V := if_neg hc
      rw [e] at i1 i2 ⊢
      refine ⟨i1, fun j => ⟨fun h1 h2 h3 => ?_, fun h => ?_⟩⟩
      · by_cases q : j = n
        · rw [q] at h3; exact absurd h3 hc
        · exact (i2 j).1 (by omega) (by omega) h3
      · exact (i2 j).2 (fun z => h ⟨by omega, by omega, z.2.2⟩)
def YIy (T : TV) (V : CV) (nn y : Nat) : Prop := V.1 = nI y ∧ ∀ n, n < nn → ∃ v, v ≤ 99 ∧ T.2.1 12 n = nI v ∧ (V.2.2.2 5 n = -1 ↔ y ≤ v)
theorem YIy.c {T : TV} {V V' : CV} {nn y : Nat} (h : YIy T V nn y) (k : K5 V V') : YIy T V' nn y := by
  unfold YIy
  rw [k.1, k.2]
  exact h
theorem YIy.p2 {T : TV} {y9 : Int32 × Int32 × Int32} {nb nn y : Nat} {V : CV} (h : YIy T V nn y) (hy : y < 100000) : YIy T (p2F T y9 nb nn V) nn (y + 1) := by
  have h1 : YIy T (p3L T y9 nb nb 0 (if y9.2.2 = 0 then V else agL T nb 0 V)) nn y := by
    refine h.c (K5.tr ?_ (p3L_5 nb 0 _))
    split
    · exact K5.rf
    · exact agL_5 nb 0 V
  unfold p2F
  generalize p3L T y9 nb nb 0 (if y9.2.2 = 0 then V else agL T nb 0 V) = W at h1
  obtain ⟨e1, h2⟩ := h1
  obtain ⟨i1, i2⟩ := p4L_5 (T := T) (nb := nb) nn 0 W
  refine ⟨?_, fun n hn => ?_⟩
  · show (p4L T nb nn 0 W).1 + nI 1 = _
    rw [i1, e1, nI_add]
  · obtain ⟨v, hv, ev, hi⟩ := h2 n hn
    refine ⟨v, hv, ev, ?_⟩
    show (p4L T nb nn 0 W).2.2.2 5 n = -1 ↔ _
    by_cases q : v = y
    · have := (i2 n).1 (by omega) (by omega) (by rw [ev, e1, q])
      exact ⟨fun z => absurd z this, fun z => absurd z (by omega)⟩
    · rw [(i2 n).2 (fun z => q (nI_eqI (by omega) (by omega) (by rw [← ev, ← e1]; exact z.2.2))), hi]
      omega
theorem YIy.pass {T : TV} {y9 : Int32 × Int32 × Int32} {nb nn y : Nat} {V : CV} (h : YIy T V nn y) (hy : y < 100000) : YIy T (passF T y9 nb nn V) nn (y + 1) := by
  unfold passF
  have hk := thF_a (y := y9) (T := T) (V := V)
  generalize (thF y9 T V).2 = W at hk ⊢
  refine YIy.p2 ?_ hy
  have hW : YIy T W nn y := h.c ⟨hk.2, by rw [hk.1]⟩
  split
  · exact hW
  · exact hW.c ((show K5 W (W.1, W.2.1, W.2.2.1 + nI 1, W.2.2.2) from ⟨rfl, rfl⟩).tr (crL_5 nb 0 _))
theorem YIy.passN {T : TV} {y9 : Int32 × Int32 × Int32} {nb nn : Nat} : ∀ (g y : Nat) (V : CV), YIy T V nn y → y + g < 100000 → YIy T (passN T y9 nb nn g V) nn (y + g)
  | 0, _, _, h, _ => h
  | g + 1, y, V, h, hy => by
    have := YIy.passN (y9 := y9) (nb := nb) g (y + 1) _ (h.pass (y9 := y9) (nb := nb) (by omega)) (by omega)
    rw [show y + 1 + g = y + (g + 1) by omega] at this
    exact this
theorem YI.y {T : TV} {V : CV} {nn : Nat} : YI T V nn ↔ ∃ y, y ≤ 9900 ∧ YIy T V nn y := Iff.rfl
theorem YI.c {T : TV} {V V' : CV} {nn : Nat} (h : YI T V nn) (k : K5 V V') : YI T V' nn := by
  obtain ⟨y, hy, h⟩ := h
  exact ⟨y, hy, YIy.c h k⟩
theorem YI.go {T : TV} {V : CV} {nb nn : Nat} {n : Int32} (h : YI T V nn) : YI T (goV T V nb nn n) nn := by
  unfold goV
  by_cases ok : goOk V n = true
  · rw [if_pos ok]
    obtain ⟨h1, h2⟩ := goOk_u ok
    obtain ⟨m, hm, rfl⟩ := ixB_t h1 (by decide)
    obtain ⟨y, hy, hY⟩ := h
    rw [hY.1, nI_add, nI_leI (by omega) (by omega)] at h2
    rw [nI_clamp (by omega)]
    exact ⟨y + m, h2, YIy.passN m y V hY (by omega)⟩
  · rw [if_neg ok]; exact h
theorem YI.rk {T : TV} {V : CV} {nb nn : Nat} {b q : Int32} (h : YI T V nn) : YI T (rkV V nb b q) nn := by
  unfold rkV
  split
  · exact h.c ⟨rfl, rfl⟩
  · exact h
theorem YI.sl {T : TV} {V : CV} {nb nn : Nat} {b : Int32} (h : YI T V nn) : YI T (slV T V nb b) nn := by
  unfold slV
  split
  · exact h.c ⟨rfl, rfl⟩
  · exact h
theorem YI.op {T : TV} {V : CV} {nb nn : Nat} {b : Int32} (h : YI T V nn) : YI T (opV V nb b) nn := by
  unfold opV
  split
  · exact h.c ⟨rfl, rfl⟩
  · exact h
theorem YI.un {T : TV} {V : CV} {U : UV} {nn : Nat} (h : YI T V nn) : YI T (unV V U) nn := by
  unfold unV
  split
  · exact h
  · unfold tkV
    split
    · exact h.c ⟨rfl, rfl⟩
    · split
      · exact h.c ⟨rfl, rfl⟩
      · exact h.c ⟨rfl, rfl⟩
theorem laL_5 {T : TV} : ∀ (g b : Nat) (V : CV), K5 V (laL T g b V)
  | 0, _, _ => K5.rf
  | g + 1, b, V => by rw [laL]; exact (show K5 V (laS T V b) from ⟨rfl, rfl⟩).tr (laL_5 g (b + 1) _)
theorem YI.lay {T : TV} {V : CV} {nb nn : Nat} (h : ∀ n, n < nn → ∃ v, v ≤ 99 ∧ T.2.1 12 n = nI v) : YI T (layF T nb V) nn := by
  refine YI.c (V := la0 T V) ⟨0, by omega, rfl, fun n hn => ?_⟩ (laL_5 nb 0 _)
  obtain ⟨v, hv, e⟩ := h n hn
  exact ⟨v, hv, e, fun _ => Nat.zero_le _, fun _ => rfl⟩
