/-! TEXT IN THE LAW: told and spare change places (own) -/
def sw (k : Nat) : Nat := bif Nat.ble 1 k && Nat.ble k 18 then k + 71 else bif Nat.ble 72 k && Nat.ble k 89 then k - 71 else k
theorem bl_t {a b : Nat} (h : a ≤ b) : Nat.ble a b = true := Nat.ble_eq_true_of_le h
theorem bl_f {a b : Nat} (h : b < a) : Nat.ble a b = false := by
  cases e : Nat.ble a b with
  | false => rfl
  | true => exact absurd (Nat.le_of_ble_eq_true e) (by omega)
theorem sw_a {k : Nat} (h1 : 1 ≤ k) (h2 : k ≤ 18) : sw k = k + 71 := by
  unfold sw
  rw [bl_t h1, bl_t h2]
  rfl
theorem sw_b {k : Nat} (h1 : 72 ≤ k) (h2 : k ≤ 89) : sw k = k - 71 := by
  unfold sw
  rw [bl_t h1, bl_t h2, bl_f (show 18 < k by omega), Bool.and_false]
  rfl
theorem sw_c {k : Nat} (h1 : k < 1 ∨ 18 < k) (h2 : k < 72 ∨ 89 < k) : sw k = k := by
  unfold sw
  have e1 : (Nat.ble 1 k && Nat.ble k 18) = false := by
    rcases h1 with h | h
    · rw [bl_f h]; rfl
    · rw [bl_f h, Bool.and_false]
  have e2 : (Nat.ble 72 k && Nat.ble k 89) = false := by
    rcases h2 with h | h
    · rw [bl_f h]; rfl
    · rw [bl_f h, Bool.and_false]
  rw [e1, e2]
  rfl
theorem sw_sw (k : Nat) : sw (sw k) = k := by
  by_cases h1 : 1 ≤ k ∧ k ≤ 18
  · rw [sw_a h1.1 h1.2, sw_b (by omega) (by omega)]
    omega
  · by_cases h2 : 72 ≤ k ∧ k ≤ 89
    · rw [sw_b h2.1 h2.2, sw_a (by omega) (by omega)]
      omega
    · rw [sw_c (k := k) (by omega) (by omega), sw_c (k := k) (by omega) (by omega)]
theorem sw_hi {k : Nat} (h : 90 ≤ k) : sw k = k := sw_c (by omega) (by omega)
theorem sw_lt {k : Nat} (h : k < 90) : sw k < 90 := by
  by_cases h1 : 1 ≤ k ∧ k ≤ 18
  · rw [sw_a h1.1 h1.2]; omega
  · by_cases h2 : 72 ≤ k ∧ k ≤ 89
    · rw [sw_b h2.1 h2.2]; omega
    · rw [sw_c (k := k) (by omega) (by omega)]; exact h
theorem sw_inj {a b : Nat} (h : sw a = sw b) : a = b := by rw [← sw_sw a, h, sw_sw]
set_option maxRecDepth 100000 in
theorem swS {tl hi : Int32} {T X : TV} {V I : CV} {S1 : CV} {y : Int32 × Int32 × Int32} {q : Nat → Int32} {kk : Nat → Int64} {s1 s2 e1 e2 g1 : Nat} {U : UV} {N : NV} {x : Int32} {bo R : Nat → Int32} {K : TK} {g0 : Int32} {g2 : Int32 × Int32 × Int32 × Int32} :
    (List.range 90).map (fun k => (tcS tl hi T V (S1, y, q, kk, sw s1, sw s2) U N (sw e1, sw e2, x, bo) R I K (g0, sw g1, g2) X)[sw k]?) = (tcZ tl hi X V (S1, y, q, kk, s1, s2) U N (e1, e2, x, bo) R I K (g0, g1, g2) T).map (fun c => some (rcF sw c)) := rfl
theorem rv_sh (v : Value) : rvF sw (rvF (fun k => 90 + k) v) = rvF (fun k => 90 + k) v := by
  cases v <;> first | rfl | (show Value.ref (sw (90 + _)) = _; rw [sw_hi (by omega)]; rfl)
theorem rc_sh (c : EC) : rcF sw (rcF (fun k => 90 + k) c) = rcF (fun k => 90 + k) c := by
  cases c with
  | inl a => rfl
  | inr o =>
    show Sum.inr (o.1, (o.2.map (rvF fun k => 90 + k)).map (rvF sw)) = Sum.inr (o.1, o.2.map (rvF fun k => 90 + k))
    rw [List.map_map]
    congr 2
    exact List.map_congr_left (fun v _ => rv_sh v)
theorem SubF.swp {w1 wc1 : List EC} {R : List EC} (h : (List.range 90).map (fun k => w1[sw k]?) = wc1.map (fun c => some (rcF sw c))) (h1 : w1.length = 90) (h2 : wc1.length = 90) (hR : ∀ c ∈ R, rcF sw c = c) : SubF (w1 ++ R) sw (wc1 ++ R) := by
  refine ⟨fun k c hk => ?_, fun i j _ _ e => sw_inj e⟩
  by_cases hx : k < 90
  · rw [List.getElem?_append_left (by omega)] at hk
    rw [List.getElem?_append_left (by rw [h1]; exact sw_lt hx)]
    have h3 : ((List.range 90).map (fun k => w1[sw k]?))[k]? = some (w1[sw k]?) := by rw [List.getElem?_map, List.getElem?_range hx]; rfl
    rw [h, List.getElem?_map, hk] at h3
    exact (Option.some.inj h3).symm
  · rw [List.getElem?_append_right (by omega), h2] at hk
    rw [sw_hi (by omega), List.getElem?_append_right (by omega), h1, hk, hR c (List.mem_of_getElem? hk)]
theorem L_swap {L : Nat} {xs : Nat → Int32} {pc i k n : Nat} {hi : Int32} {T X : TV} {V I : CV} {S : SB} {U : UV} {N : NV} {E : EV} {R : Nat → Int32} {K : TK} {G : GV} {s : Nat → Int32} {A : Nat → Nat → Int32} {LL1 : LL} {M : Nat → MR} {f : Nat → Int64} {t : Nat}
    (kk : ∀ S' E' G', G'.2.2 = G.2.2 → JL L xs pc (lsL i) [] (ZW t hi X V S' U N E' R I K G' T s A LL1 M f) k n) : JL L xs pc (lsL i) [] (tcS (nI t) hi T V S U N E R I K G X ++ ((modW s A LL1 M).map (rcF (fun k => 90 + k)) ++ [lA 1 f])) k n := by
  obtain ⟨S1, y, q, k9, s1, s2⟩ := S
  obtain ⟨e1, e2, x, bo⟩ := E
  obtain ⟨g0, g1, g2⟩ := G
  have := kk (S1, y, q, k9, sw s1, sw s2) (sw e1, sw e2, x, bo) (g0, sw g1, g2) rfl
  rw [← sw_sw s1, ← sw_sw s2, ← sw_sw e1, ← sw_sw e2, ← sw_sw g1]
  refine L_sub (ρ := sw) (ls2 := lsL i) (st2 := []) (SubF.swp swS rfl rfl (fun c hc => ?_)) rfl rfl this
  rcases List.mem_append.mp hc with h | h
  · obtain ⟨c0, -, rfl⟩ := List.mem_map.mp h
    exact rc_sh c0
  · rw [List.mem_singleton.mp h]
    rfl
