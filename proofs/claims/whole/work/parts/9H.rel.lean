/-! class and model side by side in the law (own) -/
theorem SubF.midN {P : List EC} (wc R : List EC) {N : Nat} (h : P.length = N) : SubF (P ++ (wc.map (rcF (fun k => N + k)) ++ R)) (fun k => N + k) wc := by subst h; exact SubF.mid P wc R
theorem PutF.midN {P wc w' R : List EC} {N : Nat} (h : P.length = N) (hl : w'.length = wc.length) : PutF (P ++ (wc.map (rcF (fun k => N + k)) ++ R)) (fun k => N + k) w' (P ++ (w'.map (rcF (fun k => N + k)) ++ R)) := by subst h; exact PutF.mid hl
section LK
variable {L : Nat} {xs : Nat → Int32} {pc k n : Nat} {ls : List (Nat × Value)} {st : List Value} {w : List EC}
/-- a call of the class -/
theorem L_c {idx na dc : Nat} {Mc : JM} {fs : List Value} {ac : List Value} {wc ws : List EC} {Qc : Option Value → List EC → Prop} {rest : List Value}
    (hd : decode code pc = .ok (.invokevirtual idx, 3)) (hm : MV Mc na) (hk : Cond.methodLink "TemperCellarLaw" idx Mc.1 ∈ T0) (hT : Tr dc 0 0 Mc (.ref 0 :: ac) wc Qc) (hdc : dc + 1 ≤ 1400) (hc : Mc.1.cls = "TemperCellar") (hw0 : wc[0]? = some (.inr (9, fs)))
    (hw : w = wc ++ ws) (hna : ac.length = na) (hst : st = ac.reverse ++ .ref 0 :: rest) (hro : Nat.ble (rest.map (fun v => v.category)).sum 8 = true) (hkm : k ≤ 601024) (hnm : n ≤ 7293034)
    (kk : ∀ r w', Qc r w' → w'.length = wc.length → JL L xs (pc + 3) ls (r.toList ++ rest) (w' ++ ws) k n) : JL L xs pc ls st w k n := by
  subst hw
  refine L_gV (ci := 9) hd hm hk hT hdc (by rw [hc]; rfl) hw0 (SubF.pre wc ws) hna (by rw [rvs_id]; exact hst) hro hkm hnm (fun r w' hq hl => ⟨w' ++ ws, PutF.pre hl, ?_⟩)
  rw [show r.map (rvF fun k => k) = r by cases r with | none => rfl | some x => exact congrArg some (rvF_id x)]
  exact kk r w' hq hl
theorem L_cR {idx na dc : Nat} {Mc : JM} {fs : List Value} {ac : List Value} {wc ws : List EC} {v : Value} {rest : List Value}
    (hd : decode code pc = .ok (.invokevirtual idx, 3)) (hm : MV Mc na) (hk : Cond.methodLink "TemperCellarLaw" idx Mc.1 ∈ T0) (hT : TR dc Mc (.ref 0 :: ac) wc v) (hdc : dc + 1 ≤ 1400) (hc : Mc.1.cls = "TemperCellar") (hw0 : wc[0]? = some (.inr (9, fs)))
    (hw : w = wc ++ ws) (hna : ac.length = na) (hst : st = ac.reverse ++ .ref 0 :: rest) (hro : Nat.ble (rest.map (fun v => v.category)).sum 8 = true) (hkm : k ≤ 601024) (hnm : n ≤ 7293034)
    (kk : JL L xs (pc + 3) ls (v :: rest) w k n) : JL L xs pc ls st w k n := by
  refine L_c hd hm hk hT hdc hc hw0 hw hna hst hro hkm hnm (fun r w' hq hl => ?_)
  obtain ⟨rfl, rfl⟩ := hq
  rw [← hw]
  exact kk
/-- a call of the model -/
theorem L_m {idx na dc : Nat} {Mc : JM} {ac : List Value} {P R : List EC} {s : Nat → Int32} {A : Nat → Nat → Int32} {LL1 : LL} {M : Nat → MR} {Qc : Option Value → List EC → Prop} {rest : List Value}
    (hd : decode code pc = .ok (.invokevirtual idx, 3)) (hm : MV Mc na) (hk : Cond.methodLink "TemperCellarLaw" idx Mc.1 ∈ T0) (hT : Tr dc 0 0 Mc (.ref 0 :: ac) (modW s A LL1 M) Qc) (hdc : dc + 1 ≤ 1400) (hc : Mc.1.cls = "TemperCellarModel")
    (hP : P.length = 90) (hac : ∀ ρ, ac.map (rvF ρ) = ac) (hna : ac.length = na) (hst : st = ac.reverse ++ .ref 90 :: rest) (hro : Nat.ble (rest.map (fun v => v.category)).sum 8 = true) (hkm : k ≤ 601024) (hnm : n ≤ 7293034)
    (kk : ∀ r w', Qc r w' → JL L xs (pc + 3) ls ((r.map (rvF fun k => 90 + k)).toList ++ rest) (P ++ (w'.map (rcF (fun k => 90 + k)) ++ R)) k n) : JL L xs pc ls st (P ++ ((modW s A LL1 M).map (rcF (fun k => 90 + k)) ++ R)) k n := by
  refine L_gV (ci := 10) hd hm hk hT hdc (by rw [hc]; rfl) rfl (SubF.midN _ _ hP) hna (by rw [hac]; exact hst) hro hkm hnm (fun r w' hq hl => ⟨_, PutF.midN hP hl, kk r w' hq⟩)
end LK
/-- what class and model have in common between the law's steps -/
def REL (t np nb nn : Nat) (hi : Int32) (T : TV) (V : CV) (U : UV) (N : NV) (I : CV) (K : TK) (G : GV) (s : Nat → Int32) (A : Nat → Nat → Int32) (M : Nat → MR) : Prop :=
  RT A T np nb nn ∧ WT T np nb nn ∧ CR False np nb nn (M 0) V ∧ UR s M U V np nb nn ∧ NR s A N nb ∧ s 48 = 0 ∧ s 46 = hi ∧ (¬ hi = 0 → CR False np nb nn (M 2) I) ∧ YI T V nn ∧ (¬ hi = 0 → YI T I nn) ∧ s 2 = nI t ∧ t ≤ 700 ∧ TP K.2.2.1 (A 1) t ∧ s 29 = G.2.2.2.2.1 ∧ s 30 = G.2.2.2.2.2
section RF
variable {t np nb nn : Nat} {hi : Int32} {T : TV} {V : CV} {U : UV} {N : NV} {I : CV} {K : TK} {G : GV} {s : Nat → Int32} {A : Nat → Nat → Int32} {M : Nat → MR}
theorem REL.rt (h : REL t np nb nn hi T V U N I K G s A M) : RT A T np nb nn := h.1
theorem REL.wt (h : REL t np nb nn hi T V U N I K G s A M) : WT T np nb nn := h.2.1
theorem REL.cr (h : REL t np nb nn hi T V U N I K G s A M) : CR False np nb nn (M 0) V := h.2.2.1
theorem REL.ur (h : REL t np nb nn hi T V U N I K G s A M) : UR s M U V np nb nn := h.2.2.2.1
theorem REL.nr (h : REL t np nb nn hi T V U N I K G s A M) : NR s A N nb := h.2.2.2.2.1
theorem REL.e48 (h : REL t np nb nn hi T V U N I K G s A M) : s 48 = 0 := h.2.2.2.2.2.1
theorem REL.e46 (h : REL t np nb nn hi T V U N I K G s A M) : s 46 = hi := h.2.2.2.2.2.2.1
theorem REL.ci (h : REL t np nb nn hi T V U N I K G s A M) : (¬ hi = 0 → CR False np nb nn (M 2) I) := h.2.2.2.2.2.2.2.1
theorem REL.yi (h : REL t np nb nn hi T V U N I K G s A M) : YI T V nn := h.2.2.2.2.2.2.2.2.1
theorem REL.yj (h : REL t np nb nn hi T V U N I K G s A M) : (¬ hi = 0 → YI T I nn) := h.2.2.2.2.2.2.2.2.2.1
theorem REL.e2 (h : REL t np nb nn hi T V U N I K G s A M) : s 2 = nI t := h.2.2.2.2.2.2.2.2.2.2.1
theorem REL.t7 (h : REL t np nb nn hi T V U N I K G s A M) : t ≤ 700 := h.2.2.2.2.2.2.2.2.2.2.2.1
theorem REL.tp (h : REL t np nb nn hi T V U N I K G s A M) : TP K.2.2.1 (A 1) t := h.2.2.2.2.2.2.2.2.2.2.2.2.1
theorem REL.e29 (h : REL t np nb nn hi T V U N I K G s A M) : s 29 = G.2.2.2.2.1 := h.2.2.2.2.2.2.2.2.2.2.2.2.2.1
theorem REL.e30 (h : REL t np nb nn hi T V U N I K G s A M) : s 30 = G.2.2.2.2.2 := h.2.2.2.2.2.2.2.2.2.2.2.2.2.2
end RF
abbrev ZW (t : Nat) (hi : Int32) (T : TV) (V : CV) (S : SB) (U : UV) (N : NV) (E : EV) (R : Nat → Int32) (I : CV) (K : TK) (G : GV) (X : TV) (s : Nat → Int32) (A : Nat → Nat → Int32) (LL1 : LL) (M : Nat → MR) (f : Nat → Int64) : List EC := tcZ (nI t) hi T V S U N E R I K G X ++ ((modW s A LL1 M).map (rcF (fun k => 90 + k)) ++ [lA 1 f])
/-- the law goes on from the switch's end, in any state of the two -/
def LOK (L : Nat) (xs : Nat → Int32) (i k n : Nat) : Prop := ∀ (t np nb nn : Nat) (hi : Int32) (T : TV) (V : CV) (S : SB) (U : UV) (N : NV) (E : EV) (R : Nat → Int32) (I : CV) (K : TK) (G : GV) (X : TV) (s : Nat → Int32) (A : Nat → Nat → Int32) (LL1 : LL) (M : Nat → MR) (f : Nat → Int64),
  REL t np nb nn hi T V U N I K G s A M → JL L xs 1413 (lsL i) [] (ZW t hi T V S U N E R I K G X s A LL1 M f) k n
section RL
variable {t np nb nn : Nat} {hi : Int32} {T : TV} {V : CV} {U : UV} {N : NV} {I : CV} {K : TK} {G : GV} {s s' : Nat → Int32} {A A' : Nat → Nat → Int32} {M M' : Nat → MR}
theorem REL.px (h : REL t np nb nn hi T V U N I K G s A M) (p : PX s A M s' A' M') : REL t np nb nn hi T V U N I K G s' A' M' :=
  ⟨p.rt h.rt,
   h.wt,
   by rw [p.2.2 0 (by omega)]; exact h.cr,
   ⟨(p.1 47 (by omega) (by omega) (by omega) (by omega) (by omega) (by omega)).trans h.ur.1, h.ur.2.1, fun k hk => by rw [p.2.2 (3 + k) (by omega)]; exact h.ur.2.2 k hk⟩,
   h.nr.c (p.1 57 (by omega) (by omega) (by omega) (by omega) (by omega) (by omega)) (p.1 58 (by omega) (by omega) (by omega) (by omega) (by omega) (by omega)) (fun k hk => p.2.1 k (by omega) (by omega) (by omega) (by omega) (by omega)),
   (p.1 48 (by omega) (by omega) (by omega) (by omega) (by omega) (by omega)).trans h.e48,
   (p.1 46 (by omega) (by omega) (by omega) (by omega) (by omega) (by omega)).trans h.e46,
   fun hh => by rw [p.2.2 2 (by omega)]; exact h.ci hh,
   h.yi,
   h.yj,
   (p.1 2 (by omega) (by omega) (by omega) (by omega) (by omega) (by omega)).trans h.e2,
   h.t7,
   by rw [p.2.1 1 (by omega) (by omega) (by omega) (by omega) (by omega)]; exact h.tp,
   (p.1 29 (by omega) (by omega) (by omega) (by omega) (by omega) (by omega)).trans h.e29,
   (p.1 30 (by omega) (by omega) (by omega) (by omega) (by omega) (by omega)).trans h.e30⟩
theorem REL.wv (h : REL t np nb nn hi T V U N I K G s A M) : WV V nb := h.cr.2.2.2.2.2.2.2.2.2.2.1
end RL
