/-! the law's rows for calls (own) -/
section LC
variable {L : Nat} {xs : Nat → Int32} {pc k n : Nat} {ls : List (Nat × Value)} {st : List Value} {w : List EC}
variable {z : Nat → Nat} {D : va_G} {aC : FieldType → ClassId} {p : Program} {l : Launch} {e : Env} {s : State} {m : MethodId} {below : List Frame} {meth : Method} {c : Code} {H : Heap} {locs : List Loc} {lsA : Array Slot} {ad : Nat → Nat} {b : Nat} {Z : State → Prop}
theorem L_after {ρ : Nat → Nat} {wc : List EC} {Qc : Option Value → List EC → Prop} {a : Array Value} {st0 : List Value} {rest : List Value} (hs : SubF w ρ wc)
    (E : LE L xs z D aC p l e s m below meth c b Z) (hl : lv_has lsA 7 (cl z ad ls)) (hP : va_P D cls0 (cw z aC ad w) H) (hD : DD (fun q => s.heap.size ≤ q) ad w.length) (hS : va_S (fun q => s.heap.size ≤ q) s.heap H locs)
    (hr : va_Run p l e room_1 s m #[.ref b] below meth c H locs k n 0 0 (F0 m pc lsA st0) (rest.map (cv z ad)) (JQ z D aC (va_A (cw z aC (fun k => ad (ρ k)) wc) H.size) (fun k => ad (ρ k)) wc.length 0 Qc a) (va_A (cw z aC (fun k => ad (ρ k)) wc) H.size))
    (kk : ∀ r w', Qc r w' → w'.length = wc.length → ∃ w2, PutF w ρ w' w2 ∧ JL L xs (pc + 3) ls ((r.map (rvF ρ)).toList ++ rest) w2 k n) :
    W p l e room_1 s m #[.ref b] below meth c H locs k n Z (F0 m pc lsA st0) := by
  intro T hT X
  obtain ⟨v, st₀, t, T', Lo, e0, X', hL, e1, e2, ⟨⟨r, w', ad', hv, hq, hag, hlen, hP', hD'⟩, hF⟩, st⟩ := hr T hT X
  have ha : ad' = fun k => ad (ρ k) := funext fun i => hag i (by omega)
  subst ha
  obtain ⟨w2, ⟨p1, p2, p3⟩, kj⟩ := kk r w' hq hlen
  have hv' : v = r.map (cv z fun k => ad (ρ k)) := by injection hv
  have hsub : ∀ q, va_A (cw z aC (fun k => ad (ρ k)) wc) H.size q → (fun q => s.heap.size ≤ q) q := hs.aa hD (fun _ h => h) hS
  obtain ⟨hF1, hF2⟩ := (⟨hF.1, hF.2⟩ : st₀.heap.size ≤ t.heap.size ∧ ∀ q : Nat, q < st₀.heap.size → ¬ va_A (cw z aC (fun k => ad (ρ k)) wc) H.size q → t.heap[q]? = st₀.heap[q]?)
  have hP1 : va_P D cls0 (cw z aC ad w2) T'.heap := by
    intro i q hi
    obtain ⟨c1, h1, rfl⟩ := cw_of hi
    by_cases hx : ∃ k1, k1 < w'.length ∧ ρ k1 = i
    · obtain ⟨k1, g1, rfl⟩ := hx
      have g2 := p2 k1 _ (List.getElem?_eq_getElem g1)
      rw [h1] at g2
      rw [Option.some.inj g2, ce_rc, e1]
      exact hP' k1 _ (cw_get (List.getElem?_eq_getElem g1))
    · have g1 := p3 i (fun k1 hk1 e9 => hx ⟨k1, hk1, e9⟩)
      rw [h1] at g1
      have h4 := hP i _ (cw_get g1.symm)
      refine h4.kept ?_
      have hlt := h4.lt
      rw [e1, hF2 _ (by rw [e0]; exact hlt), e0]
      rintro (⟨k1, e9, hk1⟩ | hge)
      · obtain ⟨c2, g5, g2⟩ := cw_of hk1
        have g3 : ad i = ad (ρ k1) := congrArg Prod.fst g2
        have g6 := (List.getElem?_eq_some_iff.mp g5).1
        have := hD.1 _ _ (List.getElem?_eq_some_iff.mp g1.symm).1 (hs.lt g6) g3
        exact hx ⟨k1, by omega, this.symm⟩
      · exact absurd hlt (Nat.not_lt.mpr hge)
  have hst : v.toList ++ rest.map (cv z ad) = ((r.map (rvF ρ)).toList ++ rest).map (cv z ad) := by
    rw [hv']
    cases r with
    | none => simp
    | some x => simp [cv_rv]
  obtain ⟨t2, a1, b1⟩ := kj z D aC p l e s m below meth c T'.heap (locs ++ Lo) lsA ad b Z E hl hP1 (by rw [p1]; exact hD)
    ⟨Nat.le_trans hS.1 (by rw [e1, ← e0]; exact hF1), fun q h1 h2 => by rw [e1, hF2 q (by rw [e0]; exact Nat.lt_of_lt_of_le h1 hS.1) (fun h => h2 (hsub q h)), e0]; exact hS.2.1 q h1 h2, fun q hq => by
      rcases List.mem_append.mp hq with h | h
      · exact hS.2.2 q h
      · exact hsub _ (hL q h)⟩ T' rfl X'
  refine ⟨t2, st t2 ?_, b1⟩
  rw [hst]
  exact a1
theorem L_gV {idx ci na dc : Nat} {Mc : JM} {fs : List Value} {ac : List Value} {ρ : Nat → Nat} {wc : List EC} {Qc : Option Value → List EC → Prop} {rest : List Value}
    (hd : decode code pc = .ok (.invokevirtual idx, 3)) (hm : MV Mc na) (hk : Cond.methodLink "TemperCellarLaw" idx Mc.1 ∈ T0) (hT : Tr dc 0 0 Mc (.ref 0 :: ac) wc Qc) (hdc : dc + 1 ≤ 1400) (hc : (cls0[ci]?).map (fun q => q.1) = some Mc.1.cls) (hw0 : wc[0]? = some (.inr (ci, fs)))
    (hs : SubF w ρ wc) (hna : ac.length = na) (hst : st = (ac.map (rvF ρ)).reverse ++ .ref (ρ 0) :: rest) (hro : Nat.ble (rest.map (fun v => v.category)).sum 8 = true) (hkm : k ≤ 601024) (hnm : n ≤ 7293034)
    (kk : ∀ r w', Qc r w' → w'.length = wc.length → ∃ w2, PutF w ρ w' w2 ∧ JL L xs (pc + 3) ls ((r.map (rvF ρ)).toList ++ rest) w2 k n) : JL L xs pc ls st w k n := by
  intro z D aC p l e s m below meth c H locs lsA ad b Z E hl hP hD hS
  obtain ⟨e1, e2, e3, e4, e5, hts, e7, hE, hK, hX, hb, hz, hf, hr⟩ := id E
  have hM := hT l z D aC (fun i => ad (ρ i)) H.size
  obtain ⟨hmc, hmi, hms⟩ := hm
  cases hq : cls0[ci]? with
  | none => rw [hq] at hc; cases hc
  | some q =>
    rw [hq] at hc
    have hcq : q.1 = Mc.1.cls := Option.some.inj hc
    refine L_after (st0 := st.map (cv z ad)) (rest := rest) hs E hl hP hD hS (va_runV (bytes := Mc.2.1) (maxL := Mc.2.2.1) (ret := Mc.2.2.2) (own := "TemperCellarLaw") (C := Mc.1.cls) (As := ac.map (cv z (fun i => ad (ρ i)))) (b := ad (ρ 0)) ⟨e1, e2, e4, e5, hts⟩ hM ?_ ?_ rfl ((List.length_map _).trans hna) hl.1 ?_ ?_ hd ?_) kk
    · refine ⟨callB_of na hts hmc.good rfl rfl rfl (hts _ hmc.2.1) (hts _ hk) hmc.2.2.1 ?_, hts _ hmi, hts _ hms⟩
      have := hmc.2.2.2
      exact ⟨by show dc + 1 ≤ 2048; omega, by show 7 + 1 + (Mc.2.2.1 + 11) + 60 * dc ≤ 84000; omega⟩
    · refine ⟨Tr.blind, ?_, fun U hU hW => ⟨rfl, by rw [hU], by rw [hU]; exact hs.pp hP, va_K.moved hW.alike hK, ⟨(hs.dd hD).1, fun _ _ => trivial⟩, hE.1.call hS hU hW (hs.aa hD (fun _ h => h) hS)⟩⟩
      rw [← hcq]
      exact va_recv hK (hs.pp hP) hq (cw_get hw0)
    · show st.map (cv z ad) = _
      rw [hst, List.map_append, List.map_reverse, cv_rvs]
      rfl
    · exact lv_room (by rw [cv_cats]; exact Nat.le_of_ble_eq_true hro)
    · exact ⟨hkm, hnm⟩
/-- behind a constructor's call: its receiver is the world's last cell, the cells that it makes follow -/
theorem L_initA {w0 : List EC} {c0 : EC} {mcC msC : Nat} {Qc : Option Value → List EC → Prop} {a : Array Value} {st0 rest : List Value}
    (E : LE L xs z D aC p l e s m below meth c b Z) (hl : lv_has lsA 7 (cl z ad ls)) (hP : va_P D cls0 (cw z aC ad (w0 ++ [c0])) H) (hD : DD (fun q => s.heap.size ≤ q) ad (w0 ++ [c0]).length) (hS : va_S (fun q => s.heap.size ≤ q) s.heap H locs)
    (hw : wfw w0.length w0 = true) (hls : wfl (w0.length + 1) ls = true) (hrs : rest.all (wfv (w0.length + 1)) = true) {wc : List EC} (hs : SubF (w0 ++ [c0]) (fun k => w0.length + k) wc) (hwc : wc.length = 1)
    (hr : va_Run p l e room_1 s m #[.ref b] below meth c H locs k n mcC msC (F0 m pc lsA st0) (rest.map (cv z ad)) (JQ z D aC (va_A (cw z aC (fun k => ad (w0.length + k)) wc) H.size) (fun k => ad (w0.length + k)) wc.length mcC Qc a) (va_A (cw z aC (fun k => ad (w0.length + k)) wc) H.size))
    (kk : ∀ r w', Qc r w' → w'.length = 1 + mcC → r = none ∧ JL L xs (pc + 3) ls rest (w0 ++ w'.map (rcF (fun k => w0.length + k))) (k + mcC) (n + msC)) :
    W p l e room_1 s m #[.ref b] below meth c H locs k n Z (F0 m pc lsA st0) := by
  intro T hT X
  obtain ⟨v, st₀, t, T', Lo, e0, X', hL, e1, e2, ⟨⟨r, w', ad', hv, hq, hag, hlen, hP', hD'⟩, hF⟩, st⟩ := hr T hT X
  rw [hwc] at hlen hag
  obtain ⟨hr0, kj⟩ := kk r w' hq hlen
  subst hr0
  have hv' : v = none := by injection hv
  have hsub : ∀ q, va_A (cw z aC (fun k => ad (w0.length + k)) wc) H.size q → (fun q => s.heap.size ≤ q) q := hs.aa hD (fun _ h => h) hS
  obtain ⟨hF1, hF2⟩ := (⟨hF.1, hF.2⟩ : st₀.heap.size ≤ t.heap.size ∧ ∀ q : Nat, q < st₀.heap.size → ¬ va_A (cw z aC (fun k => ad (w0.length + k)) wc) H.size q → t.heap[q]? = st₀.heap[q]?)
  have hl1 : (w0 ++ [c0]).length = w0.length + 1 := by rw [List.length_append]; rfl
  rw [hl1] at hD
  have h00 : ad' 0 = ad w0.length := (hag 0 (Or.inl (by omega))).trans rfl
  have hAq : ∀ q, va_A (cw z aC (fun k => ad (w0.length + k)) wc) H.size q → q = ad w0.length ∨ H.size ≤ q := by
    rintro q (⟨k1, e9, hk1⟩ | hge)
    · obtain ⟨c2, g5, g2⟩ := cw_of hk1
      have g6 := (List.getElem?_eq_some_iff.mp g5).1
      have g7 : k1 = 0 := by omega
      subst g7
      exact Or.inl (congrArg Prod.fst g2)
    · exact Or.inr hge
  have hlt0 : ∀ i, i < w0.length → ad i < H.size := fun i hi => (hP i _ (cw_get (List.getElem?_append_left hi ▸ List.getElem?_eq_getElem (l := w0) hi))).lt
  have hsep : ∀ i j, i < w0.length → j < w'.length → ad i ≠ ad' j := fun i j hi hj e9 => by
    rcases hAq _ (hD'.2 j (by omega)) with h | h
    · have := hD.1 i w0.length (by omega) (by omega) (e9.trans h)
      omega
    · have := hlt0 i hi
      omega
  let ad2 : Nat → Nat := fun i => if i < w0.length then ad i else ad' (i - w0.length)
  have a1 : ∀ i, i < w0.length → ad2 i = ad i := fun i hi => if_pos hi
  have a2 : (fun i => ad2 (w0.length + i)) = ad' := funext fun i => by
    show (if w0.length + i < w0.length then ad (w0.length + i) else ad' (w0.length + i - w0.length)) = _
    rw [if_neg (by omega), Nat.add_sub_cancel_left]
  have a3 : ∀ i, i < w0.length + 1 → ad2 i = ad i := fun i hi => by
    by_cases h : i < w0.length
    · exact a1 i h
    · have : i = w0.length := by omega
      subst this
      rw [← h00, ← a2]
      rfl
  have hP1 : va_P D cls0 (cw z aC ad2 (w0 ++ w'.map (rcF (fun k => w0.length + k)))) T'.heap := by
    intro i q hi
    obtain ⟨c1, h1, rfl⟩ := cw_of hi
    by_cases hx : i < w0.length
    · rw [List.getElem?_append_left hx] at h1
      have h4 := hP i _ (cw_get (by rw [List.getElem?_append_left hx]; exact h1))
      have h5 : ce z aC ad2 c1 = ce z aC ad c1 := ce_wf a1 (List.all_eq_true.mp hw c1 (List.mem_of_getElem? h1))
      rw [a1 i hx, h5]
      refine h4.kept ?_
      have hlt := h4.lt
      rw [e1, hF2 _ (by rw [e0]; exact hlt), e0]
      intro h6
      rcases hAq _ h6 with h | h
      · have := hD.1 i w0.length (by omega) (by omega) h
        omega
      · exact absurd hlt (Nat.not_lt.mpr h)
    · rw [List.getElem?_append_right (by omega), List.getElem?_map] at h1
      cases h2 : w'[i - w0.length]? with
      | none => rw [h2] at h1; cases h1
      | some c2 =>
        rw [h2] at h1
        have h3 := hP' _ _ (cw_get h2)
        rw [← Option.some.inj h1, ce_rc, a2, e1, show ad2 i = ad' (i - w0.length) from if_neg hx]
        exact h3
  have hD1 : DD (fun q => s.heap.size ≤ q) ad2 (w0 ++ w'.map (rcF (fun k => w0.length + k))).length := by
    rw [List.length_append, List.length_map]
    refine ⟨fun i j hi hj e9 => ?_, fun i hi => ?_⟩
    · by_cases h1 : i < w0.length <;> by_cases h2 : j < w0.length
      · rw [a1 i h1, a1 j h2] at e9
        exact hD.1 i j (by omega) (by omega) e9
      · rw [a1 i h1, show ad2 j = ad' (j - w0.length) from if_neg h2] at e9
        exact absurd e9 (hsep i (j - w0.length) h1 (by omega))
      · rw [a1 j h2, show ad2 i = ad' (i - w0.length) from if_neg h1] at e9
        exact absurd e9.symm (hsep j (i - w0.length) h2 (by omega))
      · rw [show ad2 i = ad' (i - w0.length) from if_neg h1, show ad2 j = ad' (j - w0.length) from if_neg h2] at e9
        have := hD'.1 (i - w0.length) (j - w0.length) (by omega) (by omega) e9
        omega
    · by_cases h1 : i < w0.length
      · rw [a1 i h1]
        exact hD.2 i (by omega)
      · rw [show ad2 i = ad' (i - w0.length) from if_neg h1]
        exact hsub _ (hD'.2 _ (by omega))
  obtain ⟨t2, s1, b1⟩ := kj z D aC p l e s m below meth c T'.heap (locs ++ Lo) lsA ad2 b Z E (by rw [cl_wf a3 hls]; exact hl) hP1 hD1
    ⟨Nat.le_trans hS.1 (by rw [e1, ← e0]; exact hF1), fun q h1 h2 => by rw [e1, hF2 q (by rw [e0]; exact Nat.lt_of_lt_of_le h1 hS.1) (fun h => h2 (hsub q h)), e0]; exact hS.2.1 q h1 h2, fun q hq => by
      rcases List.mem_append.mp hq with h | h
      · exact hS.2.2 q h
      · exact hsub _ (hL q h)⟩ T' rfl X'
  refine ⟨t2, st t2 ?_, b1⟩
  rw [hv', show (none : Option Value).toList ++ rest.map (cv z ad) = rest.map (cv z ad2) from (st_wf a3 hrs).symm]
  exact s1
end LC
theorem L_init {L : Nat} {xs : Nat → Int32} {pc k n : Nat} {ls : List (Nat × Value)} {idx dc mcC msC ci : Nat} {w0 : List EC} {fs : List Value} {Mc : JM} {Qc : Option Value → List EC → Prop} {rest : List Value}
    (hd : decode code pc = .ok (.invokespecial idx, 3)) (hm : MI Mc 0) (hk : Cond.methodLink "TemperCellarLaw" idx Mc.1 ∈ T0) (hT : Tr dc mcC msC Mc [.ref 0] [.inr (ci, fs)] Qc) (hfc : ∀ ρ, fs.map (rvF ρ) = fs) (hdc : dc + 1 ≤ 1400)
    (hro : Nat.ble (rest.map (fun v => v.category)).sum 8 = true) (hw : wfw w0.length w0 = true) (hls : wfl (w0.length + 1) ls = true) (hrs : rest.all (wfv (w0.length + 1)) = true) (hkm : k + mcC ≤ 601024) (hnm : n + msC ≤ 7293034)
    (kk : ∀ r w', Qc r w' → w'.length = 1 + mcC → r = none ∧ JL L xs (pc + 3) ls rest (w0 ++ w'.map (rcF (fun k => w0.length + k))) (k + mcC) (n + msC)) : JL L xs pc ls (.ref w0.length :: rest) (w0 ++ [.inr (ci, fs)]) k n := by
  intro z D aC p l e s m below meth c H locs lsA ad b Z E hl hP hD hS
  obtain ⟨e1, e2, e3, e4, e5, hts, e7, hE, hK, hX, hb, hz, hf, hr⟩ := id E
  have hs : SubF (w0 ++ [.inr (ci, fs)]) (fun k => w0.length + k) [.inr (ci, fs)] := by
    have := SubF.suf w0 [.inr (ci, fs)]
    rw [show [Sum.inr (ci, fs)].map (rcF (fun k => w0.length + k)) = [.inr (ci, fs)] by show [Sum.inr (ci, fs.map (rvF fun k => w0.length + k))] = _; rw [hfc]] at this
    exact this
  have hM := hT l z D aC (fun i => ad (w0.length + i)) H.size
  obtain ⟨hmc, hmi, hnm9, hret⟩ := hm
  rw [hret] at hM
  refine L_initA (wc := [.inr (ci, fs)]) (st0 := (Value.ref w0.length :: rest).map (cv z ad)) (rest := rest) E hl hP hD hS hw hls hrs hs rfl (va_runI (bytes := Mc.2.1) (maxL := Mc.2.2.1) (own := "TemperCellarLaw") (As := []) (b := ad w0.length) ⟨e1, e2, e4, e5, hts⟩ hM ?_ ?_ rfl rfl hl.1 rfl ?_ hd ⟨hkm, hnm⟩) kk
  · refine ⟨callB_of 0 hts (by have := hmc.good; rw [hret] at this; exact this) rfl rfl rfl (hts _ hmc.2.1) (hts _ hk) hmc.2.2.1 ?_, hnm9, hts _ hmi⟩
    have := hmc.2.2.2
    exact ⟨by show dc + 1 ≤ 2048; omega, by show 7 + 1 + (Mc.2.2.1 + 11) + 60 * dc ≤ 84000; omega⟩
  · exact ⟨Tr.blind, fun U hU hW => ⟨rfl, by rw [hU], by rw [hU]; exact hs.pp hP, va_K.moved hW.alike hK, ⟨(hs.dd hD).1, fun _ _ => trivial⟩, hE.1.call hS hU hW (hs.aa hD (fun _ h => h) hS)⟩⟩
  · exact lv_room (by rw [cv_cats]; exact Nat.le_of_ble_eq_true hro)
