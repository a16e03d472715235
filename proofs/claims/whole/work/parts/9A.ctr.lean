/-! calls that make cells: constructors (own) -/
section JI
variable {M : JM} {d mc ms n0 pc k n : Nat} {ls : List (Nat × Value)} {st : List Value} {w : List EC} {Q : Option Value → List EC → Prop}
variable {z : Nat → Nat} {D : va_G} {aC : FieldType → ClassId} {A : Nat → Prop} {p : Program} {l : Launch} {e : Env} {R : Room} {s : State} {m : MethodId} {args : Array Value} {below : List Frame} {meth : Method} {c : Code} {H : Heap} {locs : List Loc} {lsA : Array Slot} {ad0 ad : Nat → Nat}
theorem J_afterN {mcC msC : Nat} {Qc : Option Value → List EC → Prop} {a : Array Value} {st0 rest : List Value}
    (E : JE M d mc ms z D aC A p R s m args meth c) (hn : w.length = n0 + k) (h0 : ∀ i, i < n0 ∨ n0 + k ≤ i → ad i = ad0 i) (hl : lv_has lsA M.2.2.1 (cl z ad ls)) (hP : va_P D cls0 (cw z aC ad w) H) (hD : DD A ad w.length) (hS : va_S A s.heap H locs) (hls : wfl w.length ls = true) (hrs : rest.all (wfv w.length) = true)
    (hr : va_Run p l e R s m args below meth c H locs k n mcC msC (F0 m pc lsA st0) (rest.map (cv z ad)) (JQ z D aC (va_A (cw z aC ad w) H.size) ad w.length mcC Qc a) (va_A (cw z aC ad w) H.size))
    (kk : ∀ r w', Qc r w' → w'.length = w.length + mcC → r = none ∧ J M d mc ms n0 (pc + 3) ls rest w' (k + mcC) (n + msC) Q) :
    W p l e R s m args below meth c H locs k n (MQ below (JQ z D aC A ad0 n0 mc Q) args s mc ms A) (F0 m pc lsA st0) := by
  intro T hT X
  obtain ⟨v, st₀, t, T', L, e0, X', hL, e1, e2, ⟨⟨r, w', ad', hv, hq, hag, hlen, hP', hD'⟩, hF⟩, st⟩ := hr T hT X
  obtain ⟨hr0, kj⟩ := kk r w' hq hlen
  subst hr0
  have hv' : v = none := by injection hv
  have hup : ∀ i, i < w.length → ad' i = ad i := fun i hi => hag i (Or.inl hi)
  have hsub : ∀ q, va_A (cw z aC ad w) H.size q → A q := (SubF.id w).aa hD E.2.2.2.2.2.2.2.2.2.2.1 hS
  obtain ⟨hF1, hF2⟩ := (⟨hF.1, hF.2⟩ : st₀.heap.size ≤ t.heap.size ∧ ∀ q : Nat, q < st₀.heap.size → ¬ va_A (cw z aC ad w) H.size q → t.heap[q]? = st₀.heap[q]?)
  obtain ⟨t2, a1, b1⟩ := kj z D aC A p l e R s m args below meth c T'.heap (locs ++ L) lsA ad0 ad' E (by omega) (fun i hi => by rw [hag i (by omega)]; exact h0 i (by omega)) (by rw [cl_wf hup hls]; exact hl) (by rw [e1]; exact hP') ⟨hD'.1, fun i hi => hsub _ (hD'.2 i hi)⟩
    ⟨Nat.le_trans hS.1 (by rw [e1, ← e0]; exact hF1), fun q h1 h2 => by rw [e1, hF2 q (by rw [e0]; exact Nat.lt_of_lt_of_le h1 hS.1) (fun h => h2 (hsub q h)), e0]; exact hS.2.1 q h1 h2, fun q hq => by
      rcases List.mem_append.mp hq with h | h
      · exact hS.2.2 q h
      · exact hsub _ (hL q h)⟩ T' rfl X'
  refine ⟨t2, st t2 ?_, b1⟩
  rw [hv', show (none : Option Value).toList ++ rest.map (cv z ad) = rest.map (cv z ad') from (st_wf hup hrs).symm]
  exact a1
end JI
section JI2
variable {M : JM} {d mc ms n0 pc k n : Nat} {ls : List (Nat × Value)} {st : List Value} {w : List EC} {Q : Option Value → List EC → Prop}
theorem J_callI {idx na dc mcC msC i : Nat} {Mc : JM} {ac : List Value} {Qc : Option Value → List EC → Prop} {rest : List Value}
    (hd : decode M.2.1 pc = .ok (.invokespecial idx, 3)) (hm : MI Mc na) (hk : Cond.methodLink M.1.cls idx Mc.1 ∈ T0) (hT : Tr dc mcC msC Mc (.ref i :: ac) w Qc) (hdc : dc + 1 ≤ d)
    (hna : ac.length = na) (hst : st = ac.reverse ++ .ref i :: rest) (hro : Nat.ble (rest.map (fun v => v.category)).sum 8 = true) (hls : wfl w.length ls = true) (hrs : rest.all (wfv w.length) = true) (hkm : Nat.ble (k + mcC) mc = true) (hnm : Nat.ble (n + msC) ms = true)
    (kk : ∀ r w', Qc r w' → w'.length = w.length + mcC → r = none ∧ J M d mc ms n0 (pc + 3) ls rest w' (k + mcC) (n + msC) Q) : J M d mc ms n0 pc ls st w k n Q := by
  intro z D aC A p l e R s m args below meth c H locs lsA ad0 ad E hn h0 hl hP hD hS
  obtain ⟨e1, e2, e3, e4, e5, hts, e7, e8, e9, hE, hA, hK⟩ := id E
  have hM := hT l z D aC ad H.size
  obtain ⟨hmc, hmi, hnm9, hret⟩ := hm
  rw [hret] at hM
  refine J_afterN (st0 := st.map (cv z ad)) (rest := rest) E hn h0 hl hP hD hS hls hrs (va_runI (bytes := Mc.2.1) (maxL := Mc.2.2.1) (own := M.1.cls) (As := ac.map (cv z ad)) (b := ad i) ⟨e1, e2, e4, e5, hts⟩ hM ?_ ?_ rfl ((List.length_map _).trans hna) hl.1 ?_ ?_ hd ?_) kk
  · refine ⟨callB_of na hts (by have := hmc.good; rw [hret] at this; exact this) rfl rfl rfl (hts _ hmc.2.1) (hts _ hk) hmc.2.2.1 ?_, hnm9, hts _ hmi⟩
    have := hmc.2.2.2
    rw [e9]
    exact ⟨hdc, by show 8 + (Mc.2.2.1 + 11) + 60 * dc ≤ 60 * d; omega⟩
  · exact ⟨Tr.blind, fun U hU hW => ⟨rfl, by rw [hU], by rw [hU]; exact hP, va_K.moved hW.alike hK, ⟨hD.1, fun _ _ => trivial⟩, hE.call hS hU hW ((SubF.id w).aa hD hA hS)⟩⟩
  · show st.map (cv z ad) = _
    rw [hst, List.map_append, List.map_reverse]
    rfl
  · exact lv_room (by rw [cv_cats]; exact Nat.le_of_ble_eq_true hro)
  · rw [e9]
    exact ⟨Nat.le_of_ble_eq_true hkm, Nat.le_of_ble_eq_true hnm⟩
theorem J_callIN {idx na dc mcC msC i : Nat} {host : String} {Mc : JM} {ac : List Value} {Qc : Option Value → List EC → Prop} {rest : List Value}
    (hd : decode M.2.1 pc = .ok (.invokespecial idx, 3)) (hm : MI Mc na) (hk : Cond.methodLinkNest M.1.cls idx Mc.1 host ∈ N0) (hT : Tr dc mcC msC Mc (.ref i :: ac) w Qc) (hdc : dc + 1 ≤ d)
    (hna : ac.length = na) (hst : st = ac.reverse ++ .ref i :: rest) (hro : Nat.ble (rest.map (fun v => v.category)).sum 8 = true) (hls : wfl w.length ls = true) (hrs : rest.all (wfv w.length) = true) (hkm : Nat.ble (k + mcC) mc = true) (hnm : Nat.ble (n + msC) ms = true)
    (kk : ∀ r w', Qc r w' → w'.length = w.length + mcC → r = none ∧ J M d mc ms n0 (pc + 3) ls rest w' (k + mcC) (n + msC) Q) : J M d mc ms n0 pc ls st w k n Q := by
  intro z D aC A p l e R s m args below meth c H locs lsA ad0 ad E hn h0 hl hP hD hS
  obtain ⟨e1, e2, e3, e4, e5, hts, e7, e8, e9, hE, hA, hK⟩ := id E
  have hM := hT l z D aC ad H.size
  obtain ⟨hmc, hmi, hnm9, hret⟩ := hm
  rw [hret] at hM
  refine J_afterN (st0 := st.map (cv z ad)) (rest := rest) E hn h0 hl hP hD hS hls hrs (va_runIN (bytes := Mc.2.1) (maxL := Mc.2.2.1) (own := M.1.cls) (host := host) (As := ac.map (cv z ad)) (b := ad i) ⟨e1, e2, e4, e5, hts⟩ hM ?_ ?_ rfl ((List.length_map _).trans hna) hl.1 ?_ ?_ hd ?_) kk
  · refine ⟨va_cnB na hts (by have := hmc.good; rw [hret] at this; exact this) rfl rfl rfl (hE.1 _ hk) (hts _ hmc.2.1) hmc.2.2.1 ?_, hnm9, hts _ hmi⟩
    have := hmc.2.2.2
    rw [e9]
    exact ⟨hdc, by show 8 + (Mc.2.2.1 + 11) + 60 * dc ≤ 60 * d; omega⟩
  · exact ⟨Tr.blind, fun U hU hW => ⟨rfl, by rw [hU], by rw [hU]; exact hP, va_K.moved hW.alike hK, ⟨hD.1, fun _ _ => trivial⟩, hE.call hS hU hW ((SubF.id w).aa hD hA hS)⟩⟩
  · show st.map (cv z ad) = _
    rw [hst, List.map_append, List.map_reverse]
    rfl
  · exact lv_room (by rw [cv_cats]; exact Nat.le_of_ble_eq_true hro)
  · rw [e9]
    exact ⟨Nat.le_of_ble_eq_true hkm, Nat.le_of_ble_eq_true hnm⟩
end JI2
