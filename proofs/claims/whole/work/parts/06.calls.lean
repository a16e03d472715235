/-! THE ENGINE'S ROWS for calls (own) -/
/-- a method that may be called, with na arguments -/
def MC (Mc : JM) (na : Nat) : Prop := Cond.code Mc.1 Mc.2.1 Mc.2.2.1 Mc.2.2.2 ∈ T0 ∧ Cond.initialized Mc.1.cls ∈ T0 ∧ (Mc.1.cls ≠ "java/lang/invoke/MethodHandle" ∧ Mc.1.cls ≠ "java/lang/invoke/VarHandle" ∧ (parseMethodDescriptor Mc.1.desc).map (fun d => d.parameters.length) = some na) ∧ Mc.2.2.1 ≤ 41
def MV (Mc : JM) (na : Nat) : Prop := MC Mc na ∧ Cond.instanceMethod Mc.1 ∈ T0 ∧ Cond.selects Mc.1.cls Mc.1 Mc.1 ∈ T0
def MS (Mc : JM) (na : Nat) : Prop := MC Mc na ∧ Cond.static Mc.1 ∈ T0
def MI (Mc : JM) (na : Nat) : Prop := MC Mc na ∧ Cond.instanceMethod Mc.1 ∈ T0 ∧ Mc.1.name = "<init>" ∧ Mc.2.2.2 = none
theorem MC.good {Mc : JM} {na : Nat} (h : MC Mc na) : GoodIn T0 (.code Mc.1 Mc.2.1 Mc.2.2.1 Mc.2.2.2 :: T0) := by
  intro w hw
  rcases List.mem_cons.mp hw with rfl | hw
  · exact T0_good _ h.1
  · exact T0_good _ hw
theorem Tr.blind {z : Nat → Nat} {D : va_G} {aC : FieldType → ClassId} {ad : Nat → Nat} {sz : Nat} {av : List Value} {w : List EC} {B : Nat → Prop} : FrameBlind (va_Pc av (fun U => U.heap.size = sz ∧ va_P D cls0 (cw z aC ad w) U.heap ∧ va_K D cls0 (tys aC) U ∧ DD (fun _ => True) ad w.length ∧ EX z B U)) := by
  rintro a U g mk ⟨q0, q1, q2, q3, q4, q5⟩
  exact ⟨q0, q1, q2, va_K.moved (u := U) (U := U.calling g mk a) (Vm.Alike.refl U.vm) q3, q4, q5.blind⟩
section JC
variable {M : JM} {d mc ms n0 pc k n : Nat} {ls : List (Nat × Value)} {st : List Value} {w : List EC} {Q : Option Value → List EC → Prop}
theorem cv_cats (z ad : Nat → Nat) (l : List Value) : ((l.map (cv z ad)).map fun v => v.category) = l.map fun v => v.category := by
  rw [List.map_map]; exact List.map_congr_left (fun v _ => cv_cat z ad v)
theorem cv_rvs (z ad ρ : Nat → Nat) (l : List Value) : (l.map (rvF ρ)).map (cv z ad) = l.map (cv z (fun i => ad (ρ i))) := by
  rw [List.map_map]; exact List.map_congr_left (fun v _ => cv_rv z ad ρ v)
theorem J_gV {idx ci na dc : Nat} {Mc : JM} {fs : List Value} {ac : List Value} {ρ : Nat → Nat} {wc : List EC} {Qc : Option Value → List EC → Prop} {rest : List Value}
    (hd : decode M.2.1 pc = .ok (.invokevirtual idx, 3)) (hm : MV Mc na) (hk : Cond.methodLink M.1.cls idx Mc.1 ∈ T0) (hT : Tr dc 0 0 Mc (.ref 0 :: ac) wc Qc) (hdc : dc + 1 ≤ d) (hc : (cls0[ci]?).map (fun q => q.1) = some Mc.1.cls) (hw0 : wc[0]? = some (.inr (ci, fs)))
    (hs : SubF w ρ wc) (hna : ac.length = na) (hst : st = (ac.map (rvF ρ)).reverse ++ .ref (ρ 0) :: rest) (hro : Nat.ble (rest.map (fun v => v.category)).sum 8 = true) (hkm : Nat.ble k mc = true) (hnm : Nat.ble n ms = true)
    (kk : ∀ r w', Qc r w' → w'.length = wc.length → ∃ w2, PutF w ρ w' w2 ∧ J M d mc ms n0 (pc + 3) ls ((r.map (rvF ρ)).toList ++ rest) w2 k n Q) : J M d mc ms n0 pc ls st w k n Q := by
  intro z D aC A p l e R s m args below meth c H locs lsA ad0 ad E hn h0 hl hP hD hS
  obtain ⟨e1, e2, e3, e4, e5, hts, e7, e8, e9, hE, hA, hK⟩ := id E
  have hM := hT l z D aC (fun i => ad (ρ i)) H.size
  obtain ⟨hmc, hmi, hms⟩ := hm
  cases hq : cls0[ci]? with
  | none => rw [hq] at hc; cases hc
  | some q =>
    rw [hq] at hc
    have hcq : q.1 = Mc.1.cls := Option.some.inj hc
    refine J_after (st0 := st.map (cv z ad)) (rest := rest) hs E hn h0 hl hP hD hS (va_runV (bytes := Mc.2.1) (maxL := Mc.2.2.1) (ret := Mc.2.2.2) (own := M.1.cls) (C := Mc.1.cls) (As := ac.map (cv z (fun i => ad (ρ i)))) (b := ad (ρ 0)) ⟨e1, e2, e4, e5, hts⟩ hM ?_ ?_ rfl ((List.length_map _).trans hna) hl.1 ?_ ?_ hd ?_) kk
    · refine ⟨callB_of na hts hmc.good rfl rfl rfl (hts _ hmc.2.1) (hts _ hk) hmc.2.2.1 ?_, hts _ hmi, hts _ hms⟩
      have := hmc.2.2.2
      rw [e9]
      exact ⟨hdc, by show 8 + (Mc.2.2.1 + 11) + 60 * dc ≤ 60 * d; omega⟩
    · refine ⟨Tr.blind, ?_, fun U hU hW => ⟨rfl, by rw [hU], by rw [hU]; exact hs.pp hP, va_K.moved hW.alike hK, ⟨(hs.dd hD).1, fun _ _ => trivial⟩, hE.call hS hU hW (hs.aa hD hA hS)⟩⟩
      rw [← hcq]
      exact va_recv hK (hs.pp hP) hq (cw_get hw0)
    · show st.map (cv z ad) = _
      rw [hst, List.map_append, List.map_reverse, cv_rvs]
      rfl
    · exact lv_room (by rw [cv_cats]; exact Nat.le_of_ble_eq_true hro)
    · rw [e9]
      exact ⟨Nat.le_of_ble_eq_true hkm, Nat.le_of_ble_eq_true hnm⟩
theorem J_gS {idx na dc : Nat} {Mc : JM} {ac : List Value} {ρ : Nat → Nat} {wc : List EC} {Qc : Option Value → List EC → Prop} {rest : List Value}
    (hd : decode M.2.1 pc = .ok (.invokestatic idx, 3)) (hm : MS Mc na) (hk : Cond.methodLink M.1.cls idx Mc.1 ∈ T0) (hT : Tr dc 0 0 Mc ac wc Qc) (hdc : dc + 1 ≤ d)
    (hs : SubF w ρ wc) (hna : ac.length = na) (hst : st = (ac.map (rvF ρ)).reverse ++ rest) (hro : Nat.ble (rest.map (fun v => v.category)).sum 8 = true) (hkm : Nat.ble k mc = true) (hnm : Nat.ble n ms = true)
    (kk : ∀ r w', Qc r w' → w'.length = wc.length → ∃ w2, PutF w ρ w' w2 ∧ J M d mc ms n0 (pc + 3) ls ((r.map (rvF ρ)).toList ++ rest) w2 k n Q) : J M d mc ms n0 pc ls st w k n Q := by
  intro z D aC A p l e R s m args below meth c H locs lsA ad0 ad E hn h0 hl hP hD hS
  obtain ⟨e1, e2, e3, e4, e5, hts, e7, e8, e9, hE, hA, hK⟩ := id E
  have hM := hT l z D aC (fun i => ad (ρ i)) H.size
  obtain ⟨hmc, hms⟩ := hm
  refine J_after (st0 := st.map (cv z ad)) (rest := rest) hs E hn h0 hl hP hD hS (va_runS (bytes := Mc.2.1) (maxL := Mc.2.2.1) (ret := Mc.2.2.2) (own := M.1.cls) (As := ac.map (cv z (fun i => ad (ρ i)))) ⟨e1, e2, e4, e5, hts⟩ hM ?_ ?_ rfl ((List.length_map _).trans hna) hl.1 ?_ ?_ hd ?_) kk
  · refine ⟨callB_of na hts hmc.good rfl rfl rfl (hts _ hmc.2.1) (hts _ hk) hmc.2.2.1 ?_, hts _ hms⟩
    have := hmc.2.2.2
    rw [e9]
    exact ⟨hdc, by show 8 + (Mc.2.2.1 + 11) + 60 * dc ≤ 60 * d; omega⟩
  · exact ⟨Tr.blind, fun U hU hW => ⟨rfl, by rw [hU], by rw [hU]; exact hs.pp hP, va_K.moved hW.alike hK, ⟨(hs.dd hD).1, fun _ _ => trivial⟩, hE.call hS hU hW (hs.aa hD hA hS)⟩⟩
  · show st.map (cv z ad) = _
    rw [hst, List.map_append, List.map_reverse, cv_rvs]
  · exact lv_room (by rw [cv_cats]; exact Nat.le_of_ble_eq_true hro)
  · rw [e9]
    exact ⟨Nat.le_of_ble_eq_true hkm, Nat.le_of_ble_eq_true hnm⟩
/-- a static method of a nest mate that is private -/
theorem J_gSN {idx na dc : Nat} {host : String} {Mc : JM} {ac : List Value} {ρ : Nat → Nat} {wc : List EC} {Qc : Option Value → List EC → Prop} {rest : List Value}
    (hd : decode M.2.1 pc = .ok (.invokestatic idx, 3)) (hm : MS Mc na) (hk : Cond.methodLinkNest M.1.cls idx Mc.1 host ∈ N0) (hT : Tr dc 0 0 Mc ac wc Qc) (hdc : dc + 1 ≤ d)
    (hs : SubF w ρ wc) (hna : ac.length = na) (hst : st = (ac.map (rvF ρ)).reverse ++ rest) (hro : Nat.ble (rest.map (fun v => v.category)).sum 8 = true) (hkm : Nat.ble k mc = true) (hnm : Nat.ble n ms = true)
    (kk : ∀ r w', Qc r w' → w'.length = wc.length → ∃ w2, PutF w ρ w' w2 ∧ J M d mc ms n0 (pc + 3) ls ((r.map (rvF ρ)).toList ++ rest) w2 k n Q) : J M d mc ms n0 pc ls st w k n Q := by
  intro z D aC A p l e R s m args below meth c H locs lsA ad0 ad E hn h0 hl hP hD hS
  obtain ⟨e1, e2, e3, e4, e5, hts, e7, e8, e9, hE, hA, hK⟩ := id E
  have hM := hT l z D aC (fun i => ad (ρ i)) H.size
  obtain ⟨hmc, hms⟩ := hm
  refine J_after (st0 := st.map (cv z ad)) (rest := rest) hs E hn h0 hl hP hD hS (va_runSN (bytes := Mc.2.1) (maxL := Mc.2.2.1) (ret := Mc.2.2.2) (own := M.1.cls) (host := host) (As := ac.map (cv z (fun i => ad (ρ i)))) ⟨e1, e2, e4, e5, hts⟩ hM ?_ ?_ rfl ((List.length_map _).trans hna) hl.1 ?_ ?_ hd ?_) kk
  · refine ⟨va_cnB na hts hmc.good rfl rfl rfl (hE.1 _ hk) (hts _ hmc.2.1) hmc.2.2.1 ?_, hts _ hms, trivial⟩
    have := hmc.2.2.2
    rw [e9]
    exact ⟨hdc, by show 8 + (Mc.2.2.1 + 11) + 60 * dc ≤ 60 * d; omega⟩
  · exact ⟨Tr.blind, fun U hU hW => ⟨rfl, by rw [hU], by rw [hU]; exact hs.pp hP, va_K.moved hW.alike hK, ⟨(hs.dd hD).1, fun _ _ => trivial⟩, hE.call hS hU hW (hs.aa hD hA hS)⟩⟩
  · show st.map (cv z ad) = _
    rw [hst, List.map_append, List.map_reverse, cv_rvs]
  · exact lv_room (by rw [cv_cats]; exact Nat.le_of_ble_eq_true hro)
  · rw [e9]
    exact ⟨Nat.le_of_ble_eq_true hkm, Nat.le_of_ble_eq_true hnm⟩
end JC
/-- read-only, with a known answer that is no reference -/
def TR (d : Nat) (M : JM) (av : List Value) (w : List EC) (v : Value) : Prop := Tr d 0 0 M av w (fun r w' => w' = w ∧ r = some v)
section JD
variable {M : JM} {d mc ms n0 pc k n : Nat} {ls : List (Nat × Value)} {st : List Value} {w : List EC} {Q : Option Value → List EC → Prop} {Mc : JM} {idx ci na dc : Nat} {fs ac rest : List Value} {ι : List Nat} {wc : List EC} {Qc : Option Value → List EC → Prop} {host : String} {v : Value}
theorem rvs_id (l : List Value) : l.map (rvF (fun k => k)) = l := (List.map_congr_left (fun v _ => rvF_id v)).trans (List.map_id _)
theorem J_callV (hd : decode M.2.1 pc = .ok (.invokevirtual idx, 3)) (hm : MV Mc na) (hk : Cond.methodLink M.1.cls idx Mc.1 ∈ T0) (hT : Tr dc 0 0 Mc (.ref 0 :: ac) wc Qc) (hdc : dc + 1 ≤ d) (hc : (cls0[ci]?).map (fun q => q.1) = some Mc.1.cls) (hw0 : wc[0]? = some (.inr (ci, fs))) (hs : Sub w ι wc) (hna : ac.length = na) (hst : st = (ac.map (rv ι)).reverse ++ .ref (rn ι 0) :: rest) (hro : Nat.ble (rest.map (fun v => v.category)).sum 8 = true) (hkm : Nat.ble k mc = true) (hnm : Nat.ble n ms = true) (kk : ∀ r w', Qc r w' → w'.length = wc.length → J M d mc ms n0 (pc + 3) ls ((r.map (rv ι)).toList ++ rest) (wput w ι (w'.map (rc ι))) k n Q) : J M d mc ms n0 pc ls st w k n Q := J_gV hd hm hk hT hdc hc hw0  hs.f hna hst hro hkm hnm (fun r w' hq hl => ⟨_, hs.put hl, kk r w' hq hl⟩)
theorem J_callVR (hd : decode M.2.1 pc = .ok (.invokevirtual idx, 3)) (hm : MV Mc na) (hk : Cond.methodLink M.1.cls idx Mc.1 ∈ T0) (hT : TR dc Mc (.ref 0 :: ac) wc v) (hdc : dc + 1 ≤ d) (hc : (cls0[ci]?).map (fun q => q.1) = some Mc.1.cls) (hw0 : wc[0]? = some (.inr (ci, fs))) (hs : Sub w ι wc) (hna : ac.length = na) (hst : st = (ac.map (rv ι)).reverse ++ .ref (rn ι 0) :: rest) (hv : ∀ ρ, rvF ρ v = v) (hro : Nat.ble (rest.map (fun v => v.category)).sum 8 = true) (hkm : Nat.ble k mc = true) (hnm : Nat.ble n ms = true) (kk : J M d mc ms n0 (pc + 3) ls (v :: rest) w k n Q) : J M d mc ms n0 pc ls st w k n Q := by
  refine J_gV hd hm hk hT hdc hc hw0  hs.f hna hst hro hkm hnm (fun r w' hq hl => ?_)
  obtain ⟨rfl, rfl⟩ := hq
  refine ⟨w, PutF.same hs.f, ?_⟩
  show J M d mc ms n0 (pc + 3) ls (rvF (rn ι) v :: rest) w k n Q
  rw [hv]
  exact kk
theorem J_callVT (hd : decode M.2.1 pc = .ok (.invokevirtual idx, 3)) (hm : MV Mc na) (hk : Cond.methodLink M.1.cls idx Mc.1 ∈ T0) (hT : Tr dc 0 0 Mc (.ref 0 :: ac) w Qc) (hdc : dc + 1 ≤ d) (hc : (cls0[ci]?).map (fun q => q.1) = some Mc.1.cls) (hw0 : w[0]? = some (.inr (ci, fs))) (hna : ac.length = na) (hst : st = ac.reverse ++ .ref 0 :: rest) (hro : Nat.ble (rest.map (fun v => v.category)).sum 8 = true) (hkm : Nat.ble k mc = true) (hnm : Nat.ble n ms = true) (kk : ∀ r w', Qc r w' → w'.length = w.length → J M d mc ms n0 (pc + 3) ls (r.toList ++ rest) w' k n Q) : J M d mc ms n0 pc ls st w k n Q := by
  refine J_gV hd hm hk hT hdc hc hw0  (SubF.id w) hna (by rw [rvs_id]; exact hst) hro hkm hnm (fun r w' hq hl => ⟨w', PutF.id hl, ?_⟩)
  rw [show r.map (rvF fun k => k) = r by cases r with | none => rfl | some x => exact congrArg some (rvF_id x)]
  exact kk r w' hq hl
theorem J_callVTR (hd : decode M.2.1 pc = .ok (.invokevirtual idx, 3)) (hm : MV Mc na) (hk : Cond.methodLink M.1.cls idx Mc.1 ∈ T0) (hT : TR dc Mc (.ref 0 :: ac) w v) (hdc : dc + 1 ≤ d) (hc : (cls0[ci]?).map (fun q => q.1) = some Mc.1.cls) (hw0 : w[0]? = some (.inr (ci, fs))) (hna : ac.length = na) (hst : st = ac.reverse ++ .ref 0 :: rest) (hv : ∀ ρ, rvF ρ v = v) (hro : Nat.ble (rest.map (fun v => v.category)).sum 8 = true) (hkm : Nat.ble k mc = true) (hnm : Nat.ble n ms = true) (kk : J M d mc ms n0 (pc + 3) ls (v :: rest) w k n Q) : J M d mc ms n0 pc ls st w k n Q := by
  refine J_gV hd hm hk hT hdc hc hw0  (SubF.id w) hna (by rw [rvs_id]; exact hst) hro hkm hnm (fun r w' hq hl => ⟨w', PutF.id hl, ?_⟩)
  obtain ⟨rfl, rfl⟩ := hq
  show J M d mc ms n0 (pc + 3) ls (rvF (fun k => k) v :: rest) w' k n Q
  rw [hv]
  exact kk
theorem J_callS (hd : decode M.2.1 pc = .ok (.invokestatic idx, 3)) (hm : MS Mc na) (hk : Cond.methodLink M.1.cls idx Mc.1 ∈ T0) (hT : Tr dc 0 0 Mc ac wc Qc) (hdc : dc + 1 ≤ d) (hs : Sub w ι wc) (hna : ac.length = na) (hst : st = (ac.map (rv ι)).reverse ++ rest) (hro : Nat.ble (rest.map (fun v => v.category)).sum 8 = true) (hkm : Nat.ble k mc = true) (hnm : Nat.ble n ms = true) (kk : ∀ r w', Qc r w' → w'.length = wc.length → J M d mc ms n0 (pc + 3) ls ((r.map (rv ι)).toList ++ rest) (wput w ι (w'.map (rc ι))) k n Q) : J M d mc ms n0 pc ls st w k n Q := J_gS hd hm hk hT hdc  hs.f hna hst hro hkm hnm (fun r w' hq hl => ⟨_, hs.put hl, kk r w' hq hl⟩)
theorem J_callSR (hd : decode M.2.1 pc = .ok (.invokestatic idx, 3)) (hm : MS Mc na) (hk : Cond.methodLink M.1.cls idx Mc.1 ∈ T0) (hT : TR dc Mc ac wc v) (hdc : dc + 1 ≤ d) (hs : Sub w ι wc) (hna : ac.length = na) (hst : st = (ac.map (rv ι)).reverse ++ rest) (hv : ∀ ρ, rvF ρ v = v) (hro : Nat.ble (rest.map (fun v => v.category)).sum 8 = true) (hkm : Nat.ble k mc = true) (hnm : Nat.ble n ms = true) (kk : J M d mc ms n0 (pc + 3) ls (v :: rest) w k n Q) : J M d mc ms n0 pc ls st w k n Q := by
  refine J_gS hd hm hk hT hdc  hs.f hna hst hro hkm hnm (fun r w' hq hl => ?_)
  obtain ⟨rfl, rfl⟩ := hq
  refine ⟨w, PutF.same hs.f, ?_⟩
  show J M d mc ms n0 (pc + 3) ls (rvF (rn ι) v :: rest) w k n Q
  rw [hv]
  exact kk
theorem J_callST (hd : decode M.2.1 pc = .ok (.invokestatic idx, 3)) (hm : MS Mc na) (hk : Cond.methodLink M.1.cls idx Mc.1 ∈ T0) (hT : Tr dc 0 0 Mc ac w Qc) (hdc : dc + 1 ≤ d) (hna : ac.length = na) (hst : st = ac.reverse ++ rest) (hro : Nat.ble (rest.map (fun v => v.category)).sum 8 = true) (hkm : Nat.ble k mc = true) (hnm : Nat.ble n ms = true) (kk : ∀ r w', Qc r w' → w'.length = w.length → J M d mc ms n0 (pc + 3) ls (r.toList ++ rest) w' k n Q) : J M d mc ms n0 pc ls st w k n Q := by
  refine J_gS hd hm hk hT hdc  (SubF.id w) hna (by rw [rvs_id]; exact hst) hro hkm hnm (fun r w' hq hl => ⟨w', PutF.id hl, ?_⟩)
  rw [show r.map (rvF fun k => k) = r by cases r with | none => rfl | some x => exact congrArg some (rvF_id x)]
  exact kk r w' hq hl
theorem J_callSTR (hd : decode M.2.1 pc = .ok (.invokestatic idx, 3)) (hm : MS Mc na) (hk : Cond.methodLink M.1.cls idx Mc.1 ∈ T0) (hT : TR dc Mc ac w v) (hdc : dc + 1 ≤ d) (hna : ac.length = na) (hst : st = ac.reverse ++ rest) (hv : ∀ ρ, rvF ρ v = v) (hro : Nat.ble (rest.map (fun v => v.category)).sum 8 = true) (hkm : Nat.ble k mc = true) (hnm : Nat.ble n ms = true) (kk : J M d mc ms n0 (pc + 3) ls (v :: rest) w k n Q) : J M d mc ms n0 pc ls st w k n Q := by
  refine J_gS hd hm hk hT hdc  (SubF.id w) hna (by rw [rvs_id]; exact hst) hro hkm hnm (fun r w' hq hl => ⟨w', PutF.id hl, ?_⟩)
  obtain ⟨rfl, rfl⟩ := hq
  show J M d mc ms n0 (pc + 3) ls (rvF (fun k => k) v :: rest) w' k n Q
  rw [hv]
  exact kk
theorem J_callSN (hd : decode M.2.1 pc = .ok (.invokestatic idx, 3)) (hm : MS Mc na) (hk : Cond.methodLinkNest M.1.cls idx Mc.1 host ∈ N0) (hT : Tr dc 0 0 Mc ac wc Qc) (hdc : dc + 1 ≤ d) (hs : Sub w ι wc) (hna : ac.length = na) (hst : st = (ac.map (rv ι)).reverse ++ rest) (hro : Nat.ble (rest.map (fun v => v.category)).sum 8 = true) (hkm : Nat.ble k mc = true) (hnm : Nat.ble n ms = true) (kk : ∀ r w', Qc r w' → w'.length = wc.length → J M d mc ms n0 (pc + 3) ls ((r.map (rv ι)).toList ++ rest) (wput w ι (w'.map (rc ι))) k n Q) : J M d mc ms n0 pc ls st w k n Q := J_gSN hd hm hk hT hdc  hs.f hna hst hro hkm hnm (fun r w' hq hl => ⟨_, hs.put hl, kk r w' hq hl⟩)
theorem J_callSNR (hd : decode M.2.1 pc = .ok (.invokestatic idx, 3)) (hm : MS Mc na) (hk : Cond.methodLinkNest M.1.cls idx Mc.1 host ∈ N0) (hT : TR dc Mc ac wc v) (hdc : dc + 1 ≤ d) (hs : Sub w ι wc) (hna : ac.length = na) (hst : st = (ac.map (rv ι)).reverse ++ rest) (hv : ∀ ρ, rvF ρ v = v) (hro : Nat.ble (rest.map (fun v => v.category)).sum 8 = true) (hkm : Nat.ble k mc = true) (hnm : Nat.ble n ms = true) (kk : J M d mc ms n0 (pc + 3) ls (v :: rest) w k n Q) : J M d mc ms n0 pc ls st w k n Q := by
  refine J_gSN hd hm hk hT hdc  hs.f hna hst hro hkm hnm (fun r w' hq hl => ?_)
  obtain ⟨rfl, rfl⟩ := hq
  refine ⟨w, PutF.same hs.f, ?_⟩
  show J M d mc ms n0 (pc + 3) ls (rvF (rn ι) v :: rest) w k n Q
  rw [hv]
  exact kk
theorem J_callSNT (hd : decode M.2.1 pc = .ok (.invokestatic idx, 3)) (hm : MS Mc na) (hk : Cond.methodLinkNest M.1.cls idx Mc.1 host ∈ N0) (hT : Tr dc 0 0 Mc ac w Qc) (hdc : dc + 1 ≤ d) (hna : ac.length = na) (hst : st = ac.reverse ++ rest) (hro : Nat.ble (rest.map (fun v => v.category)).sum 8 = true) (hkm : Nat.ble k mc = true) (hnm : Nat.ble n ms = true) (kk : ∀ r w', Qc r w' → w'.length = w.length → J M d mc ms n0 (pc + 3) ls (r.toList ++ rest) w' k n Q) : J M d mc ms n0 pc ls st w k n Q := by
  refine J_gSN hd hm hk hT hdc  (SubF.id w) hna (by rw [rvs_id]; exact hst) hro hkm hnm (fun r w' hq hl => ⟨w', PutF.id hl, ?_⟩)
  rw [show r.map (rvF fun k => k) = r by cases r with | none => rfl | some x => exact congrArg some (rvF_id x)]
  exact kk r w' hq hl
theorem J_callSNTR (hd : decode M.2.1 pc = .ok (.invokestatic idx, 3)) (hm : MS Mc na) (hk : Cond.methodLinkNest M.1.cls idx Mc.1 host ∈ N0) (hT : TR dc Mc ac w v) (hdc : dc + 1 ≤ d) (hna : ac.length = na) (hst : st = ac.reverse ++ rest) (hv : ∀ ρ, rvF ρ v = v) (hro : Nat.ble (rest.map (fun v => v.category)).sum 8 = true) (hkm : Nat.ble k mc = true) (hnm : Nat.ble n ms = true) (kk : J M d mc ms n0 (pc + 3) ls (v :: rest) w k n Q) : J M d mc ms n0 pc ls st w k n Q := by
  refine J_gSN hd hm hk hT hdc  (SubF.id w) hna (by rw [rvs_id]; exact hst) hro hkm hnm (fun r w' hq hl => ⟨w', PutF.id hl, ?_⟩)
  obtain ⟨rfl, rfl⟩ := hq
  show J M d mc ms n0 (pc + 3) ls (rvF (fun k => k) v :: rest) w' k n Q
  rw [hv]
  exact kk
end JD
