/-! THE ENGINE'S ROWS: cells seen otherwise, arraycopy, new cells, constructors (own) -/
theorem acopy_ok : Cond.native arraycopyName ∈ T0 ∧ Cond.static arraycopyName ∈ T0 ∧ Cond.initialized "java/lang/System" ∈ T0 := ⟨t794, t793, t24⟩
theorem objInit_ok : Cond.instanceMethod Lib.objectInit ∈ T0 ∧ Cond.code Lib.objectInit ⟨#[0xb1]⟩ 1 none ∈ T0 := ⟨t31, t32⟩
theorem cell_ext {cA : ClassId} {N : Nat} {f g : Nat → Int32} (h : ∀ j, j < N → f j = g j) : vp_cell cA (N, .inl f) = vp_cell cA (N, .inl g) := by
  rw [vp_cell_i, vp_cell_i]
  unfold arrV
  congr 2
  funext j
  show Value.int (f j) = Value.int (g j)
  rw [h j.val j.isLt]
theorem cell_extL {cA : ClassId} {N : Nat} {f g : Nat → Int64} (h : ∀ j, j < N → f j = g j) : vp_cell cA (N, .inr (.inl f)) = vp_cell cA (N, .inr (.inl g)) := by
  rw [vp_cell_l, vp_cell_l]
  unfold arrV
  congr 2
  funext j
  show Value.long (f j) = Value.long (g j)
  rw [h j.val j.isLt]
theorem P_cell {D : va_G} {z : Nat → Nat} {aC : FieldType → ClassId} {ad : Nat → Nat} {w : List EC} {H : Heap} {i : Nat} {ty : FieldType} {x y : vp_A} (hP : va_P D cls0 (cw z aC ad w) H) (hw : w[i]? = some (.inl (ty, x))) (h : vp_cell (aC ty) x = vp_cell (aC ty) y) : va_P D cls0 (cw z aC ad (w.set i (.inl (ty, y)))) H := by
  intro j q hj
  obtain ⟨c, h1, rfl⟩ := cw_of hj
  by_cases e : i = j
  · subst e
    have hl := (List.getElem?_eq_some_iff.mp hw).1
    rw [List.getElem?_set_self hl] at h1
    cases h1
    have := hP i _ (cw_get hw)
    show H[ad i]? = some (vp_cell (aC ty) y)
    rw [← h]
    exact this
  · rw [List.getElem?_set_ne e] at h1
    exact hP j _ (cw_get h1)
section JX
variable {M : JM} {d mc ms n0 pc k n : Nat} {ls : List (Nat × Value)} {st : List Value} {w : List EC} {Q : Option Value → List EC → Prop}
theorem J_cell {i N : Nat} {ty : FieldType} {f g : Nat → Int32} (hw : w[i]? = some (.inl (ty, N, .inl f))) (hfg : ∀ j, j < N → f j = g j) (kk : J M d mc ms n0 pc ls st (w.set i (.inl (ty, N, .inl g))) k n Q) : J M d mc ms n0 pc ls st w k n Q := by
  intro z D aC A p l e R s m args below meth c H locs lsA ad0 ad E hn h0 hl hP hD hS
  exact kk z D aC A p l e R s m args below meth c H locs lsA ad0 ad E (by rw [List.length_set]; exact hn) h0 hl (P_cell hP hw (cell_ext hfg)) (by rw [List.length_set]; exact hD) hS
theorem J_cellL {i N : Nat} {ty : FieldType} {f g : Nat → Int64} (hw : w[i]? = some (.inl (ty, N, .inr (.inl f)))) (hfg : ∀ j, j < N → f j = g j) (kk : J M d mc ms n0 pc ls st (w.set i (.inl (ty, N, .inr (.inl g)))) k n Q) : J M d mc ms n0 pc ls st w k n Q := by
  intro z D aC A p l e R s m args below meth c H locs lsA ad0 ad E hn h0 hl hP hD hS
  exact kk z D aC A p l e R s m args below meth c H locs lsA ad0 ad E (by rw [List.length_set]; exact hn) h0 hl (P_cell hP hw (cell_extL hfg)) (by rw [List.length_set]; exact hD) hS
/-- the world by another name -/
theorem J_w {w2 : List EC} (e : w = w2) (kk : J M d mc ms n0 pc ls st w2 k n Q) : J M d mc ms n0 pc ls st w k n Q := e ▸ kk
theorem J_mono {Q2 : Option Value → List EC → Prop} (h : J M d mc ms n0 pc ls st w k n Q2) (hq : ∀ r w', Q2 r w' → Q r w') : J M d mc ms n0 pc ls st w k n Q := by
  intro z D aC A p l e R s m args below meth c H locs lsA ad0 ad E hn h0 hl hP hD hS T hT X
  obtain ⟨t, a1, o, b1, b2, ⟨⟨r, w', ad', c1, c2, c3⟩, c4⟩, b4⟩ := h z D aC A p l e R s m args below meth c H locs lsA ad0 ad E hn h0 hl hP hD hS T hT X
  exact ⟨t, a1, o, b1, b2, ⟨⟨r, w', ad', c1, hq r w' c2, c3⟩, c4⟩, b4⟩
/-- System.arraycopy between int arrays -/
theorem J_acopy {idx i0 i1 m0 m1 a b q : Nat} {f g : Nat → Int32} {x y v : Int32} (hd : decode M.2.1 pc = .ok (.invokestatic idx, 3)) (hk : Cond.methodLink M.1.cls idx arraycopyName ∈ T0) (hw0 : w[i0]? = some (.inl (.int, m0, .inl f))) (hw1 : w[i1]? = some (.inl (.int, m1, .inl g))) (hx : x = nI a) (hy : y = nI b) (hv : v = nI q) (h4 : a + q ≤ m0) (h5 : b + q ≤ m1) (hm0 : Nat.blt m0 2147483648 = true) (hm1 : Nat.blt m1 2147483648 = true) (hdd : 1 ≤ d) (hro : Nat.ble ((st.map (fun v => v.category)).sum + (nativeFrameWords "java/lang/System" "arraycopy" 5 + 11)) 60 = true)
    (kk : J M d mc ms n0 (pc + 3) ls st (w.set i1 (.inl (.int, m1, .inl (va_cpy f g a b q)))) k n Q) : J M d mc ms n0 pc ls (.int v :: .int y :: .ref i1 :: .int x :: .ref i0 :: st) w k n Q := by
  intro z D aC A p l e R s m args below meth c H locs lsA ad0 ad E hn h0 hl hP hD hS
  obtain ⟨e1, e2, e3, e4, e5, hts, e7, e8, e9, hE, hA, hK⟩ := id E
  have hm0' : m0 < 2 ^ 31 := Nat.le_of_ble_eq_true hm0
  have hm1' : m1 < 2 ^ 31 := Nat.le_of_ble_eq_true hm1
  have ha : a < 2 ^ 31 := by omega
  have hb : b < 2 ^ 31 := by omega
  have hq : q < 2 ^ 31 := by omega
  subst hx hy hv
  have hro' := Nat.le_of_ble_eq_true hro
  refine va_copyi e1 e2 (e4.trans hl.1.symm) e5 (hts _ hk) (hts _ acopy_ok.1) (hts _ acopy_ok.2.1) (hts _ acopy_ok.2.2) hK hP (DD_D hD) hS i0 i1 0 0 (cw_get hw0) (cw_get hw1) rfl rfl rfl (nI_pos ha) (nI_pos hb) (nI_pos hq) (by rw [nI_clamp ha, nI_clamp hq]; exact h4) (by rw [nI_clamp hb, nI_clamp hq]; exact h5) (fun _ _ => rfl) (by rw [e9]; exact hdd) ?_ hd (fun H1 locs1 g1 g2 g3 => ?_)
  · rw [e9, cv_cats]
    show _ ≤ 60 * d
    omega
  · rw [nI_clamp ha, nI_clamp hb, nI_clamp hq] at g1
    rw [show (cw z aC ad w).set i1 (ad i1, .inl (aC .int, m1, .inl (va_cpy f g a b q))) = cw z aC ad (w.set i1 (.inl (.int, m1, .inl (va_cpy f g a b q)))) by rw [← cw_set]; rfl] at g1
    exact kk z D aC A p l e R s m args below meth c H1 locs1 lsA ad0 ad E (by rw [List.length_set]; exact hn) h0 hl g1 (by rw [List.length_set]; exact hD) g3
/-- Object's constructor -/
theorem J_objInit {idx i : Nat} (hd : decode M.2.1 pc = .ok (.invokespecial idx, 3)) (hk : Cond.methodLink M.1.cls idx Lib.objectInit ∈ T0) (hdd : 1 ≤ d) (hro : Nat.ble ((st.map (fun v => v.category)).sum + 12) 60 = true) (kk : J M d mc ms n0 (pc + 3) ls st w k n Q) : J M d mc ms n0 pc ls (.ref i :: st) w k n Q := by
  intro z D aC A p l e R s m args below meth c H locs lsA ad0 ad E hn h0 hl hP hD hS
  obtain ⟨e1, e2, e3, e4, e5, hts, e7, e8, e9, hE, hA, hK⟩ := id E
  have hro' := Nat.le_of_ble_eq_true hro
  refine W.objInit (rest := st.map (cv z ad)) e1 e2 e5 (hts _ hk) (hts _ objInit_ok.1) (hts _ objInit_ok.2) rfl (by rw [e4]; exact hl.1) rfl hd (by rw [e9]; exact hdd) ?_ (kk z D aC A p l e R s m args below meth c H locs lsA ad0 ad E hn h0 hl hP hD hS)
  rw [e9, cv_cats]
  show 2 * 0 + _ + 12 ≤ 60 * d
  omega
end JX
/-! closed worlds, new cells -/
def wfv (n : Nat) : Value → Bool
  | .ref i => Nat.blt i n
  | _ => true
def wfc (n : Nat) : EC → Bool
  | .inl _ => true
  | .inr o => o.2.all (wfv n)
def wfw (n : Nat) (w : List EC) : Bool := w.all (wfc n)
def wfl (n : Nat) (ls : List (Nat × Value)) : Bool := ls.all (fun q => wfv n q.2)
theorem cv_wf {z ad ad' : Nat → Nat} {n : Nat} (h : ∀ i, i < n → ad' i = ad i) {v : Value} (hv : wfv n v = true) : cv z ad' v = cv z ad v := by
  cases v <;> first | rfl | (simp only [cv]; rw [h _ (Nat.le_of_ble_eq_true hv)])
theorem ce_wf {z : Nat → Nat} {aC : FieldType → ClassId} {ad ad' : Nat → Nat} {n : Nat} (h : ∀ i, i < n → ad' i = ad i) {c : EC} (hc : wfc n c = true) : ce z aC ad' c = ce z aC ad c := by
  cases c with
  | inl a => rfl
  | inr o =>
    simp only [ce, Sum.inr.injEq, Prod.mk.injEq, true_and]
    exact List.map_congr_left (fun v hv => cv_wf h (List.all_eq_true.mp hc v hv))
theorem cw_wf {z : Nat → Nat} {aC : FieldType → ClassId} {ad ad' : Nat → Nat} {w : List EC} (h : ∀ i, i < w.length → ad' i = ad i) (hw : wfw w.length w = true) : cw z aC ad' w = cw z aC ad w := by
  apply List.ext_getElem?
  intro i
  cases hc : w[i]? with
  | none => simp [cw, List.getElem?_mapIdx, hc]
  | some c => rw [cw_get hc, cw_get hc, h i (List.getElem?_eq_some_iff.mp hc).1, ce_wf h (List.all_eq_true.mp hw c (List.mem_of_getElem? hc))]
theorem st_wf {z ad ad' : Nat → Nat} {n : Nat} (h : ∀ i, i < n → ad' i = ad i) {st : List Value} (hs : st.all (wfv n) = true) : st.map (cv z ad') = st.map (cv z ad) := List.map_congr_left (fun v hv => cv_wf h (List.all_eq_true.mp hs v hv))
theorem cl_wf {z ad ad' : Nat → Nat} {n : Nat} (h : ∀ i, i < n → ad' i = ad i) {ls : List (Nat × Value)} (hs : wfl n ls = true) : cl z ad' ls = cl z ad ls := List.map_congr_left (fun q hq => by rw [cv_wf h (List.all_eq_true.mp hs q hq)])
def upN (ad : Nat → Nat) (n q : Nat) : Nat → Nat := fun i => if i = n then q else ad i
theorem upN_lt {ad : Nat → Nat} {n q : Nat} : ∀ i, i < n → upN ad n q i = ad i := fun i h => if_neg (by omega)
theorem cw_push {z : Nat → Nat} {aC : FieldType → ClassId} {ad : Nat → Nat} {w : List EC} {q : Nat} {c : EC} (hw : wfw w.length w = true) : cw z aC (upN ad w.length q) (w ++ [c]) = cw z aC ad w ++ [(q, ce z aC (upN ad w.length q) c)] := by
  have h1 : cw z aC (upN ad w.length q) (w ++ [c]) = cw z aC (upN ad w.length q) w ++ [(upN ad w.length q w.length, ce z aC (upN ad w.length q) c)] := by
    simp [cw, List.mapIdx_append]
  rw [h1, cw_wf upN_lt hw, show upN ad w.length q w.length = q from if_pos rfl]
theorem D_DD {A : Nat → Prop} {z : Nat → Nat} {aC : FieldType → ClassId} {ad : Nat → Nat} {w : List EC} (h : va_D A (cw z aC ad w)) : DD A ad w.length :=
  ⟨fun i j hi hj e => h.1 i j _ _ (cw_get (List.getElem?_eq_getElem hi)) (cw_get (List.getElem?_eq_getElem hj)) e, fun i hi => h.2 i _ (cw_get (List.getElem?_eq_getElem hi))⟩
section JN
variable {M : JM} {d mc ms n0 pc k n : Nat} {ls : List (Nat × Value)} {st : List Value} {w : List EC} {Q : Option Value → List EC → Prop}
theorem J_newa {N : Nat} {x : Int32} {at9 : ArrayType} {ty : FieldType} {a0 : vp_A} (t : Nat) (hd : decode M.2.1 pc = .ok (.newarray at9, 2)) (hty : newarray.typeOf at9 = ty) (hca : Cond.arrayClass ty ∈ T0) (ht : ∀ aC, (tys aC)[t]? = some (aC ty, ty)) (ha : ∀ cA : ClassId, vp_cell cA a0 = arrV cA N (fun _ => defaultValue ty)) (hR : ∀ U c1 c2, va_RA U c1 ty → va_RA U c2 ty → c1 = c2) (hx : x = nI N) (hN : Nat.ble (N * componentBytes ty) 536870912 = true) (hN2 : Nat.blt N 2147483648 = true) (hw : wfw w.length w = true) (hls : wfl w.length ls = true) (hst : st.all (wfv w.length) = true) (hkm : Nat.ble (k + 1) mc = true) (hnm : Nat.ble (n + N) ms = true)
    (kk : J M d mc ms n0 (pc + 2) ls (.ref w.length :: st) (w ++ [.inl (ty, a0)]) (k + 1) (n + N) Q) : J M d mc ms n0 pc ls (.int x :: st) w k n Q := by
  intro z D aC A p l e R s m args below meth c H locs lsA ad0 ad E hn h0 hl hP hD hS
  obtain ⟨e1, e2, e3, e4, e5, hts, e7, e8, e9, hE, hA, hK⟩ := id E
  subst hx
  have hN2' : N < 2 ^ 31 := Nat.le_of_ble_eq_true hN2
  refine va_newa (ty := ty) (a0 := a0) (N' := N) e1 e2 (by rw [hty]; exact hts _ hca) hty hK hP (DD_D hD) hS hA ha (nI_pos hN2') (nI_clamp hN2') (Nat.le_of_ble_eq_true hN) (by rw [e9]; exact Nat.le_of_ble_eq_true hkm) (by rw [e9]; exact Nat.le_of_ble_eq_true hnm) hd (fun q cA H1 hK1 hP1 hD1 hS1 => ?_)
  have hcA : cA = aC ty := hR s cA (aC ty) (hK1.2 (tys aC).length (cA, ty) (by simp)).2 (hK.2 t _ (ht aC)).2
  subst hcA
  have hup : ∀ i, i < w.length → upN ad w.length q i = ad i := upN_lt
  have e10 : cw z aC (upN ad w.length q) (w ++ [.inl (ty, a0)]) = cw z aC ad w ++ [(q, .inl (aC ty, a0))] := cw_push hw
  rw [← e10] at hP1 hD1
  have := kk z D aC A p l e R s m args below meth c H1 locs lsA ad0 (upN ad w.length q) E (by rw [List.length_append, hn]; rfl) (fun i hi => by
    rw [show upN ad w.length q i = ad i from if_neg (by omega)]
    exact h0 i (by omega)) (by rw [cl_wf hup hls]; exact hl) hP1 (D_DD hD1) hS1
  rw [List.map_cons, st_wf hup hst, show cv z (upN ad w.length q) (.ref w.length) = .ref q from congrArg Value.ref (if_pos rfl)] at this
  exact this
theorem J_new {idx ci N : Nat} {C : String} {T : u_T} {ty : Nat → FieldType} {fs : List Value} (hd : decode M.2.1 pc = .ok (.new idx, 3)) (hk : kOk ci C T N ty) (hcl : Cond.classLink M.1.cls idx C ∈ T0) (hin : Cond.instantiable C N ∈ T0) (hii : Cond.initialized C ∈ T0) (hfs : ∀ j, j < N → defaultValue (ty j) = vp_V fs j) (hfc : ∀ z ad, fs.map (cv z ad) = fs) (hw : wfw w.length w = true) (hls : wfl w.length ls = true) (hst : st.all (wfv w.length) = true) (hkm : Nat.ble (k + 1) mc = true) (hnm : Nat.ble (n + N) ms = true)
    (kk : J M d mc ms n0 (pc + 3) ls (.ref w.length :: st) (w ++ [.inr (ci, fs)]) (k + 1) (n + N) Q) : J M d mc ms n0 pc ls st w k n Q := by
  intro z D aC A p l e R s m args below meth c H locs lsA ad0 ad E hn h0 hl hP hD hS
  obtain ⟨e1, e2, e3, e4, e5, hts, e7, e8, e9, hE, hA, hK⟩ := id E
  obtain ⟨h1, h2, h3, h4⟩ := hk
  refine va_new (ci := ci) (fs := fs) e1 e2 hts h2 ty h3 e5 (hts _ hcl) (hts _ hin) (hts _ hii) hK hP (DD_D hD) hS hA h1 hfs (by rw [e9]; exact Nat.le_of_ble_eq_true hkm) (by rw [e9]; exact Nat.le_of_ble_eq_true hnm) hd (fun q H1 hP1 hD1 hS1 => ?_)
  have hup : ∀ i, i < w.length → upN ad w.length q i = ad i := upN_lt
  have e10 : cw z aC (upN ad w.length q) (w ++ [.inr (ci, fs)]) = cw z aC ad w ++ [(q, .inr (ci, fs))] := by
    rw [cw_push hw]
    show _ ++ [(q, Sum.inr (ci, fs.map (cv z (upN ad w.length q))))] = _
    rw [hfc]
  rw [← e10] at hP1 hD1
  have := kk z D aC A p l e R s m args below meth c H1 locs lsA ad0 (upN ad w.length q) E (by rw [List.length_append, hn]; rfl) (fun i hi => by
    rw [show upN ad w.length q i = ad i from if_neg (by omega)]
    exact h0 i (by omega)) (by rw [cl_wf hup hls]; exact hl) hP1 (D_DD hD1) hS1
  rw [List.map_cons, st_wf hup hst, show cv z (upN ad w.length q) (.ref w.length) = .ref q from congrArg Value.ref (if_pos rfl)] at this
  exact this
end JN
/-! switches by cases -/
theorem tsw (x : Int32) (lo m : Nat) (h : lo + m < 2 ^ 31) : ((x.toInt < (lo : Int) ∨ ((lo + m : Nat) : Int) - 1 < x.toInt) ∧ ∀ j, j < m → x ≠ nI (lo + j)) ∨ ∃ j, j < m ∧ x = nI (lo + j) := by
  by_cases h1 : x.toInt < (lo : Int)
  · refine Or.inl ⟨Or.inl h1, fun j hj e => ?_⟩
    rw [e, nI_toInt (by omega)] at h1
    omega
  · by_cases h2 : ((lo + m : Nat) : Int) - 1 < x.toInt
    · refine Or.inl ⟨Or.inr h2, fun j hj e => ?_⟩
      rw [e, nI_toInt (by omega)] at h2
      omega
    · refine Or.inr ⟨(x.toInt - lo).toNat, by omega, ?_⟩
      apply Int32.toInt_inj.mp
      rw [nI_toInt (by omega)]
      omega
section JS
variable {M : JM} {d mc ms n0 pc k n : Nat} {ls : List (Nat × Value)} {st : List Value} {w : List EC} {Q : Option Value → List EC → Prop}
theorem J_tsw {dflt lo hi : Int} {offs : Array Int} {len : Nat} {x : Int32} (lo' : Nat) (tg : List Nat) (tdf : Nat) (hd : decode M.2.1 pc = .ok (.tableswitch dflt lo hi offs, len)) (hlo : lo = (lo' : Int)) (hhi : hi = ((lo' + tg.length : Nat) : Int) - 1) (hb : Nat.blt (lo' + tg.length) 2147483648 = true) (ht : offs.toList.map (fun o => (pc : Int) + o) = tg.map (fun t : Nat => (t : Int))) (htd : (pc : Int) + dflt = (tdf : Int))
    (kin : ∀ j, j < tg.length → x = nI (lo' + j) → J M d mc ms n0 (tg.getD j 0) ls st w k n Q) (kout : (∀ j, j < tg.length → x ≠ nI (lo' + j)) → J M d mc ms n0 tdf ls st w k n Q) : J M d mc ms n0 pc ls (.int x :: st) w k n Q := by
  have hb' : lo' + tg.length < 2 ^ 31 := Nat.le_of_ble_eq_true hb
  rcases tsw x lo' tg.length hb' with ⟨h1, h2⟩ | ⟨j, hj, hx⟩
  · exact J_tout hd (by rw [hlo, hhi]; exact h1) htd (kout h2)
  · have hxi : x.toInt = ((lo' + j : Nat) : Int) := by rw [hx, nI_toInt (by omega)]
    have hl := congrArg List.length ht
    simp only [List.length_map, Array.length_toList] at hl
    have hjo : j < offs.size := by omega
    have h3 : (offs.toList.map (fun o => (pc : Int) + o))[j]? = (tg.map (fun t : Nat => (t : Int)))[j]? := by rw [ht]
    rw [List.getElem?_map, List.getElem?_map, List.getElem?_eq_getElem (by simpa using hjo), List.getElem?_eq_getElem hj] at h3
    have h4 := Option.some.inj h3
    refine J_tin (off := offs[j]) (tgt := tg.getD j 0) hd (by rw [hlo, hxi]; omega) (by rw [hhi, hxi]; omega) ?_ ?_ (kin j hj hx)
    · rw [hxi, hlo, show (((lo' + j : Nat) : Int) - (lo' : Int)).toNat = j by omega]
      exact Array.getElem?_eq_getElem hjo
    · rw [List.getD, List.getElem?_eq_getElem hj]
      simpa using h4
end JS
theorem J_st {M : JM} {d mc ms n0 pc k n : Nat} {ls : List (Nat × Value)} {st : List Value} {w : List EC} {Q : Option Value → List EC → Prop} (st' : List Value) (e : st = st') (kk : J M d mc ms n0 pc ls st' w k n Q) : J M d mc ms n0 pc ls st w k n Q := e ▸ kk
theorem J_genl {M : JM} {d mc ms n0 pc k n : Nat} {ls : List (Nat × Value)} {st : List Value} {w : List EC} {Q : Option Value → List EC → Prop} {x : Int64} (kk : ∀ v, v = x → J M d mc ms n0 pc ls (.long v :: st) w k n Q) : J M d mc ms n0 pc ls (.long x :: st) w k n Q := kk x rfl
theorem J_geni {M : JM} {d mc ms n0 pc k n : Nat} {ls : List (Nat × Value)} {st : List Value} {w : List EC} {Q : Option Value → List EC → Prop} {x : Int32} (kk : ∀ v, v = x → J M d mc ms n0 pc ls (.int v :: st) w k n Q) : J M d mc ms n0 pc ls (.int x :: st) w k n Q := kk x rfl
