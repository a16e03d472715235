/-! BODIES THAT MAY THROW (own; rows by program mod_t1.py): like J, the places fixed (nothing is made but the exception), any post -/
def XE (hh : List ExceptionTableEntry) (A : Nat → Prop) (l : Launch) (s : State) (c : Code) : Prop := l.stackTraces = false ∧ EX2 A s ∧ c.exceptionTable.toList = hh
abbrev PSI : Type := (Nat → Nat) → va_G → (FieldType → ClassId) → (Nat → Prop) → (Nat → Nat) → List Frame → Array Value → State → State → Prop
def JX (M : JM) (d : Nat) (hh : List ExceptionTableEntry) (Ψ : PSI) (pc : Nat) (ls : List (Nat × Value)) (st : List Value) (w : List EC) (k n : Nat) : Prop :=
  ∀ (z : Nat → Nat) (D : va_G) (aC : FieldType → ClassId) (A : Nat → Prop) (p : Program) (l : Launch) (e : Env) (R : Room) (s : State) (m : MethodId) (args : Array Value) (below : List Frame) (meth : Method) (c : Code) (H : Heap) (locs : List Loc) (lsA : Array Slot) (ad : Nat → Nat),
    JE M d 1 6 z D aC A p R s m args meth c → XE hh A l s c → lv_has lsA M.2.2.1 (cl z ad ls) → va_P D cls0 (cw z aC ad w) H → DD A ad w.length → va_S A s.heap H locs →
    W p l e R s m args below meth c H locs k n (Ψ z D aC A ad below args s) (F0 m pc lsA (st.map (cv z ad)))
section XR
variable {M : JM} {d pc k n : Nat} {hh : List ExceptionTableEntry} {Ψ : PSI} {ls : List (Nat × Value)} {st : List Value} {w : List EC}
theorem X_iconst {i : Int} {v : Int32} (hd : decode M.2.1 pc = .ok (.iconst i, 1)) (hv : Int32.ofInt i = v) (kk : JX M d hh Ψ (pc + 1) ls (.int v :: st) w k n) : JX M d hh Ψ (pc) ls (st) w k n := by
  intro z D aC A p l e R s m args below meth c H locs lsA ad E X hl hP hD hS
  exact lv_iconst E.1 E.2.1 hd hv (kk z D aC A p l e R s m args below meth c H locs lsA ad E X hl hP hD hS)
theorem X_iload_n {j : Fin 4} {x : Int32} (hd : decode M.2.1 pc = .ok (.iload_n j, 1)) (hx : lk ls (j : Nat) = some (.int x)) (kk : JX M d hh Ψ (pc + 1) ls (.int x :: st) w k n) : JX M d hh Ψ (pc) ls (st) w k n := by
  intro z D aC A p l e R s m args below meth c H locs lsA ad E X hl hP hD hS
  exact lv_iload_n E.1 E.2.1 hd rfl (lk_has hl hx) (kk z D aC A p l e R s m args below meth c H locs lsA ad E X hl hP hD hS)
theorem X_iload {j : Nat} {x : Int32} (hd : decode M.2.1 pc = .ok (.iload j, 2)) (hx : lk ls j = some (.int x)) (kk : JX M d hh Ψ (pc + 2) ls (.int x :: st) w k n) : JX M d hh Ψ (pc) ls (st) w k n := by
  intro z D aC A p l e R s m args below meth c H locs lsA ad E X hl hP hD hS
  exact lv_iload E.1 E.2.1 hd (lk_has hl hx) (kk z D aC A p l e R s m args below meth c H locs lsA ad E X hl hP hD hS)
theorem X_aload_n {j : Fin 4} {x : Nat} (hd : decode M.2.1 pc = .ok (.aload_n j, 1)) (hx : lk ls (j : Nat) = some (.ref x)) (kk : JX M d hh Ψ (pc + 1) ls (.ref x :: st) w k n) : JX M d hh Ψ (pc) ls (st) w k n := by
  intro z D aC A p l e R s m args below meth c H locs lsA ad E X hl hP hD hS
  exact lv_aload_n E.1 E.2.1 hd rfl (lk_has hl hx) (kk z D aC A p l e R s m args below meth c H locs lsA ad E X hl hP hD hS)
theorem X_aload {j : Nat} {x : Nat} (hd : decode M.2.1 pc = .ok (.aload j, 2)) (hx : lk ls j = some (.ref x)) (kk : JX M d hh Ψ (pc + 2) ls (.ref x :: st) w k n) : JX M d hh Ψ (pc) ls (st) w k n := by
  intro z D aC A p l e R s m args below meth c H locs lsA ad E X hl hP hD hS
  exact lv_aload E.1 E.2.1 hd (lk_has hl hx) (kk z D aC A p l e R s m args below meth c H locs lsA ad E X hl hP hD hS)
theorem X_i2l {x : Int32} (hd : decode M.2.1 pc = .ok (.i2l, 1)) (kk : JX M d hh Ψ (pc + 1) ls (.long x.toInt64 :: st) w k n) : JX M d hh Ψ (pc) ls (.int x :: st) w k n := by
  intro z D aC A p l e R s m args below meth c H locs lsA ad E X hl hP hD hS
  exact lv_i2l E.1 E.2.1 hd rfl (kk z D aC A p l e R s m args below meth c H locs lsA ad E X hl hP hD hS)
theorem X_if_ne {x : Int32} {off : Int} {tgt : Nat} (hd : decode M.2.1 pc = .ok (.ifCond .ne off, 3)) (ht : (pc : Int) + off = (tgt : Int)) (kt : ¬ x = 0 → JX M d hh Ψ (tgt) ls (st) w k n) (kf : x = 0 → JX M d hh Ψ (pc + 3) ls (st) w k n) : JX M d hh Ψ (pc) ls (.int x :: st) w k n := by
  intro z D aC A p l e R s m args below meth c H locs lsA ad E X hl hP hD hS
  exact lv_if_ne E.1 E.2.1 hd ht (fun hc => kt hc z D aC A p l e R s m args below meth c H locs lsA ad E X hl hP hD hS) (fun hc => kf hc z D aC A p l e R s m args below meth c H locs lsA ad E X hl hP hD hS)
theorem X_goto {off : Int} {tgt : Nat} (hd : decode M.2.1 pc = .ok (.goto off, 3)) (ht : (pc : Int) + off = (tgt : Int)) (kk : JX M d hh Ψ (tgt) ls (st) w k n) : JX M d hh Ψ (pc) ls (st) w k n := by
  intro z D aC A p l e R s m args below meth c H locs lsA ad E X hl hP hD hS
  exact lv_goto E.1 E.2.1 hd ht (kk z D aC A p l e R s m args below meth c H locs lsA ad E X hl hP hD hS)
theorem X_tout {dflt lo hi : Int} {offs : Array Int} {len : Nat} {x : Int32} {tgt : Nat} (hd : decode M.2.1 pc = .ok (.tableswitch dflt lo hi offs, len)) (h : x.toInt < lo ∨ hi < x.toInt) (ht : (pc : Int) + dflt = (tgt : Int)) (kk : JX M d hh Ψ (tgt) ls (st) w k n) : JX M d hh Ψ (pc) ls (.int x :: st) w k n := by
  intro z D aC A p l e R s m args below meth c H locs lsA ad E X hl hP hD hS
  exact lv_tableOut E.1 E.2.1 hd h ht (kk z D aC A p l e R s m args below meth c H locs lsA ad E X hl hP hD hS)
theorem X_last {i N b : Nat} {f : Nat → Int64} {j : Int32} {x : Int64} (hd : decode M.2.1 pc = .ok (.lastore, 1)) (hw : w[i]? = some (.inl (.long, N, .inr (.inl f)))) (hj : j = nI b) (hb : b < N) (hN : Nat.blt N 2147483648 = true) (kk : JX M d hh Ψ (pc + 1) ls st (w.set i (.inl (.long, N, .inr (.inl (vp_updL f b x))))) k n) : JX M d hh Ψ pc ls (.long x :: .int j :: .ref i :: st) w k n := by
  intro z D aC A p l e R s m args below meth c H locs lsA ad E X hl hP hD hS
  have hN' : N < 2 ^ 31 := Nat.le_of_ble_eq_true hN
  subst hj
  refine va_last E.1 E.2.1 E.2.2.2.2.2.2.2.2.2.2.2 hP (DD_D hD) hS i 3 (cw_get hw) rfl (vp_in_nI hb hN') hd (fun H1 locs1 g1 g2 g3 => ?_)
  rw [nI_clamp (Nat.lt_trans hb hN')] at g1
  rw [show (cw z aC ad w).set i (ad i, .inl (aC .long, N, .inr (.inl (vp_updL f b x)))) = cw z aC ad (w.set i (.inl (.long, N, .inr (.inl (vp_updL f b x))))) by rw [← cw_set]; rfl] at g1
  exact kk z D aC A p l e R s m args below meth c H1 locs1 lsA ad E X hl g1 (by rw [List.length_set]; exact hD) g3
section XA
variable {z : Nat → Nat} {D : va_G} {aC : FieldType → ClassId} {A : Nat → Prop} {p : Program} {l : Launch} {e : Env} {R : Room} {s : State} {m : MethodId} {args : Array Value} {below : List Frame} {meth : Method} {c : Code} {H : Heap} {locs : List Loc} {lsA : Array Slot} {ad : Nat → Nat}
theorem X_after {ρ : Nat → Nat} {wc : List EC} {Qc : Option Value → List EC → Prop} {a : Array Value} {st0 : List Value} {rest : List Value} (hs : SubF w ρ wc)
    (E : JE M d 1 6 z D aC A p R s m args meth c) (X : XE hh A l s c) (hl : lv_has lsA M.2.2.1 (cl z ad ls)) (hP : va_P D cls0 (cw z aC ad w) H) (hD : DD A ad w.length) (hS : va_S A s.heap H locs)
    (hr : va_Run p l e R s m args below meth c H locs k n 0 0 (F0 m pc lsA st0) (rest.map (cv z ad)) (JQ z D aC (va_A (cw z aC (fun k => ad (ρ k)) wc) H.size) (fun k => ad (ρ k)) wc.length 0 Qc a) (va_A (cw z aC (fun k => ad (ρ k)) wc) H.size))
    (kk : ∀ r w', Qc r w' → w'.length = wc.length → ∃ w2, PutF w ρ w' w2 ∧ JX M d hh Ψ (pc + 3) ls ((r.map (rvF ρ)).toList ++ rest) w2 k n) :
    W p l e R s m args below meth c H locs k n (Ψ z D aC A ad below args s) (F0 m pc lsA st0) := by
  intro T hT XX
  obtain ⟨v, st₀, t, T', L, e0, X', hL, e1, e2, ⟨⟨r, w', ad', hv, hq, hag, hlen, hP', hD'⟩, hF⟩, st⟩ := hr T hT XX
  have ha : ad' = fun k => ad (ρ k) := funext fun i => hag i (by omega)
  subst ha
  obtain ⟨w2, ⟨p1, p2, p3⟩, kj⟩ := kk r w' hq hlen
  have hv' : v = r.map (cv z fun k => ad (ρ k)) := by injection hv
  have hsub : ∀ q, va_A (cw z aC (fun k => ad (ρ k)) wc) H.size q → A q := hs.aa hD E.2.2.2.2.2.2.2.2.2.2.1 hS
  obtain ⟨hF1, hF2⟩ := (⟨hF.1, hF.2⟩ : st₀.heap.size ≤ t.heap.size ∧ ∀ q : Nat, q < st₀.heap.size → ¬ va_A (cw z aC (fun k => ad (ρ k)) wc) H.size q → t.heap[q]? = st₀.heap[q]?)
  have hP1 : va_P D cls0 (cw z aC ad w2) T'.heap := by
    intro i q hi
    obtain ⟨c1, h1, rfl⟩ := cw_of hi
    by_cases hx : ∃ k1, k1 < w'.length ∧ ρ k1 = i
    · obtain ⟨k1, g1, rfl⟩ := hx
      have g2 := p2 k1 _ (List.getElem?_eq_getElem g1)
      rw [h1] at g2
      rw [Option.some.inj g2, ce_rc, e1]
      exact hP' k1 _ (cw_get (List.getElem?_eq_getElem g1))
    · have g1 := p3 i (fun k1 hk1 e9 => hx ⟨k1, hk1, e9⟩)
      rw [h1] at g1
      have h4 := hP i _ (cw_get g1.symm)
      refine h4.kept ?_
      have hlt := h4.lt
      rw [e1, hF2 _ (by rw [e0]; exact hlt), e0]
      rintro (⟨k1, e9, hk1⟩ | hge)
      · obtain ⟨c2, g5, g2⟩ := cw_of hk1
        have g3 : ad i = ad (ρ k1) := congrArg Prod.fst g2
        have g6 := (List.getElem?_eq_some_iff.mp g5).1
        have := hD.1 _ _ (List.getElem?_eq_some_iff.mp g1.symm).1 (hs.lt g6) g3
        exact hx ⟨k1, by omega, this.symm⟩
      · exact absurd hlt (Nat.not_lt.mpr hge)
  have hst : v.toList ++ rest.map (cv z ad) = ((r.map (rvF ρ)).toList ++ rest).map (cv z ad) := by
    rw [hv']
    cases r with
    | none => simp
    | some x => simp [cv_rv]
  obtain ⟨t2, a1, b1⟩ := kj z D aC A p l e R s m args below meth c T'.heap (locs ++ L) lsA ad E X hl hP1 (by rw [p1]; exact hD)
    ⟨Nat.le_trans hS.1 (by rw [e1, ← e0]; exact hF1), fun q h1 h2 => by rw [e1, hF2 q (by rw [e0]; exact Nat.lt_of_lt_of_le h1 hS.1) (fun h => h2 (hsub q h)), e0]; exact hS.2.1 q h1 h2, fun q hq => by
      rcases List.mem_append.mp hq with h | h
      · exact hS.2.2 q h
      · exact hsub _ (hL q h)⟩ T' rfl X'
  refine ⟨t2, st t2 ?_, b1⟩
  rw [hst]
  exact a1
end XA
theorem X_gV {idx ci na dc : Nat} {Mc : JM} {fs : List Value} {ac : List Value} {ρ : Nat → Nat} {wc : List EC} {Qc : Option Value → List EC → Prop} {rest : List Value}
    (hd : decode M.2.1 pc = .ok (.invokevirtual idx, 3)) (hm : MV Mc na) (hk : Cond.methodLink M.1.cls idx Mc.1 ∈ T0) (hT : Tr dc 0 0 Mc (.ref 0 :: ac) wc Qc) (hdc : dc + 1 ≤ d) (hc : (cls0[ci]?).map (fun q => q.1) = some Mc.1.cls) (hw0 : wc[0]? = some (.inr (ci, fs)))
    (hs : SubF w ρ wc) (hna : ac.length = na) (hst : st = (ac.map (rvF ρ)).reverse ++ .ref (ρ 0) :: rest) (hro : Nat.ble (rest.map (fun v => v.category)).sum 8 = true) (hkm : Nat.ble k 1 = true) (hnm : Nat.ble n 6 = true)
    (kk : ∀ r w', Qc r w' → w'.length = wc.length → ∃ w2, PutF w ρ w' w2 ∧ JX M d hh Ψ (pc + 3) ls ((r.map (rvF ρ)).toList ++ rest) w2 k n) : JX M d hh Ψ pc ls st w k n := by
  intro z D aC A p l e R s m args below meth c H locs lsA ad E X hl hP hD hS
  obtain ⟨e1, e2, e3, e4, e5, hts, e7, e8, e9, hE, hA, hK⟩ := id E
  have hM := hT l z D aC (fun i => ad (ρ i)) H.size
  obtain ⟨hmc, hmi, hms⟩ := hm
  cases hq : cls0[ci]? with
  | none => rw [hq] at hc; cases hc
  | some q =>
    rw [hq] at hc
    have hcq : q.1 = Mc.1.cls := Option.some.inj hc
    refine X_after (st0 := st.map (cv z ad)) (rest := rest) hs E X hl hP hD hS (va_runV (bytes := Mc.2.1) (maxL := Mc.2.2.1) (ret := Mc.2.2.2) (own := M.1.cls) (C := Mc.1.cls) (As := ac.map (cv z (fun i => ad (ρ i)))) (b := ad (ρ 0)) ⟨e1, e2, e4, e5, hts⟩ hM ?_ ?_ rfl ((List.length_map _).trans hna) hl.1 ?_ ?_ hd ?_) kk
    · refine ⟨callB_of na hts hmc.good rfl rfl rfl (hts _ hmc.2.1) (hts _ hk) hmc.2.2.1 ?_, hts _ hmi, hts _ hms⟩
      have := hmc.2.2.2
      rw [e9]
      exact ⟨hdc, by show 8 + (Mc.2.2.1 + 11) + 60 * dc ≤ 60 * d; omega⟩
    · refine ⟨Tr.blind, ?_, fun U hU hW => ⟨rfl, by rw [hU], by rw [hU]; exact hs.pp hP, va_K.moved hW.alike hK, ⟨(hs.dd hD).1, fun _ _ => trivial⟩, hE.call hS hU hW (hs.aa hD hA hS)⟩⟩
      rw [← hcq]
      exact va_recv hK (hs.pp hP) hq (cw_get hw0)
    · show st.map (cv z ad) = _
      rw [hst, List.map_append, List.map_reverse, cv_rvs]
      rfl
    · exact lv_room (by rw [cv_cats]; exact Nat.le_of_ble_eq_true hro)
    · rw [e9]
      exact ⟨Nat.le_of_ble_eq_true hkm, Nat.le_of_ble_eq_true hnm⟩
/-- a read-only call on the same world's front -/
theorem X_gR {idx ci na dc : Nat} {Mc : JM} {fs : List Value} {ac : List Value} {wc ws : List EC} {v : Value} {rest : List Value}
    (hd : decode M.2.1 pc = .ok (.invokevirtual idx, 3)) (hm : MV Mc na) (hk : Cond.methodLink M.1.cls idx Mc.1 ∈ T0) (hT : TR dc Mc (.ref 0 :: ac) wc v) (hdc : dc + 1 ≤ d) (hc : (cls0[ci]?).map (fun q => q.1) = some Mc.1.cls) (hw0 : wc[0]? = some (.inr (ci, fs)))
    (hw : w = wc ++ ws) (hna : ac.length = na) (hst : st = ac.reverse ++ .ref 0 :: rest) (hro : Nat.ble (rest.map (fun v => v.category)).sum 8 = true) (hkm : Nat.ble k 1 = true) (hnm : Nat.ble n 6 = true)
    (kk : JX M d hh Ψ (pc + 3) ls (v :: rest) w k n) : JX M d hh Ψ pc ls st w k n := by
  subst hw
  refine X_gV hd hm hk hT hdc hc hw0 (SubF.pre wc ws) hna (by rw [rvs_id]; exact hst) hro hkm hnm (fun r w' hq hl => ⟨w' ++ ws, PutF.pre hl, ?_⟩)
  obtain ⟨rfl, rfl⟩ := hq
  show JX M d hh Ψ (pc + 3) ls (rvF (fun k => k) v :: rest) (w' ++ ws) k n
  rw [rvF_id]
  exact kk
/-- a method that throws E9: nothing else has changed -/
def Xr (E9 : String) (d : Nat) (Mc : JM) (av : List Value) (w : List EC) : Prop :=
  ∀ (l : Launch), l.stackTraces = false → ∀ (z : Nat → Nat) (D : va_G) (aC : FieldType → ClassId) (ad : Nat → Nat) (sz : Nat),
    vx_Met l Mc.1 (.code Mc.1 Mc.2.1 Mc.2.2.1 Mc.2.2.2 :: T0) (jr d 1 6) (va_Pc (av.map (cv z ad)) (fun U => U.heap.size = sz ∧ va_P D cls0 (cw z aC ad w) U.heap ∧ va_K D cls0 (tys aC) U ∧ DD (fun _ => True) ad w.length ∧ EX z (va_A (cw z aC ad w) sz) U ∧ EX2 (va_A (cw z aC ad w) sz) U))
      (fun _ _ _ _ => False) (fun E' st t => E' = E9 ∧ va_P D cls0 (cw z aC ad w) t.heap ∧ va_F (va_A (cw z aC ad w) sz) st t) 1 6 (va_A (cw z aC ad w) sz)
theorem Xr.blind {z : Nat → Nat} {D : va_G} {aC : FieldType → ClassId} {ad : Nat → Nat} {sz : Nat} {av : List Value} {w : List EC} {B : Nat → Prop} : FrameBlind (va_Pc av (fun U => U.heap.size = sz ∧ va_P D cls0 (cw z aC ad w) U.heap ∧ va_K D cls0 (tys aC) U ∧ DD (fun _ => True) ad w.length ∧ EX z B U ∧ EX2 B U)) := by
  rintro a U g mk ⟨q0, q1, q2, q3, q4, q5, q6⟩
  exact ⟨q0, q1, q2, va_K.moved (u := U) (U := U.calling g mk a) (Vm.Alike.refl U.vm) q3, q4, q5.blind, q6.blind⟩
def PX9 (E9 : String) (w : List EC) : PSI := fun z D aC A ad below args s => vx_MQ below (fun _ _ _ _ => False) (fun E' st t => E' = E9 ∧ va_P D cls0 (cw z aC ad w) t.heap ∧ va_F A st t) args s 1 6 A
theorem Xr.intro {E9 : String} {Mc : JM} {av : List Value} (hy : plainName Mc.1.cls = true) (hl : Nat.ble (lg_sl av).length Mc.2.2.1 = true) (h : JX Mc d [] (PX9 E9 w) 0 (lv_args 0 av) [] w 0 0) : Xr E9 d Mc av w := by
  intro l hst z D aC ad sz
  refine vx_ofW (cc := Mc.2.1) (maxL := Mc.2.2.1) (ret := Mc.2.2.2) hy rfl ?_
  intro p e s m args below meth c s₁ B hml htab hv
  obtain ⟨rfl, hsz, hP, hK, hD, hE, hE2⟩ := hv
  have hts := atoms_spec (ws := .code Mc.1 Mc.2.1 Mc.2.2.1 Mc.2.2.2 :: T0) B.pre
  subst hsz
  have hA : ∀ q : Nat, s.heap.size ≤ q → va_A (cw z aC ad w) s.heap.size q := fun q h => Or.inr h
  have hD' : DD (va_A (cw z aC ad w) s.heap.size) ad w.length := ⟨hD.1, fun i hi => Or.inl ⟨i, ce z aC ad w[i], cw_get (List.getElem?_eq_getElem hi)⟩⟩
  have hlen : (lg_sl (av.map (cv z ad))).length ≤ Mc.2.2.1 := by rw [cl_sl]; exact Nat.le_of_ble_eq_true hl
  have hls := lv_entry (av.map (cv z ad)) (n := Mc.2.2.1) hlen
  rw [lg_entry_eq]
  rw [cl_args] at hls
  exact h z D aC _ p l e _ s m _ below meth c s.heap [] _ ad ⟨B.exec, B.bytes, B.returns, hml, findClass_of_methodNamed B.named, fun w hw => hts w (List.mem_cons_of_mem _ hw), B.notSynchronized, (name_of_methodNamed B.named B.method).1, rfl, hE, hA, hK⟩ ⟨hst, hE2, List.eq_nil_iff_forall_not_mem.mpr (fun x hx => htab x hx)⟩ hls hP hD' va_S.rf
/-- a call that throws, caught here by the row x -/
theorem X_gVX {idx ci na dc j : Nat} {Mc : JM} {fs : List Value} {ac : List Value} {ρ : Nat → Nat} {wc : List EC} {rest : List Value} {E9 name : String} (pre : List ExceptionTableEntry) (x : ExceptionTableEntry) (suf : List ExceptionTableEntry)
    (hd : decode M.2.1 pc = .ok (.invokevirtual idx, 3)) (hm : MV Mc na) (hk : Cond.methodLink M.1.cls idx Mc.1 ∈ T0) (hT : Xr E9 dc Mc (.ref 0 :: ac) wc) (hdc : dc + 1 ≤ d) (hc : (cls0[ci]?).map (fun q => q.1) = some Mc.1.cls) (hw0 : wc[0]? = some (.inr (ci, fs)))
    (hs : SubF w ρ wc) (hna : ac.length = na) (hst : st = (ac.map (rvF ρ)).reverse ++ .ref (ρ 0) :: rest) (hro : Nat.ble (rest.map (fun v => v.category)).sum 8 = true)
    (hsplit : hh = pre ++ x :: suf) (hpass : ∀ (A : Nat → Prop) (s : State) (args : Array Value), EX2 A s → (∀ w ∈ T0, w.before args s = true) → ∀ z ∈ pre, covers z pc = false ∨ (z.catchType ≠ 0 ∧ ∃ nm : String, (Cond.classLink M.1.cls z.catchType nm).before args s = true ∧ va_Nc E9 nm s))
    (hx : covers x pc = true) (h0 : x.catchType ≠ 0) (hlink : Cond.classLink M.1.cls x.catchType name ∈ T0) (hcast : Cond.castable E9 name ∈ N2) (hdA : decode M.2.1 x.handlerPc = .ok (.astore j, 2)) (hj : j < M.2.2.1)
    (kk : JX M d hh Ψ (x.handlerPc + 2) [] [] w 1 6) : JX M d hh Ψ pc ls st w 0 0 := by
  intro z D aC A p l e R s m args below meth c H locs lsA ad E X hl hP hD hS
  obtain ⟨e1, e2, e3, e4, e5, hts, e7, e8, e9, hE, hA, hK⟩ := id E
  obtain ⟨hst9, hE2, htab⟩ := id X
  have hM := hT l hst9 z D aC (fun i => ad (ρ i)) H.size
  obtain ⟨hmc, hmi, hms⟩ := hm
  cases hq : cls0[ci]? with
  | none => rw [hq] at hc; cases hc
  | some q =>
    rw [hq] at hc
    have hcq : q.1 = Mc.1.cls := Option.some.inj hc
    have hr : vx_Run p l e R s m args below meth c H locs 0 0 1 6 (F0 m pc lsA (st.map (cv z ad))) (rest.map (cv z ad)) (fun _ _ _ => False) (fun E' st t => E' = E9 ∧ va_P D cls0 (cw z aC (fun i => ad (ρ i)) wc) t.heap ∧ va_F (va_A (cw z aC (fun i => ad (ρ i)) wc) H.size) st t) (va_A (cw z aC (fun i => ad (ρ i)) wc) H.size) := by
      refine vx_runV (bytes := Mc.2.1) (maxL := Mc.2.2.1) (ret := Mc.2.2.2) (own := M.1.cls) (C := Mc.1.cls) (As := ac.map (cv z (fun i => ad (ρ i)))) (b := ad (ρ 0)) ⟨e1, e2, e4, e5, hts⟩ hM ?_ ?_ rfl ((List.length_map _).trans hna) hl.1 ?_ ?_ hd ?_
      · refine ⟨callB_of na hts hmc.good rfl rfl rfl (hts _ hmc.2.1) (hts _ hk) hmc.2.2.1 ?_, hts _ hmi, hts _ hms⟩
        have := hmc.2.2.2
        rw [e9]
        exact ⟨hdc, by show 8 + (Mc.2.2.1 + 11) + 60 * dc ≤ 60 * d; omega⟩
      · refine ⟨Xr.blind, ?_, fun U hU hW => ⟨rfl, by rw [hU], by rw [hU]; exact hs.pp hP, va_K.moved hW.alike hK, ⟨(hs.dd hD).1, fun _ _ => trivial⟩, hE.call hS hU hW (hs.aa hD hA hS), hE2.call hS hU hW (hs.aa hD hA hS)⟩⟩
        rw [← hcq]
        exact va_recv hK (hs.pp hP) hq (cw_get hw0)
      · show st.map (cv z ad) = _
        rw [hst, List.map_append, List.map_reverse, cv_rvs]
        rfl
      · exact lv_room (by rw [cv_cats]; exact Nat.le_of_ble_eq_true hro)
      · rw [e9]
        exact ⟨Nat.le_refl 1, Nat.le_refl 6⟩
    intro T hT9 XX
    rcases hr T hT9 XX with ⟨v, st₀, t, T', L, -, -, -, -, -, hF0, -⟩ | ⟨q, st₀, t, T', L, E', ce, e0, X', hL, g1, g2, ⟨rfl, hP', hF⟩, hce, hcv, hcl, stp⟩
    · exact hF0.elim
    · have hsub : ∀ q, va_A (cw z aC (fun k => ad (ρ k)) wc) H.size q → A q := hs.aa hD hA hS
      obtain ⟨hF1, hF2⟩ := (⟨hF.1, hF.2⟩ : st₀.heap.size ≤ t.heap.size ∧ ∀ q : Nat, q < st₀.heap.size → ¬ va_A (cw z aC (fun k => ad (ρ k)) wc) H.size q → t.heap[q]? = st₀.heap[q]?)
      have hP1 : va_P D cls0 (cw z aC ad w) T'.heap := by
        intro i q hi
        obtain ⟨c1, h1, rfl⟩ := cw_of hi
        by_cases hx : ∃ k1, k1 < wc.length ∧ ρ k1 = i
        · obtain ⟨k1, g1', rfl⟩ := hx
          have g2' := hs.1 k1 _ (List.getElem?_eq_getElem g1')
          rw [h1] at g2'
          rw [Option.some.inj g2', ce_rc, g1]
          exact hP' k1 _ (cw_get (List.getElem?_eq_getElem g1'))
        · have h4 := hP i _ (cw_get h1)
          refine h4.kept ?_
          have hlt := h4.lt
          rw [g1, hF2 _ (by rw [e0]; exact hlt), e0]
          rintro (⟨k1, e9', hk1⟩ | hge)
          · obtain ⟨c2, g5, g2'⟩ := cw_of hk1
            have g3 : ad i = ad (ρ k1) := congrArg Prod.fst g2'
            have g6 := (List.getElem?_eq_some_iff.mp g5).1
            have := hD.1 _ _ (List.getElem?_eq_some_iff.mp h1).1 (hs.lt g6) g3
            exact hx ⟨k1, by omega, this.symm⟩
          · exact absurd hlt (Nat.not_lt.mpr hge)
      have hS1 : va_S A s.heap T'.heap (locs ++ L) :=
        ⟨Nat.le_trans hS.1 (by rw [g1, ← e0]; exact hF1), fun q h1 h2 => by rw [g1, hF2 q (by rw [e0]; exact Nat.lt_of_lt_of_le h1 hS.1) (fun h => h2 (hsub q h)), e0]; exact hS.2.1 q h1 h2, fun q hq => by
          rcases List.mem_append.mp hq with h | h
          · exact hS.2.2 q h
          · exact hsub _ (hL q h)⟩
      have hw9 : vx_W p l e R s m args below meth c T'.heap (locs ++ L) (0 + 1) (0 + 6) (Ψ z D aC A ad below args s) (F0 m pc lsA (rest.map (cv z ad))) q :=
        vx_catch e5 pre x suf (htab.trans hsplit) (hpass A s args hE2 hts) hx h0 (hts _ hlink) (va_Nw.use rfl (hE2.2.2.2 _ hcast)) (by rw [g1]; exact hce) hcv hcl
          (lv_astore e1 e2 hdA hl hj rfl (fun ls' hl' => kk z D aC A p l e R s m args below meth c T'.heap (locs ++ L) ls' ad E X (hl'.less (fun _ h => nomatch h)) hP1 hD hS1))
      obtain ⟨t2, a1, b1⟩ := hw9 T' rfl X'
      exact ⟨t2, stp.trans a1, b1⟩
/-- the end of a body that returns, whatever was made -/
def PR9 (n0 : Nat) (Q : Option Value → List EC → Prop) : PSI := fun z D aC A ad below args s => MQ below (JQ z D aC A ad n0 0 Q) args s 1 6 A
theorem X_iret {n0 : Nat} {Q : Option Value → List EC → Prop} {x : Int32} (hd : decode M.2.1 pc = .ok (.ireturn, 1)) (hr : M.2.2.2 = some .int) (hq : Q (some (.int x)) w) (hn : w.length = n0) (hk : Nat.ble k 1 = true) (hm : Nat.ble n 6 = true) : JX M d hh (PR9 n0 Q) pc ls [.int x] w k n := by
  intro z D aC A p l e R s m args below meth c H locs lsA ad E X hl hP hD hS
  refine W.widen (Nat.le_of_ble_eq_true hk) (Nat.le_of_ble_eq_true hm) ?_
  exact W.iret E.1 E.2.1 (E.2.2.1.trans hr) (fun t ht _ => J_end (r := some (.int x)) (mc := 0) hq hn (fun _ _ => rfl) hP hD hS t ht) hS.2.2 hd E.2.2.2.2.2.2.1
end XR
theorem ix7 {w : Int32} (h : ¬ ixB 7 w = true) : w.toInt < 0 ∨ 6 < w.toInt := by
  rcases tsw w 0 7 (by decide) with ⟨h1, -⟩ | ⟨j, hj, e⟩
  · rcases h1 with h1 | h1
    · exact Or.inl h1
    · exact Or.inr (by omega)
  · exact absurd (by rw [e]; have : j = 0 ∨ j = 1 ∨ j = 2 ∨ j = 3 ∨ j = 4 ∨ j = 5 ∨ j = 6 := by omega
                     rcases this with rfl | rfl | rfl | rfl | rfl | rfl | rfl <;> decide) h

/-! bottle() of the class: the words of its two throws -/
def at1 : List Cond := vx_atS "TemperCellar" 138 "java/lang/IndexOutOfBoundsException" ["java/lang/RuntimeException", "java/lang/Exception"]
def at2 : List Cond := (vy_at "TemperCellar" 166 "java/util/NoSuchElementException" 13 prog_29_method_4_code "java/lang/RuntimeException" ["java/lang/Exception"]).filter vx_no
set_option maxRecDepth 100000 in
theorem at1_t : ∀ w ∈ at1.filter goodWord, w ∈ T0 := T0_sub [18, 1152, 1161, 1164, 1167, 1169, 1153, 1154, 31, 32, 1155, 1160, 1165, 1185, 1142, 1186, 1144, 1187, 1146, 1156, 1158, 1148, 1181, 1182, 1184, 1148, 1172, 1173, 1174, 1175, 1175, 1176, 1177, 1178, 1178, 1179, 1180, 1181, 1171, 1131, 1139, 1140, 1141, 1143, 1145, 1147, 1151, 1150, 1149] (by decide +kernel) (by decide +kernel)
set_option maxRecDepth 100000 in
theorem at2_t : ∀ w ∈ at2.filter goodWord, w ∈ T0 := T0_sub [18, 1152, 1161, 1164, 1167, 1169, 1153, 1154, 31, 32, 1155, 1160, 1165, 1185, 1142, 1186, 1144, 1187, 1146, 1156, 1158, 1148, 1181, 1182, 1184, 1148, 1207, 1208, 1209, 1175, 1175, 1176, 1177, 1178, 1178, 1179, 1180, 1181, 1206, 1197, 1199, 1163, 1200, 1201, 1202, 1203, 1151, 1150, 1204] (by decide +kernel) (by decide +kernel)
theorem at1_n : ∀ w ∈ at1.filter (fun w => !goodWord w), w ∈ N2 := by decide +kernel
theorem at2_n : ∀ w ∈ at2.filter (fun w => !goodWord w), w ∈ N2 := by decide +kernel
theorem at1_o : ∀ w ∈ Cond.classLink "TemperCellar" 134 "java/lang/IndexOutOfBoundsException" :: Cond.initialized "java/lang/IndexOutOfBoundsException" :: at1, vx_ot w = true := by decide +kernel
theorem at2_o : ∀ w ∈ Cond.classLink "TemperCellar" 162 "java/util/NoSuchElementException" :: Cond.initialized "java/util/NoSuchElementException" :: at2, vx_ot w = true := by decide +kernel
theorem at_h {L : List Cond} (ht : ∀ w ∈ L.filter goodWord, w ∈ T0) (hn : ∀ w ∈ L.filter (fun w => !goodWord w), w ∈ N2) {A : Nat → Prop} {args : Array Value} {s : State} (hts : ∀ w ∈ T0, w.before args s = true) (hE2 : EX2 A s) : ∀ w ∈ L, w.before args s = true :=
  vx_hat (B := N2) (fun w hw => hts w (ht w hw)) hn (fun w hw => va_Nw.use (N2_onT hw) (hE2.2.2.2 w hw))
theorem xc_of {z : Nat → Nat} {D : va_G} {aC : FieldType → ClassId} {A : Nat → Prop} {ad : Nat → Nat} {w : List EC} {s : State} {H : Heap} {locs : List Loc} {E9 : String} (hP : va_P D cls0 (cw z aC ad w) H) (hS : va_S A s.heap H locs) (t : State) (_ : s.vm.Alike t.vm) (h1 : H.size ≤ t.heap.size) (h2 : ∀ q : Nat, q < H.size → t.heap[q]? = H[q]?) : E9 = E9 ∧ va_P D cls0 (cw z aC ad w) t.heap ∧ va_F A s t :=
  ⟨rfl, fun i q hi => (hP i q hi).kept (h2 _ (hP i q hi).lt), Nat.le_trans hS.1 h1, fun q g1 g2 => (h2 q (Nat.lt_of_lt_of_le g1 hS.1)).trans (hS.2.1 q g1 g2)⟩
theorem X_throw1 {d : Nat} {ls : List (Nat × Value)} {w : List EC} : JX m9_bottle (d + 6) [] (PX9 "java/lang/IndexOutOfBoundsException" w) 8 ls [] w 0 0 := by
  intro z D aC A p l e R s m args below meth c H locs lsA ad E X hl hP hD hS
  obtain ⟨e1, e2, e3, e4, e5, hts, e7, e8, e9, hE, hA, hK⟩ := id E
  obtain ⟨hst9, hE2, htab⟩ := id X
  exact vx_throwS (names := ["java/lang/RuntimeException", "java/lang/Exception"]) (own := "TemperCellar") (cls := "java/lang/IndexOutOfBoundsException") (text := "no such bottle") (sa := z 1) (A := A) e1 e2 hst9 e5 (by decide +kernel) (by decide +kernel) (hts _ t1130) (hts _ t21) (hE.2.2.1 1 _ rfl) (at_h at1_t at1_n hts hE2) at1_o hE2.1 hE2.2.1 hS (hl.1.trans e4.symm)
    D9_bottle_8 D9_bottle_11 D9_bottle_12 D9_bottle_14 D9_bottle_17 (by rw [htab]; intro x hx; cases hx) (by rw [e9]; show 2 + 3 < d + 6; omega) (by rw [e9]; show 0 + (13 * (2 + 1) + 43) ≤ 60 * (d + 6); omega) (by rw [e9]; exact Nat.le_refl 1) (by rw [e9]; exact Nat.le_refl 6) e7
    (xc_of hP hS) hS.2.2 (Nat.le_refl 1) (Nat.le_refl 6)
theorem X_throw2 {d : Nat} {ls : List (Nat × Value)} {w : List EC} : JX m9_bottle (d + 6) [] (PX9 "java/util/NoSuchElementException" w) 130 ls [] w 0 0 := by
  intro z D aC A p l e R s m args below meth c H locs lsA ad E X hl hP hD hS
  obtain ⟨e1, e2, e3, e4, e5, hts, e7, e8, e9, hE, hA, hK⟩ := id E
  obtain ⟨hst9, hE2, htab⟩ := id X
  exact vy_throw (Y := "java/lang/RuntimeException") (r := ["java/lang/Exception"]) (own := "TemperCellar") (cls := "java/util/NoSuchElementException") (text := "no such what") (sa := z 2) (A := A) (rx := prog_29_method_4_code) (ix := 13) e1 e2 hst9 (by decide +kernel) (by decide +kernel) (by decide +kernel) (by decide +kernel) e5 (by decide +kernel) (by decide +kernel) (by decide +kernel) (hts _ t1196) (hts _ t22) (hE.2.2.1 2 _ rfl) (at_h at2_t at2_n hts hE2) at2_o hE2.1 hE2.2.1 hS (hl.1.trans e4.symm)
    D9_bottle_130 D9_bottle_133 D9_bottle_134 D9_bottle_136 D9_bottle_139 (by rw [htab]; intro x hx; cases hx) (by rw [e9]; show 1 + 4 < d + 6; omega) (by rw [e9]; show 0 + (13 * (1 + 2) + 43) ≤ 60 * (d + 6); omega) (by rw [e9]; exact Nat.le_refl 1) (by rw [e9]; exact Nat.le_refl 6) e7
    (xc_of hP hS) hS.2.2 (Nat.le_refl 1) (Nat.le_refl 6)
section BT
variable {d np nb nn : Nat} {tl hi : Int32} {T : TV} {V : CV} {x w : Int32}
theorem c9_bottleX1 (hT : WT T np nb nn) (hx : ¬ ixB nb x = true) : Xr "java/lang/IndexOutOfBoundsException" (d + 6) m9_bottle [.ref 0, .int x, .int w] (tcA tl hi T V) := by
  refine Xr.intro (by decide) rfl ?_
  refine X_aload_n (pc := 0) D9_bottle_0 rfl ?_
  refine X_iload_n (pc := 1) D9_bottle_1 rfl ?_
  refine X_gR (pc := 2) (wc := tcA tl hi T V) (ws := []) (ac := [.int x]) (rest := []) (ci := 9) D9_bottle_2 m9_isBottle_v t754 (c9_isBottle (d := d) hT) (by omega) rfl rfl (List.append_nil _).symm rfl rfl rfl rfl rfl ?_
  refine X_if_ne (pc := 5) (tgt := 18) D9_bottle_5 (by decide) (fun h5 => absurd (i01_nz h5) hx) (fun _ => ?_)
  exact X_throw1
theorem c9_bottleX2 (hT : WT T np nb nn) (hx : ixB nb x = true) (hw : ¬ ixB 7 w = true) : Xr "java/util/NoSuchElementException" (d + 6) m9_bottle [.ref 0, .int x, .int w] (tcA tl hi T V) := by
  refine Xr.intro (by decide) rfl ?_
  refine X_aload_n (pc := 0) D9_bottle_0 rfl ?_
  refine X_iload_n (pc := 1) D9_bottle_1 rfl ?_
  refine X_gR (pc := 2) (wc := tcA tl hi T V) (ws := []) (ac := [.int x]) (rest := []) (ci := 9) D9_bottle_2 m9_isBottle_v t754 (c9_isBottle (d := d) hT) (by omega) rfl rfl (List.append_nil _).symm rfl rfl rfl rfl rfl ?_
  refine X_if_ne (pc := 5) (tgt := 18) D9_bottle_5 (by decide) (fun _ => ?_) (fun h5 => absurd hx (i01_z h5))
  refine X_iload_n (pc := 18) D9_bottle_18 rfl ?_
  refine X_tout (pc := 19) (tgt := 130) D9_bottle_19 ?_ (by decide) ?_
  · exact ix7 hw
  exact X_throw2
theorem c9_bottle (hT : WT T np nb nn) (hx : ixB nb x = true) (hw : ixB 7 w = true) : TR (d + 2) m9_bottle [.ref 0, .int x, .int w] (tcA tl hi T V) (.int (boV T V x.toNatClampNeg w)) := by
  have hnb := hT.2.2.2.2.1
  refine Tr.intro (by decide) rfl ?_
  refine J_aload_n (pc := 0) D9_bottle_0 rfl ?_
  refine J_iload_n (pc := 1) D9_bottle_1 rfl ?_
  refine J_callVTR (pc := 2) (ac := [.int _]) D9_bottle_2 m9_isBottle_v t754 (c9_isBottle (d := d) hT) (by omega) rfl rfl rfl rfl (fun _ => rfl) rfl rfl rfl ?_
  refine J_if_ne (pc := 5) (tgt := 18) D9_bottle_5 (by decide) (fun h5 => ?_) (fun h5 => ?_)
  · obtain ⟨p, hp, rfl⟩ := ixB_t hx (by omega)
    refine J_iload_n (pc := 18) D9_bottle_18 rfl ?_
    refine J_tsw (pc := 19) 0 [60, 70, 80, 90, 100, 110, 120] 130 D9_bottle_19 (by decide) (by decide) rfl (by decide) (by decide) (fun j hj h19 => ?_) (fun h19 => ?_)
    · have hj19 : j = 0 ∨ j = 1 ∨ j = 2 ∨ j = 3 ∨ j = 4 ∨ j = 5 ∨ j = 6 := by have hj2 : j < 7 := hj; omega
      clear hj
      rcases hj19 with rfl | rfl | rfl | rfl | rfl | rfl | rfl
      · refine J_aload_n (pc := 60) D9_bottle_60 rfl ?_
        refine J_getf (pc := 61) D9_bottle_61 fl9_18 rfl rfl ?_
        refine J_getf (pc := 64) D9_bottle_64 fl9_141 rfl rfl ?_
        refine J_iload_n (pc := 67) D9_bottle_67 rfl ?_
        refine J_iald (pc := 68) D9_bottle_68 rfl rfl (by omega) rfl ?_
        refine J_iret (pc := 69) D9_bottle_69 rfl ?_
        exact ⟨rfl, by rw [boV, if_pos h19, nI_clamp (by omega)]; try rfl⟩
      · refine J_aload_n (pc := 70) D9_bottle_70 rfl ?_
        refine J_getf (pc := 71) D9_bottle_71 fl9_18 rfl rfl ?_
        refine J_getf (pc := 74) D9_bottle_74 fl9_144 rfl rfl ?_
        refine J_iload_n (pc := 77) D9_bottle_77 rfl ?_
        refine J_iald (pc := 78) D9_bottle_78 rfl rfl (by omega) rfl ?_
        refine J_iret (pc := 79) D9_bottle_79 rfl ?_
        exact ⟨rfl, by rw [boV, if_neg (by rw [h19]; decide), if_pos h19, nI_clamp (by omega)]; try rfl⟩
      · refine J_aload_n (pc := 80) D9_bottle_80 rfl ?_
        refine J_getf (pc := 81) D9_bottle_81 fl9_46 rfl rfl ?_
        refine J_getf (pc := 84) D9_bottle_84 fl9_147 rfl rfl ?_
        refine J_iload_n (pc := 87) D9_bottle_87 rfl ?_
        refine J_iald (pc := 88) D9_bottle_88 rfl rfl (by omega) rfl ?_
        refine J_iret (pc := 89) D9_bottle_89 rfl ?_
        exact ⟨rfl, by rw [boV, if_neg (by rw [h19]; decide), if_neg (by rw [h19]; decide), if_pos h19, nI_clamp (by omega)]; try rfl⟩
      · refine J_aload_n (pc := 90) D9_bottle_90 rfl ?_
        refine J_getf (pc := 91) D9_bottle_91 fl9_46 rfl rfl ?_
        refine J_getf (pc := 94) D9_bottle_94 fl9_150 rfl rfl ?_
        refine J_iload_n (pc := 97) D9_bottle_97 rfl ?_
        refine J_iald (pc := 98) D9_bottle_98 rfl rfl (by omega) rfl ?_
        refine J_iret (pc := 99) D9_bottle_99 rfl ?_
        exact ⟨rfl, by rw [boV, if_neg (by rw [h19]; decide), if_neg (by rw [h19]; decide), if_neg (by rw [h19]; decide), if_pos h19, nI_clamp (by omega)]; try rfl⟩
      · refine J_aload_n (pc := 100) D9_bottle_100 rfl ?_
        refine J_getf (pc := 101) D9_bottle_101 fl9_46 rfl rfl ?_
        refine J_getf (pc := 104) D9_bottle_104 fl9_153 rfl rfl ?_
        refine J_iload_n (pc := 107) D9_bottle_107 rfl ?_
        refine J_iald (pc := 108) D9_bottle_108 rfl rfl (by omega) rfl ?_
        refine J_iret (pc := 109) D9_bottle_109 rfl ?_
        exact ⟨rfl, by rw [boV, if_neg (by rw [h19]; decide), if_neg (by rw [h19]; decide), if_neg (by rw [h19]; decide), if_neg (by rw [h19]; decide), if_pos h19, nI_clamp (by omega)]; try rfl⟩
      · refine J_aload_n (pc := 110) D9_bottle_110 rfl ?_
        refine J_getf (pc := 111) D9_bottle_111 fl9_46 rfl rfl ?_
        refine J_getf (pc := 114) D9_bottle_114 fl9_156 rfl rfl ?_
        refine J_iload_n (pc := 117) D9_bottle_117 rfl ?_
        refine J_iald (pc := 118) D9_bottle_118 rfl rfl (by omega) rfl ?_
        refine J_iret (pc := 119) D9_bottle_119 rfl ?_
        exact ⟨rfl, by rw [boV, if_neg (by rw [h19]; decide), if_neg (by rw [h19]; decide), if_neg (by rw [h19]; decide), if_neg (by rw [h19]; decide), if_neg (by rw [h19]; decide), if_pos h19, nI_clamp (by omega)]; try rfl⟩
      · refine J_aload_n (pc := 120) D9_bottle_120 rfl ?_
        refine J_getf (pc := 121) D9_bottle_121 fl9_46 rfl rfl ?_
        refine J_getf (pc := 124) D9_bottle_124 fl9_159 rfl rfl ?_
        refine J_iload_n (pc := 127) D9_bottle_127 rfl ?_
        refine J_iald (pc := 128) D9_bottle_128 rfl rfl (by omega) rfl ?_
        refine J_iret (pc := 129) D9_bottle_129 rfl ?_
        exact ⟨rfl, by rw [boV, if_neg (by rw [h19]; decide), if_neg (by rw [h19]; decide), if_neg (by rw [h19]; decide), if_neg (by rw [h19]; decide), if_neg (by rw [h19]; decide), if_neg (by rw [h19]; decide), nI_clamp (by omega)]; try rfl⟩
    · obtain ⟨j, hj, ew⟩ := ixB_t hw (by decide)
      exact absurd (ew.trans (congrArg nI (Nat.zero_add j).symm)) (h19 j hj)
  · have h5' := eq_true h5
    replace h5 := i01_z h5
    exact absurd hx h5
end BT
