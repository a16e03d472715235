/-! bottle() of the law: the call that may throw, caught (own; mod_t2.py) -/
def mL_bottle : JM := (⟨"TemperCellarLaw", "bottle", "(LTemperCellar;II[J)I"⟩, method_3_code, 5, some .int)
def hhB : List (Nat × Nat × Nat × Nat) := [(0, 10, 13, 13), (0, 10, 17, 15)]
theorem t1123 : Cond.codeWith mL_bottle.1 mL_bottle.2.1 mL_bottle.2.2.1 mL_bottle.2.2.2 hhB ∈ T0 := T0_k5 163 rfl rfl
theorem DB_0 : decode mL_bottle.2.1 0 = .ok (.aload_n 3, 1) := by decide +kernel
theorem DB_1 : decode mL_bottle.2.1 1 = .ok (.iconst 0, 1) := by decide +kernel
theorem DB_2 : decode mL_bottle.2.1 2 = .ok (.aload_n 0, 1) := by decide +kernel
theorem DB_3 : decode mL_bottle.2.1 3 = .ok (.iload_n 1, 1) := by decide +kernel
theorem DB_4 : decode mL_bottle.2.1 4 = .ok (.iload_n 2, 1) := by decide +kernel
theorem DB_5 : decode mL_bottle.2.1 5 = .ok (.invokevirtual 7, 3) := by decide +kernel
theorem DB_8 : decode mL_bottle.2.1 8 = .ok (.i2l, 1) := by decide +kernel
theorem DB_9 : decode mL_bottle.2.1 9 = .ok (.lastore, 1) := by decide +kernel
theorem DB_10 : decode mL_bottle.2.1 10 = .ok (.goto 11, 3) := by decide +kernel
theorem DB_13 : decode mL_bottle.2.1 13 = .ok (.astore 4, 2) := by decide +kernel
theorem DB_15 : decode mL_bottle.2.1 15 = .ok (.iconst 1, 1) := by decide +kernel
theorem DB_16 : decode mL_bottle.2.1 16 = .ok (.ireturn, 1) := by decide +kernel
theorem DB_17 : decode mL_bottle.2.1 17 = .ok (.astore 4, 2) := by decide +kernel
theorem DB_19 : decode mL_bottle.2.1 19 = .ok (.iconst 2, 1) := by decide +kernel
theorem DB_20 : decode mL_bottle.2.1 20 = .ok (.ireturn, 1) := by decide +kernel
theorem DB_21 : decode mL_bottle.2.1 21 = .ok (.iconst 0, 1) := by decide +kernel
theorem DB_22 : decode mL_bottle.2.1 22 = .ok (.ireturn, 1) := by decide +kernel

def LBT (d : Nat) (av : List Value) (w : List EC) (Q : Option Value → List EC → Prop) : Prop :=
  ∀ (l : Launch), l.stackTraces = false → ∀ (z : Nat → Nat) (D : va_G) (aC : FieldType → ClassId) (ad : Nat → Nat) (sz : Nat),
    Met l mL_bottle.1 (.codeWith mL_bottle.1 mL_bottle.2.1 mL_bottle.2.2.1 mL_bottle.2.2.2 hhB :: T0) (jr d 1 6) (va_Pc (av.map (cv z ad)) (fun U => U.heap.size = sz ∧ va_P D cls0 (cw z aC ad w) U.heap ∧ va_K D cls0 (tys aC) U ∧ DD (fun _ => True) ad w.length ∧ EX z (va_A (cw z aC ad w) sz) U ∧ EX2 (va_A (cw z aC ad w) sz) U))
      (JQ z D aC (va_A (cw z aC ad w) sz) ad w.length 0 Q) 1 6 (va_A (cw z aC ad w) sz)
theorem LBT.intro {d : Nat} {av : List Value} {w : List EC} {Q : Option Value → List EC → Prop} (hl : Nat.ble (lg_sl av).length 5 = true) (h : JX mL_bottle d (tableOf hhB) (PR9 w.length Q) 0 (lv_args 0 av) [] w 0 0) : LBT d av w Q := by
  intro l hst z D aC ad sz
  refine va_MetW (cc := mL_bottle.2.1) (maxL := mL_bottle.2.2.1) (ret := mL_bottle.2.2.2) (hh := hhB) (by decide) rfl ?_
  intro p e s m args below meth c s₁ B hml hv
  obtain ⟨rfl, hsz, hP, hK, hD, hE, hE2⟩ := hv
  have hts := atoms_spec (ws := .codeWith mL_bottle.1 mL_bottle.2.1 mL_bottle.2.2.1 mL_bottle.2.2.2 hhB :: T0) B.pre
  have htab := vx_table (x := mL_bottle.1) B (hts _ List.mem_cons_self)
  subst hsz
  have hA : ∀ q : Nat, s.heap.size ≤ q → va_A (cw z aC ad w) s.heap.size q := fun q h => Or.inr h
  have hD' : DD (va_A (cw z aC ad w) s.heap.size) ad w.length := ⟨hD.1, fun i hi => Or.inl ⟨i, ce z aC ad w[i], cw_get (List.getElem?_eq_getElem hi)⟩⟩
  have hlen : (lg_sl (av.map (cv z ad))).length ≤ mL_bottle.2.2.1 := by rw [cl_sl]; exact Nat.le_of_ble_eq_true hl
  have hls := lv_entry (av.map (cv z ad)) (n := mL_bottle.2.2.1) hlen
  rw [lg_entry_eq]
  rw [cl_args] at hls
  exact h z D aC _ p l e _ s m _ below meth c s.heap [] _ ad ⟨B.exec, B.bytes, B.returns, hml, findClass_of_methodNamed B.named, fun w hw => hts w (List.mem_cons_of_mem _ hw), B.notSynchronized, (name_of_methodNamed B.named B.method).1, rfl, hE, hA, hK⟩ ⟨hst, hE2, htab⟩ hls hP hD' va_S.rf
section LB
variable {d np nb nn : Nat} {tl hi : Int32} {T : TV} {V : CV} {x w : Int32} {f : Nat → Int64}
/-- the world of the law's bottle(): the long array, then the class' cells -/
abbrev lbW (P : List EC) (f : Nat → Int64) : List EC := [lA 1 f] ++ (P.map (rcF (fun k => 1 + k)) ++ [])
/-- what the law's bottle() leaves: 0, 1 or 2, and the answer at the long array's place 0 -/
def boQ (P : List EC) (T : TV) (V : CV) (nb : Nat) (x w : Int32) (r : Option Value) (w' : List EC) : Prop := r = some (.int (boK nb x w)) ∧ ∃ f' : Nat → Int64, w' = lbW P f' ∧ (boK nb x w = 0 → f' 0 = (boV T V x.toNatClampNeg w).toInt64)
theorem cL_bottle (hT : WT T np nb nn) : LBT (d + 8) [.ref 1, .int x, .int w, .ref 0] (lbW (tcA tl hi T V) f) (boQ (tcA tl hi T V) T V nb x w) := by
  refine LBT.intro rfl ?_
  refine X_aload_n (pc := 0) DB_0 rfl ?_
  refine X_iconst (pc := 1) (v := 0) DB_1 (by decide) ?_
  refine X_aload_n (pc := 2) DB_2 rfl ?_
  refine X_iload_n (pc := 3) DB_3 rfl ?_
  refine X_iload_n (pc := 4) DB_4 rfl ?_
  by_cases hx : ixB nb x = true
  · by_cases hw : ixB 7 w = true
    · have hk : boK nb x w = 0 := by rw [boK, if_pos hx, if_pos hw]; rfl
      refine X_gV (pc := 5) (wc := tcA tl hi T V) (ρ := fun k => 1 + k) (ac := [.int x, .int w]) (rest := [.int 0, .ref 0]) (ci := 9) DB_5 m9_bottle_v t1126 (c9_bottle (d := d) hT hx hw) (by omega) rfl rfl (SubF.midN _ _ rfl) rfl rfl rfl rfl rfl (fun r w' hq hl => ⟨_, PutF.midN rfl hl, ?_⟩)
      obtain ⟨rfl, rfl⟩ := hq
      refine X_i2l (pc := 8) DB_8 ?_
      refine X_last (pc := 9) (b := 0) (N := 1) (f := f) DB_9 rfl rfl (by omega) rfl ?_
      refine X_goto (pc := 10) (tgt := 21) DB_10 (by decide) ?_
      refine X_iconst (pc := 21) (v := 0) DB_21 (by decide) ?_
      refine X_iret (pc := 22) DB_22 rfl ?_ rfl rfl rfl
      exact ⟨by rw [hk], _, rfl, fun _ => by simp [vp_updL]⟩
    · have hk : boK nb x w = nI 2 := by rw [boK, if_pos hx, if_neg hw]
      refine X_gVX (pc := 5) [⟨0, 10, 13, 13⟩] ⟨0, 10, 17, 15⟩ [] (wc := tcA tl hi T V) (ρ := fun k => 1 + k) (ac := [.int x, .int w]) (rest := [.int 0, .ref 0]) (ci := 9) DB_5 m9_bottle_v t1126 (c9_bottleX2 (d := d) hT hx hw) (by omega) rfl rfl (SubF.midN _ _ rfl) rfl rfl rfl rfl ?_ (by decide) (by decide) t1125 (by decide) DB_17 (by decide) ?_
      · intro A s args hE2 hts z hz
        rw [List.mem_singleton.mp hz]
        exact Or.inr ⟨by decide, _, hts _ t1124, hE2.2.2.1⟩
      refine X_iconst (pc := 19) (v := nI 2) DB_19 (by decide) ?_
      refine X_iret (pc := 20) DB_20 rfl ?_ rfl rfl rfl
      exact ⟨by rw [hk], f, rfl, fun q => by rw [hk] at q; exact absurd q (by decide)⟩
  · have hk : boK nb x w = nI 1 := by rw [boK, if_neg hx]
    refine X_gVX (pc := 5) [] ⟨0, 10, 13, 13⟩ [⟨0, 10, 17, 15⟩] (wc := tcA tl hi T V) (ρ := fun k => 1 + k) (ac := [.int x, .int w]) (rest := [.int 0, .ref 0]) (ci := 9) DB_5 m9_bottle_v t1126 (c9_bottleX1 (d := d) hT hx) (by omega) rfl rfl (SubF.midN _ _ rfl) rfl rfl rfl rfl (fun _ _ _ _ _ _ h => nomatch h) (by decide) (by decide) t1124 (by decide) DB_13 (by decide) ?_
    refine X_iconst (pc := 15) (v := nI 1) DB_15 (by decide) ?_
    refine X_iret (pc := 16) DB_16 rfl ?_ rfl rfl rfl
    exact ⟨by rw [hk], f, rfl, fun q => by rw [hk] at q; exact absurd q (by decide)⟩
end LB
section LC
variable {L : Nat} {xs : Nat → Int32} {pc k n : Nat} {ls : List (Nat × Value)} {st : List Value} {w : List EC}
variable {z : Nat → Nat} {D : va_G} {aC : FieldType → ClassId} {p : Program} {l : Launch} {e : Env} {s : State} {m : MethodId} {below : List Frame} {meth : Method} {c : Code} {H : Heap} {locs : List Loc} {lsA : Array Slot} {ad : Nat → Nat} {b : Nat} {Z : State → Prop}
theorem L_afterX {ρ : Nat → Nat} {wc : List EC} {Qc : Option Value → List EC → Prop} {a : Array Value} {st0 : List Value} {rest : List Value} (hs : SubF w ρ wc)
    (E : LE L xs z D aC p l e s m below meth c b Z) (hl : lv_has lsA 7 (cl z ad ls)) (hP : va_P D cls0 (cw z aC ad w) H) (hD : DD (fun q => s.heap.size ≤ q) ad w.length) (hS : va_S (fun q => s.heap.size ≤ q) s.heap H locs)
    (hr : va_Run p l e room_1 s m #[.ref b] below meth c H locs k n 1 6 (F0 m pc lsA st0) (rest.map (cv z ad)) (JQ z D aC (va_A (cw z aC (fun k => ad (ρ k)) wc) H.size) (fun k => ad (ρ k)) wc.length 0 Qc a) (va_A (cw z aC (fun k => ad (ρ k)) wc) H.size))
    (kk : ∀ r w', Qc r w' → w'.length = wc.length → ∃ w2, PutF w ρ w' w2 ∧ JL L xs (pc + 3) ls ((r.map (rvF ρ)).toList ++ rest) w2 (k + 1) (n + 6)) :
    W p l e room_1 s m #[.ref b] below meth c H locs k n Z (F0 m pc lsA st0) := by
  intro T hT X
  obtain ⟨v, st₀, t, T', Lo, e0, X', hL, e1, e2, ⟨⟨r, w', ad', hv, hq, hag, hlen, hP', hD'⟩, hF⟩, st⟩ := hr T hT X
  have ha : ad' = fun k => ad (ρ k) := funext fun i => hag i (by omega)
  subst ha
  obtain ⟨w2, ⟨p1, p2, p3⟩, kj⟩ := kk r w' hq hlen
  have hv' : v = r.map (cv z fun k => ad (ρ k)) := by injection hv
  have hsub : ∀ q, va_A (cw z aC (fun k => ad (ρ k)) wc) H.size q → (fun q => s.heap.size ≤ q) q := hs.aa hD (fun _ h => h) hS
  obtain ⟨hF1, hF2⟩ := (⟨hF.1, hF.2⟩ : st₀.heap.size ≤ t.heap.size ∧ ∀ q : Nat, q < st₀.heap.size → ¬ va_A (cw z aC (fun k => ad (ρ k)) wc) H.size q → t.heap[q]? = st₀.heap[q]?)
  have hP1 : va_P D cls0 (cw z aC ad w2) T'.heap := by
    intro i q hi
    obtain ⟨c1, h1, rfl⟩ := cw_of hi
    by_cases hx : ∃ k1, k1 < w'.length ∧ ρ k1 = i
    · obtain ⟨k1, g1, rfl⟩ := hx
      have g2 := p2 k1 _ (List.getElem?_eq_getElem g1)
      rw [h1] at g2
      rw [Option.some.inj g2, ce_rc, e1]
      exact hP' k1 _ (cw_get (List.getElem?_eq_getElem g1))
    · have g1 := p3 i (fun k1 hk1 e9 => hx ⟨k1, hk1, e9⟩)
      rw [h1] at g1
      have h4 := hP i _ (cw_get g1.symm)
      refine h4.kept ?_
      have hlt := h4.lt
      rw [e1, hF2 _ (by rw [e0]; exact hlt), e0]
      rintro (⟨k1, e9, hk1⟩ | hge)
      · obtain ⟨c2, g5, g2⟩ := cw_of hk1
        have g3 : ad i = ad (ρ k1) := congrArg Prod.fst g2
        have g6 := (List.getElem?_eq_some_iff.mp g5).1
        have := hD.1 _ _ (List.getElem?_eq_some_iff.mp g1.symm).1 (hs.lt g6) g3
        exact hx ⟨k1, by omega, this.symm⟩
      · exact absurd hlt (Nat.not_lt.mpr hge)
  have hst : v.toList ++ rest.map (cv z ad) = ((r.map (rvF ρ)).toList ++ rest).map (cv z ad) := by
    rw [hv']
    cases r with
    | none => simp
    | some x => simp [cv_rv]
  obtain ⟨t2, a1, b1⟩ := kj z D aC p l e s m below meth c T'.heap (locs ++ Lo) lsA ad b Z E hl hP1 (by rw [p1]; exact hD)
    ⟨Nat.le_trans hS.1 (by rw [e1, ← e0]; exact hF1), fun q h1 h2 => by rw [e1, hF2 q (by rw [e0]; exact Nat.lt_of_lt_of_le h1 hS.1) (fun h => h2 (hsub q h)), e0]; exact hS.2.1 q h1 h2, fun q hq => by
      rcases List.mem_append.mp hq with h | h
      · exact hS.2.2 q h
      · exact hsub _ (hL q h)⟩ T' rfl X'
  refine ⟨t2, st t2 ?_, b1⟩
  rw [hst]
  exact a1
theorem L_gSW {d : Nat} {ac : List Value} {ρ : Nat → Nat} {wc : List EC} {Qc : Option Value → List EC → Prop} {rest : List Value}
    (hd : decode code pc = .ok (.invokestatic 39, 3)) (hT : LBT d ac wc Qc) (hdc : d + 1 ≤ 1000) (hs : SubF w ρ wc) (hna : ac.length = 4) (hst : st = (ac.map (rvF ρ)).reverse ++ rest) (hro : Nat.ble (rest.map (fun v => v.category)).sum 8 = true) (hkm : k + 1 ≤ 601024) (hnm : n + 6 ≤ 7293034)
    (kk : ∀ r w', Qc r w' → w'.length = wc.length → ∃ w2, PutF w ρ w' w2 ∧ JL L xs (pc + 3) ls ((r.map (rvF ρ)).toList ++ rest) w2 (k + 1) (n + 6)) : JL L xs pc ls st w k n := by
  intro z D aC p l e s m below meth c H locs lsA ad b Z E hl hP hD hS
  obtain ⟨e1, e2, e3, e4, e5, hts, e7, hE, hK, hX, hb, hz, hf, hr⟩ := id E
  have hst9 : l.stackTraces = false := by
    unfold Launch.stackTraces
    rw [hf]
    decide +kernel
  have hM := hT l hst9 z D aC (fun i => ad (ρ i)) H.size
  refine L_afterX (st0 := st.map (cv z ad)) (rest := rest) hs E hl hP hD hS (vx_runSW (hh := hhB) (bytes := mL_bottle.2.1) (maxL := mL_bottle.2.2.1) (ret := mL_bottle.2.2.2) (own := "TemperCellarLaw") (n := 4) (As := ac.map (cv z (fun i => ad (ρ i)))) ⟨e1, e2, e4, e5, hts⟩ hM ?_ ?_ rfl ((List.length_map _).trans hna) hl.1 ?_ ?_ hd ⟨hkm, hnm⟩) kk
  · refine vx_cwSW 4 hts ?_ rfl rfl rfl (by decide +kernel) ⟨by show d + 1 ≤ 2048; omega, by show 8 + (5 + 11) + 60 * d ≤ 84000; omega⟩
    intro w hw
    simp only [va_wsS, List.cons_append, List.nil_append, List.mem_cons] at hw
    rcases hw with rfl | rfl | rfl | rfl | hw
    · exact T0_good _ t1121
    · exact T0_good _ t1122
    · exact T0_good _ t0
    · exact T0_good _ t1123
    · exact T0_good _ hw
  · exact ⟨Xr.blind, fun U hU hW => ⟨rfl, by rw [hU], by rw [hU]; exact hs.pp hP, va_K.moved hW.alike hK, ⟨(hs.dd hD).1, fun _ _ => trivial⟩, hE.1.call hS hU hW (hs.aa hD (fun _ h => h) hS), hE.2.call hS hU hW (hs.aa hD (fun _ h => h) hS)⟩⟩
  · show st.map (cv z ad) = _
    rw [hst, List.map_append, List.map_reverse, cv_rvs]
  · exact lv_room (by rw [cv_cats]; exact Nat.le_of_ble_eq_true hro)
end LC
