/-! THE ENGINE (own): a judgement J over small worlds by places, its rows out of the kit's rows; contracts Tr.
A world is a list of cells; a reference is the place of its cell in that list. ad: where the cells lie; z: where the String constants lie. -/
abbrev JM : Type := MethodName × ByteArray × Nat × Option FieldType
abbrev EC : Type := (FieldType × vp_A) ⊕ (Nat × List Value)
def cv (z ad : Nat → Nat) : Value → Value
  | .ref i => .ref (ad i)
  | .retAddr k => .ref (z k)
  | v => v
def cl (z ad : Nat → Nat) (ls : List (Nat × Value)) : List (Nat × Value) := ls.map (fun q => (q.1, cv z ad q.2))
def ce (z : Nat → Nat) (aC : FieldType → ClassId) (ad : Nat → Nat) : EC → va_E
  | .inl a => .inl (aC a.1, a.2)
  | .inr o => .inr (o.1, o.2.map (cv z ad))
def cw (z : Nat → Nat) (aC : FieldType → ClassId) (ad : Nat → Nat) (w : List EC) : va_W := w.mapIdx (fun i c => (ad i, ce z aC ad c))
def tys (aC : FieldType → ClassId) : List (ClassId × FieldType) := [(aC .int, .int), (aC .byte, .byte), (aC .boolean, .boolean), (aC .long, .long)]
def DD (A : Nat → Prop) (ad : Nat → Nat) (n : Nat) : Prop := (∀ i j, i < n → j < n → ad i = ad j → i = j) ∧ ∀ i, i < n → A (ad i)
theorem cv_cat (z ad : Nat → Nat) (v : Value) : (cv z ad v).category = v.category := by cases v <;> rfl
theorem cw_get {z : Nat → Nat} {aC : FieldType → ClassId} {ad : Nat → Nat} {w : List EC} {i : Nat} {c : EC} (h : w[i]? = some c) : (cw z aC ad w)[i]? = some (ad i, ce z aC ad c) := by
  simp [cw, List.getElem?_mapIdx, h]
theorem cw_of {z : Nat → Nat} {aC : FieldType → ClassId} {ad : Nat → Nat} {w : List EC} {i : Nat} {q : Nat × va_E} (h : (cw z aC ad w)[i]? = some q) : ∃ c, w[i]? = some c ∧ q = (ad i, ce z aC ad c) := by
  simp only [cw, List.getElem?_mapIdx] at h
  cases hc : w[i]? with
  | none => rw [hc] at h; cases h
  | some c => rw [hc] at h; exact ⟨c, rfl, (Option.some.inj h).symm⟩
theorem cw_len {z : Nat → Nat} {aC : FieldType → ClassId} {ad : Nat → Nat} {w : List EC} : (cw z aC ad w).length = w.length := by simp [cw]
theorem cw_set {z : Nat → Nat} {aC : FieldType → ClassId} {ad : Nat → Nat} {w : List EC} {i : Nat} {c : EC} : (cw z aC ad w).set i (ad i, ce z aC ad c) = cw z aC ad (w.set i c) := by
  apply List.ext_getElem?
  intro j
  by_cases hj : i = j
  · subst hj
    by_cases hi : i < w.length
    · rw [List.getElem?_set_self (by rw [cw_len]; exact hi), cw_get (List.getElem?_set_self hi)]
    · rw [List.getElem?_eq_none (by rw [List.length_set, cw_len]; omega), List.getElem?_eq_none (by rw [cw_len, List.length_set]; omega)]
  · rw [List.getElem?_set_ne hj]
    simp only [cw, List.getElem?_mapIdx, List.getElem?_set_ne hj]
theorem DD_D {A : Nat → Prop} {z : Nat → Nat} {aC : FieldType → ClassId} {ad : Nat → Nat} {w : List EC} (h : DD A ad w.length) : va_D A (cw z aC ad w) := by
  refine ⟨fun i j p q hi hj e => ?_, fun k q hk => ?_⟩
  · obtain ⟨c, h1, rfl⟩ := cw_of hi
    obtain ⟨c', h2, rfl⟩ := cw_of hj
    exact h.1 i j (List.getElem?_eq_some_iff.mp h1).1 (List.getElem?_eq_some_iff.mp h2).1 e
  · obtain ⟨c, h1, rfl⟩ := cw_of hk
    exact h.2 k (List.getElem?_eq_some_iff.mp h1).1
/-- the String constants' places in S0, the nest's links, the statics: what stays all along -/
def EX (z : Nat → Nat) (A : Nat → Prop) (U : State) : Prop :=
  (∀ x ∈ N0, va_Nw x U) ∧ vk_S 4 S0len S0byt z (fun k => z (100 + k)) A U U.heap ∧ (∀ (i : Nat) (q : String × Nat × String), S0[i]? = some q → vk_R q.1 q.2.1 q.2.2 (z i) U) ∧
  va_Z "java/lang/String" "COMPACT_STRINGS" "Z" (.int 1) A U U.heap ∧ (va_Z "jdk/internal/util/Preconditions" "SIOOBE_FORMATTER" "Ljava/util/function/BiFunction;" .null A U U.heap ∨ va_Z "jdk/internal/util/Preconditions" "SIOOBE_FORMATTER" "Ljava/util/function/BiFunction;" (.ref (z 99)) A U U.heap)
theorem N0_warm {w : Cond} (hw : w ∈ N0) {s U : State} (hW : s.WarmedH U.vm) (h : va_Nw w s) : va_Nw w U := by
  simp only [N0, List.mem_cons, List.not_mem_nil, or_false] at hw
  rcases hw with rfl | rfl | rfl | rfl | rfl | rfl | rfl <;> exact va_Nw.warmM hW h
theorem N0_onT {w : Cond} (hw : w ∈ N0) : w.onTables = true := by
  simp only [N0, List.mem_cons, List.not_mem_nil, or_false] at hw
  rcases hw with rfl | rfl | rfl | rfl | rfl | rfl | rfl <;> rfl
theorem EX.call {z : Nat → Nat} {A B : Nat → Prop} {s U : State} {H : Heap} {locs : List Loc} (h : EX z A s) (hS : va_S A s.heap H locs) (hU : U.heap = H) (hW : s.WarmedH U.vm) (hB : ∀ q, B q → A q) : EX z B U := by
  obtain ⟨h1, h2, h3, h4, h5⟩ := h
  have hk : ∀ a : Nat, a < s.heap.size → ¬ A a → U.heap[a]? = s.heap[a]? := fun a p q => by rw [hU]; exact hS.2.1 a p q
  exact ⟨fun x hx => N0_warm hx hW (h1 x hx), ((h2.kept hk).moved hW.alike).narrow hB, fun i q hq => (h3 i q hq).warm hW, ((h4.kept hk).moved hW.alike).narrow hB, h5.imp (fun h => ((h.kept hk).moved hW.alike).narrow hB) (fun h => ((h.kept hk).moved hW.alike).narrow hB)⟩
theorem EX.blind {z : Nat → Nat} {A : Nat → Prop} {U : State} {g : JFrame} {mk : MethodId} {a : Array Value} (h : EX z A U) : EX z A (U.calling g mk a) := by
  obtain ⟨h1, h2, h3, h4, h5⟩ := h
  have hv : (U.calling g mk a).vm = U.vm := rfl
  exact ⟨fun x hx => (h1 x hx).same (N0_onT hx) hv.symm, h2.moved (U := U.calling g mk a) (Vm.Alike.refl U.vm), fun i q hq => (h3 i q hq).same hv, h4.moved (U := U.calling g mk a) (Vm.Alike.refl U.vm), h5.imp (fun h => h.moved (U := U.calling g mk a) (Vm.Alike.refl U.vm)) (fun h => h.moved (U := U.calling g mk a) (Vm.Alike.refl U.vm))⟩
def jr (d mc ms : Nat) : Room := { frames := d, cells := mc, slots := ms, locals := 60 * d }
/-- a method's end: its answer, the world behind it -/
def JQ (z : Nat → Nat) (D : va_G) (aC : FieldType → ClassId) (A : Nat → Prop) (ad0 : Nat → Nat) (n0 mc : Nat) (Q : Option Value → List EC → Prop) : Array Value → State → Outcome → State → Prop := fun _ st oc t =>
  (∃ (r : Option Value) (w' : List EC) (ad' : Nat → Nat), oc = .returned (r.map (cv z ad')) ∧ Q r w' ∧ (∀ i, i < n0 ∨ n0 + mc ≤ i → ad' i = ad0 i) ∧ w'.length = n0 + mc ∧ va_P D cls0 (cw z aC ad' w') t.heap ∧ DD A ad' w'.length) ∧ va_F A st t
/-- what holds all along a method's body -/
def JE (M : JM) (d mc ms : Nat) (z : Nat → Nat) (D : va_G) (aC : FieldType → ClassId) (A : Nat → Prop) (p : Program) (R : Room) (s : State) (m : MethodId) (args : Array Value) (meth : Method) (c : Code) : Prop :=
  p.tables.exec = Jvm.exec ∧ c.code = M.2.1 ∧ meth.sig.returnType = M.2.2.2 ∧ c.maxLocals = M.2.2.1 ∧ s.vm.findClass M.1.cls = some m.cls ∧ (∀ w ∈ T0, w.before args s = true) ∧ meth.locks = false ∧ meth.name = M.1.name ∧ R = jr d mc ms ∧ EX z A s ∧ (∀ q, s.heap.size ≤ q → A q) ∧ va_K D cls0 (tys aC) s
/-- the machine, in method M at pc, with these locals and stack over the world w, comes to the method's end, with Q. d: frames left; mc, ms: cells and slots that the whole method makes; k, n: those made by now; n0: how many cells it began with -/
def J (M : JM) (d mc ms n0 : Nat) (pc : Nat) (ls : List (Nat × Value)) (st : List Value) (w : List EC) (k n : Nat) (Q : Option Value → List EC → Prop) : Prop :=
  ∀ (z : Nat → Nat) (D : va_G) (aC : FieldType → ClassId) (A : Nat → Prop) (p : Program) (l : Launch) (e : Env) (R : Room) (s : State) (m : MethodId) (args : Array Value) (below : List Frame) (meth : Method) (c : Code) (H : Heap) (locs : List Loc) (lsA : Array Slot) (ad0 ad : Nat → Nat),
    JE M d mc ms z D aC A p R s m args meth c → w.length = n0 + k → (∀ i, i < n0 ∨ n0 + k ≤ i → ad i = ad0 i) → lv_has lsA M.2.2.1 (cl z ad ls) → va_P D cls0 (cw z aC ad w) H → DD A ad w.length → va_S A s.heap H locs →
    W p l e R s m args below meth c H locs k n (MQ below (JQ z D aC A ad0 n0 mc Q) args s mc ms A) (F0 m pc lsA (st.map (cv z ad)))
/-- a method's contract: from the world w, with the arguments av, it returns, with Q; it makes mc cells of ms slots -/
def Tr (d mc ms : Nat) (M : JM) (av : List Value) (w : List EC) (Q : Option Value → List EC → Prop) : Prop :=
  ∀ (l : Launch) (z : Nat → Nat) (D : va_G) (aC : FieldType → ClassId) (ad : Nat → Nat) (sz : Nat),
    Met l M.1 (.code M.1 M.2.1 M.2.2.1 M.2.2.2 :: T0) (jr d mc ms) (va_Pc (av.map (cv z ad)) (fun U => U.heap.size = sz ∧ va_P D cls0 (cw z aC ad w) U.heap ∧ va_K D cls0 (tys aC) U ∧ DD (fun _ => True) ad w.length ∧ EX z (va_A (cw z aC ad w) sz) U))
      (JQ z D aC (va_A (cw z aC ad w) sz) ad w.length mc Q) mc ms (va_A (cw z aC ad w) sz)
theorem cl_args (z ad : Nat → Nat) : ∀ (i : Nat) (av : List Value), lv_args i (av.map (cv z ad)) = cl z ad (lv_args i av)
  | _, [] => rfl
  | i, v :: vs => by
    show (i, cv z ad v) :: lv_args (if (cv z ad v).category = 2 then i + 2 else i + 1) (vs.map (cv z ad)) = _
    rw [cv_cat, cl_args z ad _ vs]
    rfl
theorem cl_sl (z ad : Nat → Nat) (av : List Value) : (lg_sl (av.map (cv z ad))).length = (lg_sl av).length := by
  induction av with
  | nil => rfl
  | cons v vs ih =>
    have e : ∀ (u : Value) (us : List Value), lg_sl (u :: us) = (if u.category = 2 then [.val u, .second] else [.val u]) ++ lg_sl us := fun u us => by simp [lg_sl]
    rw [List.map_cons, e, e, List.length_append, List.length_append, ih, cv_cat]
    by_cases h : v.category = 2
    · rw [if_pos h, if_pos h]; rfl
    · rw [if_neg h, if_neg h]; rfl
theorem Tr.intro {d mc ms : Nat} {M : JM} {av : List Value} {w : List EC} {Q : Option Value → List EC → Prop} (hy : plainName M.1.cls = true) (hl : Nat.ble (lg_sl av).length M.2.2.1 = true) (h : J M d mc ms w.length 0 (lv_args 0 av) [] w 0 0 Q) : Tr d mc ms M av w Q := by
  intro l z D aC ad sz
  refine Met.ofW (cc := M.2.1) (maxL := M.2.2.1) (ret := M.2.2.2) hy rfl ?_
  intro p e s m args below meth c s₁ B hml hv
  obtain ⟨rfl, hsz, hP, hK, hD, hE⟩ := hv
  have hts := atoms_spec (ws := .code M.1 M.2.1 M.2.2.1 M.2.2.2 :: T0) B.pre
  subst hsz
  have hA : ∀ q : Nat, s.heap.size ≤ q → va_A (cw z aC ad w) s.heap.size q := fun q h => Or.inr h
  have hD' : DD (va_A (cw z aC ad w) s.heap.size) ad w.length := ⟨hD.1, fun i hi => Or.inl ⟨i, ce z aC ad w[i], cw_get (List.getElem?_eq_getElem hi)⟩⟩
  have hlen : (lg_sl (av.map (cv z ad))).length ≤ M.2.2.1 := by rw [cl_sl]; exact Nat.le_of_ble_eq_true hl
  have hls := lv_entry (av.map (cv z ad)) (n := M.2.2.1) hlen
  rw [lg_entry_eq]
  rw [cl_args] at hls
  exact h z D aC _ p l e _ s m _ below meth c s.heap [] _ ad ad ⟨B.exec, B.bytes, B.returns, hml, findClass_of_methodNamed B.named, fun w hw => hts w (List.mem_cons_of_mem _ hw), B.notSynchronized, (name_of_methodNamed B.named B.method).1, rfl, hE, hA, hK⟩ rfl (fun _ _ => rfl) hls hP hD' va_S.rf
/-! locals: look up, put -/
theorem nbf {a b : Nat} : Nat.beq a b = false ↔ a ≠ b := by rw [← Bool.not_eq_true, Nat.beq_eq]
def lk : List (Nat × Value) → Nat → Option Value
  | [], _ => none
  | q :: r, i => bif Nat.beq q.1 i then some q.2 else lk r i
def lgood (i : Nat) (v : Value) (q : Nat × Value) : Bool := !(Nat.beq q.1 i) && (!(Nat.beq (q.1 + 1) i && Nat.beq q.2.category 2) && !(Nat.beq v.category 2 && Nat.beq q.1 (i + 1)))
def lput (i : Nat) (v : Value) : List (Nat × Value) → List (Nat × Value)
  | [] => [(i, v)]
  | q :: r => bif Nat.beq q.1 i then (i, v) :: r.filter (lgood i v) else bif lgood i v q then q :: lput i v r else lput i v r
theorem lk_mem : ∀ {ls : List (Nat × Value)} {i : Nat} {v : Value}, lk ls i = some v → (i, v) ∈ ls
  | [], _, _, h => by cases h
  | q :: r, i, v, h => by
    unfold lk at h
    by_cases hq : q.1 = i
    · rw [show Nat.beq q.1 i = true by rw [hq]; exact Nat.beq_refl i] at h
      cases h
      rw [← hq]
      exact List.mem_cons_self
    · rw [show Nat.beq q.1 i = false from nbf.mpr hq] at h
      exact List.mem_cons_of_mem _ (lk_mem h)
theorem lk_has {z ad : Nat → Nat} {lsA : Array Slot} {nL : Nat} {ls : List (Nat × Value)} {i : Nat} {v : Value} (h : lv_has lsA nL (cl z ad ls)) (hk : lk ls i = some v) : lsA[i]? = some (.val (cv z ad v)) :=
  h.2.2 (i, cv z ad v) (List.mem_map.mpr ⟨(i, v), lk_mem hk, rfl⟩)
theorem lv_has.less {lsA : Array Slot} {nL : Nat} {l l' : List (Nat × Value)} (h : lv_has lsA nL l) (hs : ∀ q ∈ l', q ∈ l) : lv_has lsA nL l' := ⟨h.1, h.2.1, fun q hq => h.2.2 q (hs q hq)⟩
theorem lput_mem {i : Nat} {v : Value} : ∀ {ls : List (Nat × Value)} {q : Nat × Value}, q ∈ lput i v ls → q = (i, v) ∨ (q ∈ ls ∧ lgood i v q = true)
  | [], q, h => by
    rcases List.mem_cons.mp h with h | h
    · exact Or.inl h
    · cases h
  | a :: r, q, h => by
    unfold lput at h
    cases hb : Nat.beq a.1 i with
    | true =>
      rw [hb] at h
      rcases List.mem_cons.mp h with h | h
      · exact Or.inl h
      · exact Or.inr ⟨List.mem_cons_of_mem _ (List.mem_filter.mp h).1, (List.mem_filter.mp h).2⟩
    | false =>
      rw [hb] at h
      cases hg : lgood i v a with
      | true =>
        rw [hg] at h
        rcases List.mem_cons.mp h with h | h
        · subst h
          exact Or.inr ⟨List.mem_cons_self, hg⟩
        · rcases lput_mem h with h | ⟨h, h2⟩
          · exact Or.inl h
          · exact Or.inr ⟨List.mem_cons_of_mem _ h, h2⟩
      | false =>
        rw [hg] at h
        rcases lput_mem h with h | ⟨h, h2⟩
        · exact Or.inl h
        · exact Or.inr ⟨List.mem_cons_of_mem _ h, h2⟩
theorem lput_c1 {z ad : Nat → Nat} {i : Nat} {v : Value} {ls : List (Nat × Value)} : ∀ q ∈ cl z ad (lput i v ls), q ∈ (i, cv z ad v) :: (cl z ad ls).filter (fun q => !(q.1 == i) && !(q.1 + 1 == i && q.2.category == 2)) := by
  intro q hq
  obtain ⟨a, ha, rfl⟩ := List.mem_map.mp hq
  rcases lput_mem ha with rfl | ⟨h1, h2⟩
  · exact List.mem_cons_self
  · refine List.mem_cons_of_mem _ (List.mem_filter.mpr ⟨List.mem_map.mpr ⟨a, h1, rfl⟩, ?_⟩)
    simp only [lgood, Bool.and_eq_true, Bool.not_eq_true', Bool.and_eq_false_iff, nbf] at h2
    simp only [cv_cat, Bool.and_eq_true, Bool.not_eq_true', Bool.and_eq_false_iff, beq_eq_false_iff_ne]
    exact ⟨h2.1, h2.2.1⟩
theorem lput_c2 {z ad : Nat → Nat} {i : Nat} {v : Value} {ls : List (Nat × Value)} (hv : v.category = 2) : ∀ q ∈ cl z ad (lput i v ls), q ∈ (i, cv z ad v) :: (cl z ad ls).filter (fun q => !(q.1 == i) && (!(q.1 == i + 1) && !(q.1 + 1 == i && q.2.category == 2))) := by
  intro q hq
  obtain ⟨a, ha, rfl⟩ := List.mem_map.mp hq
  rcases lput_mem ha with rfl | ⟨h1, h2⟩
  · exact List.mem_cons_self
  · refine List.mem_cons_of_mem _ (List.mem_filter.mpr ⟨List.mem_map.mpr ⟨a, h1, rfl⟩, ?_⟩)
    simp only [lgood, Bool.and_eq_true, Bool.not_eq_true', Bool.and_eq_false_iff, nbf] at h2
    simp only [cv_cat, Bool.and_eq_true, Bool.not_eq_true', Bool.and_eq_false_iff, beq_eq_false_iff_ne]
    refine ⟨h2.1, ?_, h2.2.1⟩
    rcases h2.2.2 with h | h
    · exact absurd hv h
    · exact h
/-! worlds behind a call: a callee's places among the caller's, by a map ρ of places -/
def rvF (ρ : Nat → Nat) : Value → Value
  | .ref k => .ref (ρ k)
  | v => v
def rcF (ρ : Nat → Nat) : EC → EC
  | .inl a => .inl a
  | .inr o => .inr (o.1, o.2.map (rvF ρ))
theorem cv_rv (z ad : Nat → Nat) (ρ : Nat → Nat) (v : Value) : cv z ad (rvF ρ v) = cv z (fun k => ad (ρ k)) v := by cases v <;> rfl
theorem ce_rc (z : Nat → Nat) (aC : FieldType → ClassId) (ad : Nat → Nat) (ρ : Nat → Nat) (c : EC) : ce z aC ad (rcF ρ c) = ce z aC (fun k => ad (ρ k)) c := by
  cases c with
  | inl a => rfl
  | inr o => simp only [rcF, ce, List.map_map, Sum.inr.injEq, Prod.mk.injEq, true_and]; exact List.map_congr_left (fun v _ => cv_rv z ad ρ v)
theorem rvF_id (v : Value) : rvF (fun k => k) v = v := by cases v <;> rfl
theorem rcF_id (c : EC) : rcF (fun k => k) c = c := by
  cases c with
  | inl a => rfl
  | inr o => simp only [rcF]; rw [show o.2.map (rvF fun k => k) = o.2 from (List.map_congr_left (fun v _ => rvF_id v)).trans (List.map_id _)]
/-- the callee's world stands in the caller's -/
def SubF (w : List EC) (ρ : Nat → Nat) (wc : List EC) : Prop := (∀ (k : Nat) (c : EC), wc[k]? = some c → w[ρ k]? = some (rcF ρ c)) ∧ ∀ i j, i < wc.length → j < wc.length → ρ i = ρ j → i = j
/-- the caller's world behind the call -/
def PutF (w : List EC) (ρ : Nat → Nat) (w' w2 : List EC) : Prop := w2.length = w.length ∧ (∀ (k : Nat) (c : EC), w'[k]? = some c → w2[ρ k]? = some (rcF ρ c)) ∧ ∀ i, (∀ k, k < w'.length → ρ k ≠ i) → w2[i]? = w[i]?
theorem SubF.id (w : List EC) : SubF w (fun k => k) w := ⟨fun k c h => by rw [rcF_id]; exact h, fun _ _ _ _ h => h⟩
theorem PutF.id {w w' : List EC} (h : w'.length = w.length) : PutF w (fun k => k) w' w' := ⟨h, fun k c h => by rw [rcF_id]; exact h, fun i hi => by
  have : w'.length ≤ i := Nat.not_lt.mp (fun q => hi i q rfl)
  rw [List.getElem?_eq_none this, List.getElem?_eq_none (by omega)]⟩
theorem PutF.same {w wc : List EC} {ρ : Nat → Nat} (h : SubF w ρ wc) : PutF w ρ wc w := ⟨rfl, h.1, fun _ _ => rfl⟩
section JA
variable {M : JM} {d mc ms n0 pc k n : Nat} {ls : List (Nat × Value)} {st : List Value} {w : List EC} {Q : Option Value → List EC → Prop}
variable {z : Nat → Nat} {D : va_G} {aC : FieldType → ClassId} {A : Nat → Prop} {p : Program} {l : Launch} {e : Env} {R : Room} {s : State} {m : MethodId} {args : Array Value} {below : List Frame} {meth : Method} {c : Code} {H : Heap} {locs : List Loc} {lsA : Array Slot} {ad0 ad : Nat → Nat}
theorem SubF.pp {ρ : Nat → Nat} {wc : List EC} (h : SubF w ρ wc) (hP : va_P D cls0 (cw z aC ad w) H) : va_P D cls0 (cw z aC (fun k => ad (ρ k)) wc) H := by
  intro k q hk
  obtain ⟨c0, h1, rfl⟩ := cw_of hk
  have := hP _ _ (cw_get (h.1 k c0 h1))
  rwa [ce_rc] at this
theorem SubF.lt {ρ : Nat → Nat} {wc : List EC} (h : SubF w ρ wc) {i : Nat} (hi : i < wc.length) : ρ i < w.length := (List.getElem?_eq_some_iff.mp (h.1 i _ (List.getElem?_eq_getElem hi))).1
theorem SubF.dd {ρ : Nat → Nat} {wc : List EC} (h : SubF w ρ wc) (hD : DD A ad w.length) : DD A (fun k => ad (ρ k)) wc.length :=
  ⟨fun i j hi hj e => h.2 i j hi hj (hD.1 _ _ (h.lt hi) (h.lt hj) e), fun i hi => hD.2 _ (h.lt hi)⟩
theorem SubF.aa {ρ : Nat → Nat} {wc : List EC} (h : SubF w ρ wc) (hD : DD A ad w.length) (hA : ∀ q, s.heap.size ≤ q → A q) (hS : va_S A s.heap H locs) : ∀ q, va_A (cw z aC (fun k => ad (ρ k)) wc) H.size q → A q := by
  intro q hq
  rcases hq with ⟨k, e, hk⟩ | hq
  · obtain ⟨c0, h1, h2⟩ := cw_of hk
    rw [show q = ad (ρ k) from congrArg Prod.fst h2]
    exact hD.2 _ (h.lt (List.getElem?_eq_some_iff.mp h1).1)
  · exact hA q (Nat.le_trans hS.1 hq)
/-- behind a call that makes no cells -/
theorem J_after {ρ : Nat → Nat} {wc : List EC} {Qc : Option Value → List EC → Prop} {a : Array Value} {st0 : List Value} {rest : List Value} (hs : SubF w ρ wc)
    (E : JE M d mc ms z D aC A p R s m args meth c) (hn : w.length = n0 + k) (h0 : ∀ i, i < n0 ∨ n0 + k ≤ i → ad i = ad0 i) (hl : lv_has lsA M.2.2.1 (cl z ad ls)) (hP : va_P D cls0 (cw z aC ad w) H) (hD : DD A ad w.length) (hS : va_S A s.heap H locs)
    (hr : va_Run p l e R s m args below meth c H locs k n 0 0 (F0 m pc lsA st0) (rest.map (cv z ad)) (JQ z D aC (va_A (cw z aC (fun k => ad (ρ k)) wc) H.size) (fun k => ad (ρ k)) wc.length 0 Qc a) (va_A (cw z aC (fun k => ad (ρ k)) wc) H.size))
    (kk : ∀ r w', Qc r w' → w'.length = wc.length → ∃ w2, PutF w ρ w' w2 ∧ J M d mc ms n0 (pc + 3) ls ((r.map (rvF ρ)).toList ++ rest) w2 k n Q) :
    W p l e R s m args below meth c H locs k n (MQ below (JQ z D aC A ad0 n0 mc Q) args s mc ms A) (F0 m pc lsA st0) := by
  intro T hT X
  obtain ⟨v, st₀, t, T', L, e0, X', hL, e1, e2, ⟨⟨r, w', ad', hv, hq, hag, hlen, hP', hD'⟩, hF⟩, st⟩ := hr T hT X
  have ha : ad' = fun k => ad (ρ k) := funext fun i => hag i (by omega)
  subst ha
  obtain ⟨w2, ⟨p1, p2, p3⟩, kj⟩ := kk r w' hq hlen
  have hv' : v = r.map (cv z fun k => ad (ρ k)) := by injection hv
  have hsub : ∀ q, va_A (cw z aC (fun k => ad (ρ k)) wc) H.size q → A q := hs.aa hD E.2.2.2.2.2.2.2.2.2.2.1 hS
  obtain ⟨hF1, hF2⟩ := (⟨hF.1, hF.2⟩ : st₀.heap.size ≤ t.heap.size ∧ ∀ q : Nat, q < st₀.heap.size → ¬ va_A (cw z aC (fun k => ad (ρ k)) wc) H.size q → t.heap[q]? = st₀.heap[q]?)
  have hP1 : va_P D cls0 (cw z aC ad w2) T'.heap := by
    intro i q hi
    obtain ⟨c1, h1, rfl⟩ := cw_of hi
    by_cases hx : ∃ k1, k1 < w'.length ∧ ρ k1 = i
    · obtain ⟨k1, g1, rfl⟩ := hx
      have g2 := p2 k1 _ (List.getElem?_eq_getElem g1)
      rw [h1] at g2
      rw [Option.some.inj g2, ce_rc, e1]
      exact hP' k1 _ (cw_get (List.getElem?_eq_getElem g1))
    · have g1 := p3 i (fun k1 hk1 e9 => hx ⟨k1, hk1, e9⟩)
      rw [h1] at g1
      have h4 := hP i _ (cw_get g1.symm)
      refine h4.kept ?_
      have hlt := h4.lt
      rw [e1, hF2 _ (by rw [e0]; exact hlt), e0]
      rintro (⟨k1, e9, hk1⟩ | hge)
      · obtain ⟨c2, g5, g2⟩ := cw_of hk1
        have g3 : ad i = ad (ρ k1) := congrArg Prod.fst g2
        have g6 := (List.getElem?_eq_some_iff.mp g5).1
        have := hD.1 _ _ (List.getElem?_eq_some_iff.mp g1.symm).1 (hs.lt g6) g3
        exact hx ⟨k1, by omega, this.symm⟩
      · exact absurd hlt (Nat.not_lt.mpr hge)
  have hst : v.toList ++ rest.map (cv z ad) = ((r.map (rvF ρ)).toList ++ rest).map (cv z ad) := by
    rw [hv']
    cases r with
    | none => simp
    | some x => simp [cv_rv]
  obtain ⟨t2, a1, b1⟩ := kj z D aC A p l e R s m args below meth c T'.heap (locs ++ L) lsA ad0 ad E (by rw [p1]; exact hn) h0 hl hP1 (by rw [p1]; exact hD)
    ⟨Nat.le_trans hS.1 (by rw [e1, ← e0]; exact hF1), fun q h1 h2 => by rw [e1, hF2 q (by rw [e0]; exact Nat.lt_of_lt_of_le h1 hS.1) (fun h => h2 (hsub q h)), e0]; exact hS.2.1 q h1 h2, fun q hq => by
      rcases List.mem_append.mp hq with h | h
      · exact hS.2.2 q h
      · exact hsub _ (hL q h)⟩ T' rfl X'
  refine ⟨t2, st t2 ?_, b1⟩
  rw [hst]
  exact a1
end JA
/-! the same by lists of places: ι, the callee's places first, then what its cells else refer to -/
def rn (ι : List Nat) (k : Nat) : Nat := ι.getD k 0
abbrev rv (ι : List Nat) : Value → Value := rvF (rn ι)
abbrev rc (ι : List Nat) : EC → EC := rcF (rn ι)
def wput (w : List EC) : List Nat → List EC → List EC
  | i :: is, c :: cs => (wput w is cs).set i c
  | _, _ => w
theorem wput_len (w : List EC) : ∀ (is : List Nat) (cs : List EC), (wput w is cs).length = w.length
  | [], _ => by cases ‹List EC› <;> rfl
  | _ :: _, [] => rfl
  | i :: is, c :: cs => by simp [wput, wput_len w is cs]
/-- ι's first places are the callee's cells, apart from each other -/
def Sub (w : List EC) (ι : List Nat) (wc : List EC) : Prop := (ι.take wc.length).map (fun i => w[i]?) = wc.map (fun c => some (rc ι c)) ∧ va_nd (ι.take wc.length) = true
theorem Sub.at {w : List EC} {ι : List Nat} {wc : List EC} (h : Sub w ι wc) {k : Nat} {c : EC} (hk : wc[k]? = some c) : (ι.take wc.length)[k]? = some (rn ι k) ∧ w[rn ι k]? = some (rc ι c) := by
  have h1 : ((ι.take wc.length).map (fun i => w[i]?))[k]? = some (some (rc ι c)) := by rw [h.1, List.getElem?_map, hk]; rfl
  rw [List.getElem?_map] at h1
  cases hi : (ι.take wc.length)[k]? with
  | none => rw [hi] at h1; cases h1
  | some i =>
    rw [hi] at h1
    have hkl : k < wc.length := (List.getElem?_eq_some_iff.mp hk).1
    have hi2 : ι[k]? = some i := by rw [List.getElem?_take_of_lt hkl] at hi; exact hi
    have hr : rn ι k = i := by simp [rn, List.getD, hi2]
    rw [hr]
    exact ⟨rfl, Option.some.inj h1⟩
theorem Sub.f {w : List EC} {ι : List Nat} {wc : List EC} (h : Sub w ι wc) : SubF w (rn ι) wc := by
  refine ⟨fun k c hk => (h.at hk).2, fun i j hi hj e => ?_⟩
  have a := (h.at (List.getElem?_eq_getElem hi)).1
  have b := (h.at (List.getElem?_eq_getElem hj)).1
  rw [e] at a
  exact va_nd_inj _ h.2 i j _ a b
theorem wput_at (w : List EC) : ∀ (is : List Nat) (cs : List EC), va_nd (is.take cs.length) = true → (∀ i ∈ is.take cs.length, i < w.length) → ∀ (k i : Nat) (c : EC), is[k]? = some i → cs[k]? = some c → (wput w is cs)[i]? = some c
  | [], _, _, _, k, i, c, h, _ => by simp at h
  | _ :: _, [], _, _, k, i, c, _, h => by simp at h
  | a :: is, b :: cs, hn, hlt, k, i, c, h1, h2 => by
    simp only [List.length_cons, List.take_succ_cons, va_nd, Bool.and_eq_true, decide_eq_true_eq] at hn
    have hlt2 : ∀ i ∈ is.take cs.length, i < w.length := fun i hi => hlt i (by rw [List.length_cons, List.take_succ_cons]; exact List.mem_cons_of_mem _ hi)
    have ha : a < w.length := hlt a (by rw [List.length_cons, List.take_succ_cons]; exact List.mem_cons_self)
    cases k with
    | zero =>
      cases h1; cases h2
      rw [wput, List.getElem?_set_self (by rw [wput_len]; exact ha)]
    | succ k =>
      have h1' : is[k]? = some i := h1
      have h2' : cs[k]? = some c := h2
      have hkl : k < cs.length := (List.getElem?_eq_some_iff.mp h2').1
      have hne : a ≠ i := fun e => hn.1 (by rw [e]; exact List.mem_of_getElem? (i := k) (by rw [List.getElem?_take_of_lt hkl]; exact h1'))
      rw [wput, List.getElem?_set_ne hne]
      exact wput_at w is cs hn.2 hlt2 k i c h1' h2'
theorem wput_else (w : List EC) : ∀ (is : List Nat) (cs : List EC) (i : Nat), (∀ k : Nat, k < cs.length → is[k]? ≠ some i) → (wput w is cs)[i]? = w[i]?
  | [], cs, _, _ => by cases cs <;> rfl
  | _ :: _, [], _, _ => rfl
  | a :: is, b :: cs, i, h => by
    rw [wput, List.getElem?_set_ne (fun e => h 0 (by simp) (by rw [e]; rfl))]
    exact wput_else w is cs i (fun k hk e => h (k + 1) (by simp; exact hk) e)
theorem Sub.put {w : List EC} {ι : List Nat} {wc : List EC} (h : Sub w ι wc) {w' : List EC} (hl : w'.length = wc.length) : PutF w (rn ι) w' (wput w ι (w'.map (rc ι))) := by
  have hlen : (w'.map (rc ι)).length = wc.length := by rw [List.length_map, hl]
  have hat : ∀ k, k < wc.length → ι[k]? = some (rn ι k) := fun k hk => by
    have := (h.at (List.getElem?_eq_getElem hk)).1
    rw [List.getElem?_take_of_lt hk] at this
    exact this
  refine ⟨wput_len _ _ _, fun k c hk => ?_, fun i hi => ?_⟩
  · have hkl : k < wc.length := by rw [← hl]; exact (List.getElem?_eq_some_iff.mp hk).1
    refine wput_at w ι _ (by rw [hlen]; exact h.2) (fun i hi => ?_) k _ _ (hat k hkl) (by rw [List.getElem?_map, hk]; rfl)
    rw [hlen] at hi
    obtain ⟨j, hj⟩ := List.getElem?_of_mem hi
    have hjl : j < wc.length := by
      have := (List.getElem?_eq_some_iff.mp hj).1
      rw [List.length_take] at this
      omega
    have := h.at (List.getElem?_eq_getElem hjl)
    rw [this.1] at hj
    rw [← Option.some.inj hj]
    exact (List.getElem?_eq_some_iff.mp this.2).1
  · refine wput_else w ι _ i (fun k hk e => ?_)
    rw [hlen] at hk
    rw [hat k hk] at e
    exact hi k (by omega) (Option.some.inj e)
