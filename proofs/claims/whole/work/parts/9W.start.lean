/-! THE CLAIM OUT OF ONE WALK OF THE LAW'S BODY. Your part is whole_start (and what it stands on); all else here is the same for every law, but numbers. -/
def R_law : String := "TemperCellarLaw"
def lw_P (b : Addr) (xs : List Int32) (args : Array Value) (s : State) : Prop := args = #[.ref b] ∧ s.IntsAt b xs ∧ xs.length ≤ 3072 ∧ (Jvm.Cond.and given_1 narrow_1).before args s = true
def lw_Q (_ : Array Value) (s : State) (o : Outcome) (t : State) : Prop := o = .returned (some (.int 1)) ∧ Framed s o t [] 601024 7293034
def lw_Z (below : List Frame) (a : Array Value) (s : State) : State → Prop := fun t => ∃ o, t.status = .running ∧ Ended t below o ∧ lw_Q a s o t
/-- the law's own end, with 1 on the stack, nothing written that was there before, its room as the claim has it -/
theorem lw_ret {p : Program} {l : Launch} {e : Env} {s : State} {m : MethodId} {below : List Frame} {meth : Method} {c : Code} {b : Nat} (hx : p.tables.exec = Jvm.exec) (hb : c.code = code) (hr : meth.sig.returnType = ret) (hlocks : meth.locks = false) {pc : Nat} {H : Heap} {ls : Array Slot} (hdg : decode code pc = .ok (.ireturn, 1)) : W p l e room_1 s m #[Value.ref b] below meth c H [] 601024 7293034 (lw_Z below #[Value.ref b] s) (F0 m pc ls [.int 1]) := by
  intro T hT X
  obtain ⟨fs, hret, hrun, hended, hW, hframe⟩ := X.leave (v := some (.int 1)) (hlocks := hlocks) (fun h => by rw [hr] at h; cases h)
  have hmeth' : T.vm.method? m = some meth := X.method'
  refine ⟨T.setFrames fs, ?_, .returned (some (.int 1)), hrun, hended, rfl, ⟨_, rfl⟩, hW, hframe⟩
  jvm_step X.here [X.here.top, hx, hb, hdg, hmeth', hr, ret, narrow_b1]
  (try refine ⟨rfl, ?_⟩); (try refine ⟨rfl, ?_⟩)
  first | (intro acts; rw [hret _ acts rfl rfl rfl]) | rw [hret _ _ rfl rfl rfl]
  exact Steps.refl _
/-- what holds at the law's entry: the machine, the code, the tables' words (any of lw_tbl by 'hts w (by decide +kernel)'), the script of L ints xs at the cell b, what the Statement gives of the start (any of its parts by flat_of_before) -/
def lw_At (p : Program) (s : State) (m : MethodId) (meth : Method) (c : Code) (b L : Nat) (xs : Nat → Int32) : Prop :=
  p.tables.exec = Jvm.exec ∧ c.code = code ∧ meth.sig.returnType = ret ∧ c.maxLocals = 7 ∧ s.vm.findClass R_law = some m.cls ∧ (∀ w ∈ lw_tbl, w.before #[Value.ref b] s = true) ∧ va_X b L xs s s.heap ∧ b < s.heap.size ∧ meth.locks = false ∧ (Jvm.Cond.and given_1 narrow_1).before #[Value.ref b] s = true
/-! own: the start of the law (mod_t3.py) -/
def F9 : List Cond := flatC (Jvm.Cond.and given_1 narrow_1)
def tm9 (i : Nat) : Term := .string (S0.getD i ("", 0, "")).1 (S0.getD i ("", 0, "")).2.1
set_option maxRecDepth 100000 in
theorem f9_ex : ∀ i : Nat, i < 4 → Cond.exactly (tm9 i) "java/lang/String" ∈ F9 := by decide +kernel
set_option maxRecDepth 100000 in
theorem f9_co : ∀ i : Nat, i < 4 → Cond.eq (.field (tm9 i) "java/lang/String" "coder" "B") (.int 0) ∈ F9 := by decide +kernel
set_option maxRecDepth 100000 in
theorem f9_ar : ∀ i : Nat, i < 4 → Cond.arrayOf (.field (tm9 i) "java/lang/String" "value" "[B") .byte ∈ F9 := by decide +kernel
set_option maxRecDepth 100000 in
theorem f9_le : ∀ i : Nat, i < 4 → Cond.eq (.length (.field (tm9 i) "java/lang/String" "value" "[B")) (.int (Int32.ofNat (S0len.getD i 0))) ∈ F9 := by decide +kernel
def el9 (i j : Nat) : Cond := Cond.eq (.elem (.field (tm9 i) "java/lang/String" "value" "[B") (.int (Int32.ofNat j))) (.int ((S0byt.getD i []).getD j 0))
theorem f9_in {i n b0 : Nat} (h : (F9.drop b0).take n = (List.range n).map (el9 i)) {j : Nat} (hj : j < n) : el9 i j ∈ F9 := by
  have h1 : el9 i j ∈ (List.range n).map (el9 i) := List.mem_map.mpr ⟨j, List.mem_range.mpr hj, rfl⟩
  rw [← h] at h1
  exact List.mem_of_mem_drop (List.mem_of_mem_take h1)
set_option maxRecDepth 100000 in
theorem f9_e0 : (F9.drop 39).take 96 = (List.range 96).map (el9 0) := by decide +kernel
set_option maxRecDepth 100000 in
theorem f9_e1 : (F9.drop 139).take 14 = (List.range 14).map (el9 1) := by decide +kernel
set_option maxRecDepth 100000 in
theorem f9_e2 : (F9.drop 158).take 12 = (List.range 12).map (el9 2) := by decide +kernel
set_option maxRecDepth 100000 in
theorem f9_e3 : (F9.drop 176).take 96 = (List.range 96).map (el9 3) := by decide +kernel
theorem f9_el : ∀ i : Nat, i < 4 → ∀ j : Nat, j < S0len.getD i 0 → el9 i j ∈ F9 := by
  intro i hi
  rcases (show i = 0 ∨ i = 1 ∨ i = 2 ∨ i = 3 by omega) with rfl | rfl | rfl | rfl
  · exact fun j hj => f9_in f9_e0 hj
  · exact fun j hj => f9_in f9_e1 hj
  · exact fun j hj => f9_in f9_e2 hj
  · exact fun j hj => f9_in f9_e3 hj
set_option maxRecDepth 100000 in
theorem f9_ne : ∀ i : Nat, i < 4 → ∀ j : Nat, j < 4 → i ≠ j → (Cond.not (Cond.eq (tm9 i) (tm9 j)) ∈ F9 ∨ Cond.not (Cond.eq (tm9 j) (tm9 i)) ∈ F9) := by decide +kernel
set_option maxRecDepth 100000 in
theorem f9_cs : Cond.eq (.static "java/lang/String" "COMPACT_STRINGS" "Z") (.int 1) ∈ F9 := by decide +kernel
set_option maxRecDepth 100000 in
theorem f9_fm : Cond.isRef (.static "jdk/internal/util/Preconditions" "SIOOBE_FORMATTER" "Ljava/util/function/BiFunction;") ∈ F9 := by decide +kernel
set_option maxRecDepth 100000 in
theorem f9_us : Cond.isRef (.static Bundle.tN "UNASSIGNED_STACK" Bundle.steD) ∈ F9 := by decide +kernel
set_option maxRecDepth 100000 in
theorem f9_ss : Cond.isRef (.static Bundle.tN "SUPPRESSED_SENTINEL" Bundle.listD) ∈ F9 := by decide +kernel
set_option maxRecDepth 100000 in
theorem f9_nc : Cond.not (Cond.castable "java/util/NoSuchElementException" "java/lang/IndexOutOfBoundsException") ∈ F9 := by decide +kernel
theorem tb_in {w : Cond} (i : Nat) (h : tables_1[i]? = some w) : w ∈ lw_tbl := List.mem_append_right _ (List.mem_of_getElem? h)
set_option maxRecDepth 100000 in
theorem tb_526 : Cond.laysStatic "java/lang/String" "COMPACT_STRINGS" "Z" ∈ lw_tbl := tb_in 526 (by decide +kernel)
set_option maxRecDepth 100000 in
theorem tb_542 : Cond.laysStatic "jdk/internal/util/Preconditions" "SIOOBE_FORMATTER" "Ljava/util/function/BiFunction;" ∈ lw_tbl := tb_in 542 (by decide +kernel)
set_option maxRecDepth 100000 in
theorem tb_1157 : Cond.laysStatic Bundle.tN "UNASSIGNED_STACK" Bundle.steD ∈ lw_tbl := tb_in 1157 (by decide +kernel)
set_option maxRecDepth 100000 in
theorem tb_1159 : Cond.laysStatic Bundle.tN "SUPPRESSED_SENTINEL" Bundle.listD ∈ lw_tbl := tb_in 1159 (by decide +kernel)
set_option maxRecDepth 100000 in
theorem tb_S0 : ∀ q ∈ S0, Cond.stringRef q.1 q.2.1 q.2.2 ∈ lw_tbl := by
  intro q hq
  simp only [S0, List.mem_cons, List.not_mem_nil, or_false] at hq
  rcases hq with rfl | rfl | rfl | rfl
  · exact tb_in 516 (by decide +kernel)
  · exact tb_in 1170 (by decide +kernel)
  · exact tb_in 1205 (by decide +kernel)
  · exact tb_in 1450 (by decide +kernel)
set_option maxRecDepth 100000 in
theorem tb_N2 : ∀ w ∈ N2, w ∈ lw_tbl := by
  intro q hq
  simp only [N2, List.mem_cons, List.not_mem_nil, or_false] at hq
  rcases hq with rfl | rfl | rfl | rfl | rfl
  · exact tb_in 1134 (by decide +kernel)
  · exact tb_in 1136 (by decide +kernel)
  · exact tb_in 1138 (by decide +kernel)
  · exact tb_in 1132 (by decide +kernel)
  · exact tb_in 1198 (by decide +kernel)
theorem arr_of {args : Array Value} {s : State} {ty : FieldType} (h : (Cond.arrayClass ty).before args s = true) : ∃ cA : ClassId, ArrOfT s cA ty ∧ s.vm.findClass ("[" ++ ty.toString) = some cA := by
  obtain ⟨cA, kA, comp, h1, h2, h3⟩ := Cond.arrayClass_spec h
  exact ⟨cA, fun n z => ⟨fun k h => (by cases h), kA, h2, comp, h3⟩, h1⟩
theorem k_all {args : Array Value} {s : State} (hts : ∀ w ∈ T0, w.before args s = true) : ∃ D : va_G, ∀ (c : Nat) (q : vw_C), cls0[c]? = some q → u_Kn s q.1 q.2.1 q.2.2 (D.1 c) (D.2 c) := by
  have hk : ∀ c : Nat, ∃ d : ClassId × (Nat → Nat), ∀ q : vw_C, cls0[c]? = some q → u_Kn s q.1 q.2.1 q.2.2 d.1 d.2 := by
    intro c
    match c with
    | 0 =>
      obtain ⟨cC, iS, h⟩ := u_known hts ki0 (hts _ t247)
      exact ⟨(cC, iS), fun q hq => by cases hq; exact h⟩
    | 1 =>
      obtain ⟨cC, iS, h⟩ := u_known hts ki1 (hts _ t40)
      exact ⟨(cC, iS), fun q hq => by cases hq; exact h⟩
    | 2 =>
      obtain ⟨cC, iS, h⟩ := u_known hts ki2 (hts _ t217)
      exact ⟨(cC, iS), fun q hq => by cases hq; exact h⟩
    | 3 =>
      obtain ⟨cC, iS, h⟩ := u_known hts ki3 (hts _ t365)
      exact ⟨(cC, iS), fun q hq => by cases hq; exact h⟩
    | 4 =>
      obtain ⟨cC, iS, h⟩ := u_known hts ki4 (hts _ t399)
      exact ⟨(cC, iS), fun q hq => by cases hq; exact h⟩
    | 5 =>
      obtain ⟨cC, iS, h⟩ := u_known hts ki5 (hts _ t189)
      exact ⟨(cC, iS), fun q hq => by cases hq; exact h⟩
    | 6 =>
      obtain ⟨cC, iS, h⟩ := u_known hts ki6 (hts _ t34)
      exact ⟨(cC, iS), fun q hq => by cases hq; exact h⟩
    | 7 =>
      obtain ⟨cC, iS, h⟩ := u_known hts ki7 (hts _ t345)
      exact ⟨(cC, iS), fun q hq => by cases hq; exact h⟩
    | 8 =>
      obtain ⟨cC, iS, h⟩ := u_known hts ki8 (hts _ t314)
      exact ⟨(cC, iS), fun q hq => by cases hq; exact h⟩
    | 9 =>
      obtain ⟨cC, iS, h⟩ := u_known hts ki9 (hts _ t26)
      exact ⟨(cC, iS), fun q hq => by cases hq; exact h⟩
    | 10 =>
      obtain ⟨cC, iS, h⟩ := u_known hts ki10 (hts _ t1213)
      exact ⟨(cC, iS), fun q hq => by cases hq; exact h⟩
    | c + 11 => exact ⟨(0, fun _ => 0), fun q hq => by simp [cls0] at hq⟩
  obtain ⟨f, hf⟩ := Classical.axiomOfChoice hk
  exact ⟨(fun c => (f c).1, fun c => (f c).2), fun c q hq => hf c q hq⟩
/-- where the constants lie -/
def z9 (b t9 : Nat) (adK adV : Nat → Nat) : Nat → Nat := fun i => if i = 1000 then b else if i = 99 then t9 else if i < 99 then adK i else adV (i - 100)
theorem z9_k {b t9 i : Nat} {adK adV : Nat → Nat} (h : i < 99) : z9 b t9 adK adV i = adK i := by
  unfold z9
  rw [if_neg (by omega), if_neg (by omega), if_pos h]
theorem z9_v {b t9 i : Nat} {adK adV : Nat → Nat} (h : i < 99) : z9 b t9 adK adV (100 + i) = adV i := by
  unfold z9
  rw [if_neg (by omega), if_neg (by omega), if_neg (by omega), Nat.add_sub_cancel_left]
theorem ex_at {s : State} {b : Nat} (hts : ∀ w ∈ lw_tbl, w.before #[Value.ref b] s = true) (hgv : (Jvm.Cond.and given_1 narrow_1).before #[Value.ref b] s = true) : ∃ z : Nat → Nat, z 1000 = b ∧ EX z (fun q => s.heap.size ≤ q) s := by
  have hs : ∀ c ∈ F9, c.before #[Value.ref b] s = true := flat_of_before _ hgv
  have hA : ∀ a : Nat, a < s.heap.size → ¬ (fun q : Nat => s.heap.size ≤ q) a := fun a h => Nat.not_le.mpr h
  have ht0 := T0_hts hts
  obtain ⟨adK, adV, hS, hev⟩ := vk_Sof (args := #[Value.ref b]) (s := s) (N := 4) (tm := tm9) (len := S0len) (byt := S0byt) (A := fun q : Nat => s.heap.size ≤ q) (by decide) (fun i hi => hs _ (f9_ex i hi)) (fun i hi => hs _ (f9_co i hi)) (fun i hi => hs _ (f9_ar i hi)) (fun i hi => hs _ (f9_le i hi)) (fun i hi j hj => hs _ (f9_el i hi j hj)) (fun i j hi hj hij => (f9_ne i hi j hj hij).imp (hs _) (hs _)) hA
  have hC := va_Zof (A := fun q : Nat => s.heap.size ≤ q) (hts _ tb_526) (ht0 _ t14) (va_eqt (hs _ f9_cs)) hA
  have hF := va_Zqof (A := fun q : Nat => s.heap.size ≤ q) (hts _ tb_542) (ht0 _ t16) (hs _ f9_fm) hA
  obtain ⟨t9, hF⟩ : ∃ t9 : Nat, va_Z "jdk/internal/util/Preconditions" "SIOOBE_FORMATTER" "Ljava/util/function/BiFunction;" .null (fun q : Nat => s.heap.size ≤ q) s s.heap ∨ va_Z "jdk/internal/util/Preconditions" "SIOOBE_FORMATTER" "Ljava/util/function/BiFunction;" (.ref t9) (fun q : Nat => s.heap.size ≤ q) s s.heap := by
    rcases hF with h | ⟨t, h⟩
    · exact ⟨0, Or.inl h⟩
    · exact ⟨t, Or.inr h⟩
  refine ⟨z9 b t9 adK adV, if_pos rfl, fun x hx => va_Nw.of (N0_onT hx) (hts _ (List.mem_append_right _ (N0_in x hx))), ⟨fun i hi => ?_, fun i j hi hj e => ?_⟩, fun i q hq => ?_, hC, hF⟩
  · have e1 : (fun k => z9 b t9 adK adV (100 + k)) i = adV i := z9_v (by omega)
    rw [e1, z9_k (show i < 99 by omega)]
    exact hS.1 i hi
  · rw [z9_k (by omega), z9_k (by omega)] at e
    exact hS.2 i j hi hj e
  · have hi : i < 4 := (List.getElem?_eq_some_iff.mp hq).1
    rw [z9_k (by omega)]
    have he : S0.getD i ("", 0, "") = q := by rw [List.getD, hq]; rfl
    have h2 := hev i hi
    unfold tm9 at h2
    rw [he] at h2
    exact vk_R.of (A := #[Value.ref b]) (hts _ (tb_S0 q (List.mem_of_getElem? hq))) h2
theorem ex2_at {s : State} {b : Nat} (hts : ∀ w ∈ lw_tbl, w.before #[Value.ref b] s = true) (hgv : (Jvm.Cond.and given_1 narrow_1).before #[Value.ref b] s = true) : EX2 (fun q => s.heap.size ≤ q) s := by
  have hs : ∀ c ∈ F9, c.before #[Value.ref b] s = true := flat_of_before _ hgv
  have hA : ∀ a : Nat, a < s.heap.size → ¬ (fun q : Nat => s.heap.size ≤ q) a := fun a h => Nat.not_le.mpr h
  have ht0 := T0_hts hts
  exact ⟨vx_Zqof (hts _ tb_1157) (ht0 _ t18) (hs _ f9_us) hA, vx_Zqof (hts _ tb_1159) (ht0 _ t18) (hs _ f9_ss) hA, va_Nc.of (hs _ f9_nc), fun w hw => va_Nw.of (N2_onT hw) (hts _ (tb_N2 w hw))⟩
theorem k9_at {args : Array Value} {s : State} (hts : ∀ w ∈ T0, w.before args s = true) : ∃ (D : va_G) (aC : FieldType → ClassId), va_K D cls0 (tys aC) s := by
  obtain ⟨D, hD⟩ := k_all hts
  obtain ⟨ci, i1, i2⟩ := arr_of (hts _ t81)
  obtain ⟨cb, b1, b2⟩ := arr_of (hts _ t80)
  obtain ⟨cz, z1, z2⟩ := arr_of (hts _ t397)
  obtain ⟨cj, j1, j2⟩ := arr_of (hts _ t343)
  refine ⟨D, fun t => match t with | .int => ci | .byte => cb | .boolean => cz | _ => cj, hD, fun k q hq => ?_⟩
  match k, hq with
  | 0, hq => cases hq; exact ⟨i1, i2⟩
  | 1, hq => cases hq; exact ⟨b1, b2⟩
  | 2, hq => cases hq; exact ⟨z1, z2⟩
  | 3, hq => cases hq; exact ⟨j1, j2⟩
  | k + 4, hq => simp [tys] at hq
theorem whole_start {p : Program} {e : Env} {s : State} {m : MethodId} {below : List Frame} {meth : Method} {c : Code} (l : Launch) (hflags : l.flags = flags0) {b L : Nat} {xs : Nat → Int32} (hL : L ≤ 3072) (C0 : lw_At p s m meth c b L xs) : W p l e room_1 s m #[Value.ref b] below meth c s.heap [] 0 0 (lw_Z below #[Value.ref b] s) (entryFrame m ([Value.ref b] : List Value).toArray 7) := by
  obtain ⟨hx, hb, hr, hml, hown, hts, hX, hbl, hlocks, hgv⟩ := id C0
  obtain ⟨z, hz, hE⟩ := ex_at hts hgv
  have hE2 := ex2_at hts hgv
  have ht0 := T0_hts hts
  obtain ⟨D, aC, hK⟩ := k9_at ht0
  have hl := lv_entry ([.ref b]) (n := 7) (Nat.le_of_ble_eq_true rfl)
  rw [lg_entry_eq]
  refine L_all hL cs_4 z D aC p l e s m below meth c s.heap [] _ (fun i => i) b (lw_Z below #[Value.ref b] s) ⟨hx, hb, hr, hml, hown, ht0, hlocks, ⟨hE, hE2⟩, hK, hX, hbl, hz, hflags, fun H pc ls hd => lw_ret hx hb hr hlocks hd⟩ ?_ (fun k q h => nomatch h) ⟨fun i j hi => absurd hi (Nat.not_lt_zero i), fun i hi => absurd hi (Nat.not_lt_zero i)⟩ va_S.rf
  show lv_has _ 7 [(0, Value.ref (z 1000))]
  rw [hz]
  exact hl
set_option maxHeartbeats 4000000 in
theorem lw_walk (l : Launch) (hflags : l.flags = flags0) (b : Addr) (xs : List Int32) : MetFree l x (headSpec (Jvm.Cond.code x code maxLocals ret :: tables_1) room_1) (lw_P b xs) (fun _ _ _ _ _ => True) lw_Q := by
  refine MetFree.of_bodyS (code := code) (maxLocals := maxLocals) (ret := ret) (by decide) ?_ ?_
  · intro args s m h hn
    obtain ⟨meth, c, h1, h2, h3, h4, h5, h6, -, -⟩ := Cond.code_spec hn (atoms_spec (ws := Jvm.Cond.code x code maxLocals ret :: tables_1) h _ List.mem_cons_self)
    exact ⟨meth, c, h1, h2, h3, h4, h5, h6⟩
  · intro p e s m args below meth c s₁ B hml0 hP _
    obtain ⟨rfl, hx, hbd, hgv⟩ := hP
    obtain ⟨scr, harrAt, hlist, hof, hsmall⟩ := hx
    obtain ⟨hcb, hkn, -, -⟩ := State.arrayAt?_spec harrAt
    have hown : s.vm.findClass R_law = some m.cls := findClass_of_methodNamed B.named
    have hts0 : ∀ c ∈ (Jvm.Cond.code x code maxLocals ret :: tables_1), c.before #[Value.ref b] s = true := atoms_spec (ws := Jvm.Cond.code x code maxLocals ret :: tables_1) B.pre
    have hts : ∀ w ∈ lw_tbl, w.before #[Value.ref b] s = true := k2_hts_sels lw_privs (fun w hw => hts0 w (List.mem_cons_of_mem _ hw)) lw_privs_ok
    have hml : c.maxLocals = 7 := B.maxLocals_eq (hts0 _ List.mem_cons_self)
    have X₀ : Stand p l e room_1 s m #[Value.ref b] below meth c s₁ [] 0 0 := Stand.of_body B
    have hh0 : s₁.heap = s.heap := by rw [B.state]; rfl
    have hsz : scr.slots.size = xs.length := by rw [← Array.length_toList, hlist, List.length_map]
    have hval : ∀ j : Nat, j < xs.length → scr.slots[j]? = some (.int (xs.getD j 0)) := fun j hj => by
      rw [← Array.getElem?_toList, hlist]
      simp [hj]
    have hbl : b < s.heap.size := (Array.getElem?_eq_some_iff.mp hcb).1
    have hX : va_X b xs.length (fun j => xs.getD j 0) s s.heap := ⟨scr, hcb, hof, hkn, hsz, hval⟩
    have K : W p l e room_1 s m #[Value.ref b] below meth c s₁.heap [] 0 0 (lw_Z below #[Value.ref b] s) (entryFrame m ([Value.ref b] : List Value).toArray 7) := by
      rw [hh0]
      exact whole_start l hflags hbd ⟨B.exec, B.bytes, B.returns, hml, hown, hts, hX, hbl, B.notSynchronized, hgv⟩
    obtain ⟨t, a1, o, b1, b2, b3⟩ := K s₁ rfl X₀
    exact ⟨t, o, a1, b1, b2, b3⟩
theorem lw_pre_spec {args : Array Value} {s : State} (h : (Jvm.Cond.and given_1 narrow_1).before args s = true) (hr : rest_1_c.before args s = true) : ∃ (b : Addr) (xs : List Int32), lw_P b xs args s := by
  have hs := flat_of_before _ h
  have hq := flat_of_before _ hr
  have hc : (Cond.count 1).before args s = true := hs _ (by decide +kernel)
  have harr : (Cond.arrayOf (.arg 0) .int).before args s = true := hs _ (by decide +kernel)
  have hle : (Cond.le (.length (.arg 0)) (.int 3072)).before args s = true := hs _ (by decide +kernel)
  have hlen : (Cond.isInt (.length (.arg 0))).before args s = true := hq _ (by decide +kernel)
  have hall : (Cond.all (.arg 0) (.isInt (.elem (.arg 0) (.index 0)))).before args s = true := hq _ (by decide +kernel)
  obtain ⟨b, xs, hb, hx⟩ := State.ints_of_pre rfl harr hlen hall
  have hsm : xs.length < 2 ^ 31 := hx.choose_spec.2.2.2
  have hev : (Term.length (.arg 0)).eval args s none [] s = some (.int xs.length.toInt32) := hx.length_eval hb
  have hv := Cond.le_ints hev (show (Term.int 3072).eval args s none [] s = some (.int 3072) from rfl)
  have hd : xs.length.toInt32 ≤ 3072 := by
    simpa [Cond.before, Cond.holds, hv] using hle
  have hN : xs.length ≤ 3072 := (Int32.ofNat_le_ofNat hsm (by decide)).mp (show Int32.ofNat xs.length ≤ Int32.ofNat 3072 from hd)
  exact ⟨b, xs, Cond.one_arg hc (show args[0]? = some (.ref b) from hb), hx, hN, h⟩
theorem lw_comes (l : Launch) (hflags : l.flags = flags0) : Comes l x (Jvm.Cond.code x code maxLocals ret :: tables_1) room_1 (fun tb e args s => Calls_1 tb e args s ∧ rest_1 tb e args s ∧ Pre_1 tb e args s)
    (fun _ _ args s o t => lw_Q args s o t) := by
  intro p e ha hc hk s m args below hf hfit hheap happ hpre
  obtain ⟨b, xs, hP⟩ := lw_pre_spec hpre.2.2 hpre.2.1
  obtain ⟨k, o, h1, h2, h3, hQ⟩ := lw_walk l hflags b xs p e ha hc hk s m args below hf ((Spec.applies_iff_loose hf).mp happ).1 hP trivial
  exact ⟨k, o, h1, h2, h3, hQ⟩
theorem lw_frame {s t : State} {o : Outcome} {args : Array Value} (h : Framed s o t [] 601024 7293034) :
    Framed s o t (fieldLocs frame_1_writes args s ++ arrayLocs frame_1_arrays args s ++ staticLocs frame_1_statics s) 601024 7293034 := h
theorem lw_limb (L : Cond) (hL : ∀ (args : Array Value) (s t : State), L.after args s (.returned (some (.int 1))) t = true) :
    ArmFor flags0 classFile x code maxLocals ret World_1 tables_1 room_1 Calls_1 rest_1 Pre_1
      (fun tb e a s o t => postC L tb e a s o t ∧ Framed s o t (fieldLocs frame_1_writes a s ++ arrayLocs frame_1_arrays a s ++ staticLocs frame_1_statics s) 601024 7293034) := by
  intro l hflags _ _ p e ha hc hk s m args below hf hfit hheap happ hpre
  obtain ⟨k, o, h1, h2, h3, rfl, hF⟩ := lw_comes l hflags p e ha hc hk s m args below hf hfit hheap happ hpre
  exact ⟨k, _, h1, h2, h3, hL args s _, lw_frame hF⟩
theorem i_vc : Claimed_1_1 ∧ Claimed_1_2 := ⟨lw_limb limb_1_1 (fun args s t => by simp [limb_1_1, Cond.after, Cond.holds, Cond.value]), lw_limb limb_1_2 (fun args s t => Cond.after_iff.mpr (by
  first | (rw [show limb_1_2 = Cond.eq .result (.int 1) from rfl, Cond.eq_ints (x := 1) (y := 1) rfl rfl]; simp; done) | (simp [limb_1_2, Cond.value, Term.eval]; done)))⟩
