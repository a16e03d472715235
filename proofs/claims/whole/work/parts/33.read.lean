/-! a caller's world behind a call, named by the caller (own) -/
def inL (i : Nat) : List Nat → Bool
  | [] => false
  | j :: js => bif Nat.beq i j then true else inL i js
def mskF (ι : List Nat) : Nat → List EC → List (Option EC)
  | _, [] => []
  | i, c :: cs => (bif inL i ι then none else some c) :: mskF ι (i + 1) cs
theorem inL_mem {i : Nat} : ∀ (l : List Nat), inL i l = true → i ∈ l
  | [], h => by cases h
  | j :: js, h => by
    unfold inL at h
    cases hb : Nat.beq i j with
    | true => rw [Nat.eq_of_beq_eq_true hb]; exact List.mem_cons_self
    | false => rw [hb] at h; exact List.mem_cons_of_mem _ (inL_mem js h)
theorem mskF_get (ι : List Nat) : ∀ (w : List EC) (i k : Nat), (mskF ι i w)[k]? = (w[k]?).map (fun c => bif inL (i + k) ι then none else some c)
  | [], _, _ => rfl
  | c :: cs, i, 0 => rfl
  | c :: cs, i, k + 1 => by
    have h := mskF_get ι cs (i + 1) k
    rw [show i + 1 + k = i + (k + 1) by omega] at h
    exact h
def Put (w : List EC) (ι : List Nat) (w' w2 : List EC) : Prop := w2.length = w.length ∧ Sub w2 ι w' ∧ mskF (ι.take w'.length) 0 w2 = mskF (ι.take w'.length) 0 w
theorem Put.f {w : List EC} {ι : List Nat} {w' w2 : List EC} (h : Put w ι w' w2) : PutF w (rn ι) w' w2 := by
  obtain ⟨h1, h2, h3⟩ := h
  refine ⟨h1, fun k c hk => (h2.at hk).2, fun i hi => ?_⟩
  have hn : inL i (ι.take w'.length) = false := by
    cases hb : inL i (ι.take w'.length) with
    | false => rfl
    | true =>
      obtain ⟨k, hk⟩ := List.getElem?_of_mem (inL_mem _ hb)
      have hkl : k < w'.length := by
        have := (List.getElem?_eq_some_iff.mp hk).1
        rw [List.length_take] at this
        omega
      have := (h2.at (List.getElem?_eq_getElem hkl)).1
      rw [hk] at this
      exact absurd (Option.some.inj this).symm (hi k hkl)
  have h4 := congrArg (fun l => l[i]?) h3
  simp only [mskF_get, Nat.zero_add, hn, cond_false] at h4
  cases ha : w2[i]? with
  | none =>
    rw [ha] at h4
    cases hb : w[i]? with
    | none => rfl
    | some y => rw [hb] at h4; cases h4
  | some x =>
    rw [ha] at h4
    cases hb : w[i]? with
    | none => rw [hb] at h4; cases h4
    | some y =>
      rw [hb] at h4
      have h5 : some (some x) = some (some y) := h4
      rw [Option.some.inj h5]
section RP
variable {M : JM} {d mc ms n0 pc k n : Nat} {ls : List (Nat × Value)} {st : List Value} {w : List EC} {Q : Option Value → List EC → Prop} {Mc : JM} {idx ci na dc : Nat} {fs ac rest : List Value} {ι : List Nat} {wc : List EC} {Qc : Option Value → List EC → Prop} {host : String} {v : Value}
theorem J_callVP (hd : decode M.2.1 pc = .ok (.invokevirtual idx, 3)) (hm : MV Mc na) (hk : Cond.methodLink M.1.cls idx Mc.1 ∈ T0) (hT : Tr dc 0 0 Mc (.ref 0 :: ac) wc Qc) (hdc : dc + 1 ≤ d) (hc : (cls0[ci]?).map (fun q => q.1) = some Mc.1.cls) (hw0 : wc[0]? = some (.inr (ci, fs))) (hs : Sub w ι wc) (hna : ac.length = na) (hst : st = (ac.map (rv ι)).reverse ++ .ref (rn ι 0) :: rest) (hro : Nat.ble (rest.map (fun v => v.category)).sum 8 = true) (hkm : Nat.ble k mc = true) (hnm : Nat.ble n ms = true) (kk : ∀ r w', Qc r w' → w'.length = wc.length → ∃ w2, Put w ι w' w2 ∧ J M d mc ms n0 (pc + 3) ls ((r.map (rv ι)).toList ++ rest) w2 k n Q) : J M d mc ms n0 pc ls st w k n Q := J_gV hd hm hk hT hdc hc hw0 hs.f hna hst hro hkm hnm (fun r w' hq hl => by
  obtain ⟨w2, h1, h2⟩ := kk r w' hq hl
  exact ⟨w2, h1.f, h2⟩)
end RP

/-! READER: its small steps (own; walks by program wk.py) -/
abbrev TK : Type := Nat × Nat × (Nat → Int32) × (Nat → Int32) × (Nat → Int32) × (Nat → Int32)
/-- the token it is at; the fault; its place -/
abbrev RC : Type := Nat × Int32 × Int32
abbrev RS : Type := RC × (Int32 × Int32) × (Nat × Nat × Nat) × (Int32 × Int32) × (Nat × Nat) × (Nat → Nat → Int32) × (Nat → Nat → Int32)
def tvR (R : RS) : TV := (fun k => bif Nat.beq k 0 then nI R.2.2.1.1 else bif Nat.beq k 3 then nI R.2.2.1.2.1 else bif Nat.beq k 10 then nI R.2.2.1.2.2 else bif Nat.beq k 15 then R.2.2.2.1.1 else R.2.2.2.1.2, R.2.2.2.2.2.1, fun k => bif Nat.beq k 4 then nI R.2.2.2.2.1.1 else nI R.2.2.2.2.1.2, R.2.2.2.2.2.2)
def rdrW (K : TK) (R : RS) : List EC := .inr (2, [.ref 1, .int (nI R.1.1), .ref 6, .int R.2.1.1, .int R.2.1.2, .int R.1.2.1, .int R.1.2.2]) :: .inr (5, [.ref 2, .ref 3, .ref 4, .ref 5, .int (nI K.1), .int (nI K.2.1)]) :: bA 700 K.2.2.1 :: iA 701 K.2.2.2.1 :: iA 701 K.2.2.2.2.1 :: iA 701 K.2.2.2.2.2 :: toldC 6 (tvR R)
def KI (K : TK) (c : Nat) : Prop := c ≤ 700 ∧ K.2.2.2.1 c = nI 34
def RI (c : Nat) (R : RS) : Prop := R.1.1 ≤ c ∧ R.2.2.1.1 ≤ 5 ∧ R.2.2.1.2.1 ≤ 10 ∧ R.2.2.1.2.2 ≤ 8 ∧ R.2.2.2.2.1.1 ≤ 64 ∧ R.2.2.2.2.1.2 ≤ 64
abbrev rQ (K : TK) (R : RS) : Option Value → List EC → Prop := fun r w' => r = none ∧ w' = rdrW K R
abbrev rQv (K : TK) (v : Int32) (R : RS) : Option Value → List EC → Prop := fun r w' => r = some (.int v) ∧ w' = rdrW K R
def stepC (K : TK) (c : RC) : RC := if K.2.2.2.1 c.1 = nI 34 then c else (c.1 + 1, c.2)
def refC (K : TK) (f : Int32) (c : RC) : RC := if c.2.1 = 0 then (c.1, f, K.2.2.2.2.1 c.1) else c
def takC (K : TK) (x : Int32) (c : RC) : RC := if c.2.1 = 0 then (if K.2.2.2.1 c.1 = x then stepC K c else refC K (nI 1) c) else c
def numC1 (K : TK) (lo hi : Int32) (c : RC) : RC := if c.2.1 = 0 ∧ K.2.2.2.1 c.1 = nI 29 ∧ ¬ (lo ≤ K.2.2.2.2.2 c.1 ∧ K.2.2.2.2.2 c.1 ≤ hi) then refC K (nI 2) c else c
def numC (K : TK) (lo hi : Int32) (c : RC) : RC := takC K (nI 29) (numC1 K lo hi c)
def numV (K : TK) (lo hi : Int32) (c : RC) : Int32 := if (numC K lo hi c).2.1 = 0 then K.2.2.2.2.2 c.1 else nI 0
def newC1 (K : TK) (al : Int32) (c : RC) : RC := if c.2.1 = 0 ∧ K.2.2.2.1 c.1 = nI 30 ∧ ¬ al = -1 then refC K (nI 3) c else c
def newC (K : TK) (al : Int32) (c : RC) : RC := takC K (nI 30) (newC1 K al c)
def perC1 (K : TK) (q : Int32) (c : RC) : RC := if c.2.1 = 0 ∧ K.2.2.2.1 c.1 = nI 30 ∧ q = -1 then refC K (nI 4) c else c
def perC2 (K : TK) (q oth : Int32) (c : RC) : RC := if c.2.1 = 0 ∧ K.2.2.2.1 c.1 = nI 30 ∧ q = oth then refC K (nI 5) c else c
def perC (K : TK) (q oth : Int32) (c : RC) : RC := takC K (nI 30) (perC2 K q oth (perC1 K q c))
def perV (K : TK) (q oth : Int32) (c : RC) : Int32 := if (perC K q oth c).2.1 = 0 then q else -1
def putR (x y : Int32) (R : RS) : RS := if R.2.2.2.2.1.1 < 64 then (R.1, (R.2.1.1, R.2.1.2), (R.2.2.1.1, R.2.2.1.2.1, R.2.2.1.2.2), (R.2.2.2.1.1, R.2.2.2.1.2), (R.2.2.2.2.1.1 + 1, R.2.2.2.2.1.2), R.2.2.2.2.2.1, upA (upA R.2.2.2.2.2.2 2 (upd (R.2.2.2.2.2.2 2) R.2.2.2.2.1.1 x)) 3 (upd (R.2.2.2.2.2.2 3) R.2.2.2.2.1.1 y)) else R
def tkC (K : TK) (kn : Nat) (c : RC) : RC := if kn < 64 then c else refC K (nI 2) c
def tkR (K : TK) (R : RS) : RS := if (tkC K R.2.2.2.2.1.2 R.1).2.1 = 0 then (stepC K (tkC K R.2.2.2.2.1.2 R.1), (R.2.1.1, R.2.1.2), (R.2.2.1.1, R.2.2.1.2.1, R.2.2.1.2.2), (R.2.2.2.1.1, R.2.2.2.1.2), (R.2.2.2.2.1.1, R.2.2.2.2.1.2 + 1), R.2.2.2.2.2.1, R.2.2.2.2.2.2) else (tkC K R.2.2.2.2.1.2 R.1, R.2)
theorem stepC_le {K : TK} {n : Nat} {c : RC} (hK : KI K n) (h : c.1 ≤ n) : (stepC K c).1 ≤ n := by
  unfold stepC
  split
  · exact h
  · next q =>
    have hne : c.1 ≠ n := fun e => q (by rw [e]; exact hK.2)
    show c.1 + 1 ≤ n
    omega
theorem refC_1 {K : TK} {f : Int32} {c : RC} : (refC K f c).1 = c.1 := by unfold refC; split <;> rfl
theorem stepC_2 {K : TK} {c : RC} : (stepC K c).2 = c.2 := by unfold stepC; split <;> rfl
theorem takC_le {K : TK} {n : Nat} {x : Int32} {c : RC} (hK : KI K n) (h : c.1 ≤ n) : (takC K x c).1 ≤ n := by
  unfold takC
  split
  · split
    · exact stepC_le hK h
    · rw [refC_1]; exact h
  · exact h
theorem numC1_1 {K : TK} {lo hi : Int32} {c : RC} : (numC1 K lo hi c).1 = c.1 := by unfold numC1; split <;> first | exact refC_1 | rfl
theorem newC1_1 {K : TK} {al : Int32} {c : RC} : (newC1 K al c).1 = c.1 := by unfold newC1; split <;> first | exact refC_1 | rfl
theorem perC1_1 {K : TK} {al : Int32} {c : RC} : (perC1 K al c).1 = c.1 := by unfold perC1; split <;> first | exact refC_1 | rfl
theorem perC2_1 {K : TK} {al x : Int32} {c : RC} : (perC2 K al x c).1 = c.1 := by unfold perC2; split <;> first | exact refC_1 | rfl
theorem numC_le {K : TK} {n : Nat} {lo hi : Int32} {c : RC} (hK : KI K n) (h : c.1 ≤ n) : (numC K lo hi c).1 ≤ n := takC_le hK (by rw [numC1_1]; exact h)
theorem newC_le {K : TK} {n : Nat} {al : Int32} {c : RC} (hK : KI K n) (h : c.1 ≤ n) : (newC K al c).1 ≤ n := takC_le hK (by rw [newC1_1]; exact h)
theorem perC_le {K : TK} {n : Nat} {q x : Int32} {c : RC} (hK : KI K n) (h : c.1 ≤ n) : (perC K q x c).1 ≤ n := takC_le hK (by rw [perC2_1, perC1_1]; exact h)
theorem RI.core {n : Nat} {R : RS} {c : RC} (h : RI n R) (hc : c.1 ≤ n) : RI n (c, R.2) := ⟨hc, h.2⟩
theorem putR_I {n : Nat} {R : RS} {x y : Int32} (h : RI n R) : RI n (putR x y R) := by
  unfold putR
  obtain ⟨h1, h2, h3, h4, h5, h6⟩ := h
  split
  · exact ⟨h1, h2, h3, h4, by show R.2.2.2.2.1.1 + 1 ≤ 64; omega, h6⟩
  · exact ⟨h1, h2, h3, h4, h5, h6⟩
theorem tkC_1 {K : TK} {kn : Nat} {c : RC} : (tkC K kn c).1 = c.1 := by unfold tkC; split <;> first | exact refC_1 | rfl
theorem tkC_f {K : TK} {kn : Nat} {c : RC} (h : (tkC K kn c).2.1 = 0) : kn < 64 ∧ tkC K kn c = c := by
  unfold tkC at h ⊢
  split
  · next q => exact ⟨q, rfl⟩
  · next q =>
    rw [if_neg q] at h
    unfold refC at h
    split at h
    · exact absurd h (by show ¬ nI 2 = 0; decide)
    · next r => exact absurd h r
theorem tkR_I {K : TK} {n : Nat} {R : RS} (hK : KI K n) (h : RI n R) : RI n (tkR K R) := by
  unfold tkR
  obtain ⟨h1, h2, h3, h4, h5, h6⟩ := h
  split
  · next q =>
    exact ⟨stepC_le hK (by rw [tkC_1]; exact h1), h2, h3, h4, h5, by have := (tkC_f q).1; show R.2.2.2.2.1.2 + 1 ≤ 64; omega⟩
  · exact ⟨by show (tkC K R.2.2.2.2.1.2 R.1).1 ≤ n; rw [tkC_1]; exact h1, h2, h3, h4, h5, h6⟩

theorem c2_kind {d n : Nat} {K : TK} {R : RS} (hK : KI K n) (hI : RI n R) : TR d m2_kind [.ref 0] (rdrW K R) (.int (K.2.2.2.1 R.1.1)) := by
  have hb : R.1.1 ≤ 700 := Nat.le_trans hI.1 hK.1
  refine Tr.intro (by decide) rfl ?_
  refine J_aload_n (pc := 0) D2_kind_0 rfl ?_
  refine J_getf (pc := 1) D2_kind_1 fl2_15 rfl rfl ?_
  refine J_getf (pc := 4) D2_kind_4 fl2_48 rfl rfl ?_
  refine J_aload_n (pc := 7) D2_kind_7 rfl ?_
  refine J_getf (pc := 8) D2_kind_8 fl2_38 rfl rfl ?_
  refine J_iald (pc := 11) D2_kind_11 rfl rfl (by omega) rfl ?_
  refine J_iret (pc := 12) D2_kind_12 rfl ?_
  exact ⟨rfl, rfl⟩
theorem c2_value {d n : Nat} {K : TK} {R : RS} (hK : KI K n) (hI : RI n R) : TR d m2_value [.ref 0] (rdrW K R) (.int (K.2.2.2.2.2 R.1.1)) := by
  have hb : R.1.1 ≤ 700 := Nat.le_trans hI.1 hK.1
  refine Tr.intro (by decide) rfl ?_
  refine J_aload_n (pc := 0) D2_value_0 rfl ?_
  refine J_getf (pc := 1) D2_value_1 fl2_15 rfl rfl ?_
  refine J_getf (pc := 4) D2_value_4 fl2_53 rfl rfl ?_
  refine J_aload_n (pc := 7) D2_value_7 rfl ?_
  refine J_getf (pc := 8) D2_value_8 fl2_38 rfl rfl ?_
  refine J_iald (pc := 11) D2_value_11 rfl rfl (by omega) rfl ?_
  refine J_iret (pc := 12) D2_value_12 rfl ?_
  exact ⟨rfl, rfl⟩
theorem c2_step {d n : Nat} {K : TK} {R : RS} (hK : KI K n) (hI : RI n R) : Tr (d + 1) 0 0 m2_step [.ref 0] (rdrW K R) (rQ K (stepC K R.1, R.2)) := by
  refine Tr.intro (by decide) rfl ?_
  refine J_aload_n (pc := 0) D2_step_0 rfl ?_
  refine J_callVTR (pc := 1) (ac := []) D2_step_1 m2_kind_v t584 (c2_kind (d := d) hK hI) (by omega) rfl rfl rfl rfl (fun _ => rfl) rfl rfl rfl ?_
  refine J_bipush (pc := 4) (v := (nI 34)) D2_step_4 (by decide) ?_
  refine J_icmp_eq (pc := 6) (tgt := 19) D2_step_6 (by decide) (fun h6 => ?_) (fun h6 => ?_)
  · have h6' := eq_true h6
    refine J_vret (pc := 19) D2_step_19 rfl ?_
    refine ⟨rfl, ?_⟩
    rw [stepC, if_pos h6]
    try rfl
  · refine J_aload_n (pc := 9) D2_step_9 rfl ?_
    refine J_dup (pc := 10) D2_step_10 rfl ?_
    refine J_getf (pc := 11) D2_step_11 fl2_38 rfl rfl ?_
    refine J_iconst (pc := 14) (v := (nI 1)) D2_step_14 (by decide) ?_
    refine J_iadd (pc := 15) D2_step_15 ?_
    refine J_st [.int (nI (R.1.1 + 1)), .ref 0] (by rw [show nI R.1.1 + nI 1 = nI (R.1.1 + 1) from nI_1 _]) ?_
    refine J_putf (pc := 16) D2_step_16 fp2_38 rfl Fit.int rfl ?_
    refine J_vret (pc := 19) D2_step_19 rfl ?_
    refine ⟨rfl, ?_⟩
    rw [stepC, if_neg h6]
    try rfl
theorem c2_refuse {f : Int32} {d n : Nat} {K : TK} {R : RS} (hK : KI K n) (hI : RI n R) : Tr d 0 0 m2_refuse [.ref 0, .int f] (rdrW K R) (rQ K (refC K f R.1, R.2)) := by
  have hb : R.1.1 ≤ 700 := Nat.le_trans hI.1 hK.1
  refine Tr.intro (by decide) rfl ?_
  refine J_aload_n (pc := 0) D2_refuse_0 rfl ?_
  refine J_getf (pc := 1) D2_refuse_1 fl2_35 rfl rfl ?_
  refine J_if_ne (pc := 4) (tgt := 28) D2_refuse_4 (by decide) (fun h4 => ?_) (fun h4 => ?_)
  · refine J_vret (pc := 28) D2_refuse_28 rfl ?_
    refine ⟨rfl, ?_⟩
    rw [refC, if_neg h4]
    try rfl
  · have h4' := eq_true h4
    refine J_aload_n (pc := 7) D2_refuse_7 rfl ?_
    refine J_iload_n (pc := 8) D2_refuse_8 rfl ?_
    refine J_putf (pc := 9) D2_refuse_9 fp2_35 rfl Fit.int rfl ?_
    refine J_aload_n (pc := 12) D2_refuse_12 rfl ?_
    refine J_aload_n (pc := 13) D2_refuse_13 rfl ?_
    refine J_getf (pc := 14) D2_refuse_14 fl2_15 rfl rfl ?_
    refine J_getf (pc := 17) D2_refuse_17 fl2_56 rfl rfl ?_
    refine J_aload_n (pc := 20) D2_refuse_20 rfl ?_
    refine J_getf (pc := 21) D2_refuse_21 fl2_38 rfl rfl ?_
    refine J_iald (pc := 24) D2_refuse_24 rfl rfl (by omega) rfl ?_
    refine J_putf (pc := 25) D2_refuse_25 fp2_9 rfl Fit.int rfl ?_
    refine J_vret (pc := 28) D2_refuse_28 rfl ?_
    refine ⟨rfl, ?_⟩
    rw [refC, if_pos h4]
    try rfl
theorem c2_take {x : Int32} {d n : Nat} {K : TK} {R : RS} (hK : KI K n) (hI : RI n R) : Tr (d + 2) 0 0 m2_take [.ref 0, .int x] (rdrW K R) (rQ K (takC K x R.1, R.2)) := by
  refine Tr.intro (by decide) rfl ?_
  refine J_aload_n (pc := 0) D2_take_0 rfl ?_
  refine J_getf (pc := 1) D2_take_1 fl2_35 rfl rfl ?_
  refine J_if_eq (pc := 4) (tgt := 8) D2_take_4 (by decide) (fun h4 => ?_) (fun h4 => ?_)
  · have h4' := eq_true h4
    refine J_aload_n (pc := 8) D2_take_8 rfl ?_
    refine J_callVTR (pc := 9) (ac := []) D2_take_9 m2_kind_v t584 (c2_kind (d := d + 1) hK hI) (by omega) rfl rfl rfl rfl (fun _ => rfl) rfl rfl rfl ?_
    refine J_iload_n (pc := 12) D2_take_12 rfl ?_
    refine J_icmp_eq (pc := 13) (tgt := 22) D2_take_13 (by decide) (fun h13 => ?_) (fun h13 => ?_)
    · have h13' := eq_true h13
      refine J_aload_n (pc := 22) D2_take_22 rfl ?_
      refine J_callVT (pc := 23) (ac := []) D2_take_23 m2_step_v t600 (c2_step (d := d) hK hI) (by omega) rfl rfl rfl rfl rfl rfl rfl (fun r w' hq hl => ?_)
      obtain ⟨rfl, rfl⟩ := hq
      refine J_vret (pc := 26) D2_take_26 rfl ?_
      refine ⟨rfl, ?_⟩
      rw [takC, if_pos h4, if_pos h13]
      try rfl
    · refine J_aload_n (pc := 16) D2_take_16 rfl ?_
      refine J_iconst (pc := 17) (v := (nI 1)) D2_take_17 (by decide) ?_
      refine J_callVT (pc := 18) (ac := [.int _]) D2_take_18 m2_refuse_v t596 (c2_refuse (d := d + 1) hK hI) (by omega) rfl rfl rfl rfl rfl rfl rfl (fun r w' hq hl => ?_)
      obtain ⟨rfl, rfl⟩ := hq
      refine J_vret (pc := 21) D2_take_21 rfl ?_
      refine ⟨rfl, ?_⟩
      rw [takC, if_pos h4, if_neg h13]
      try rfl
  · refine J_vret (pc := 7) D2_take_7 rfl ?_
    refine ⟨rfl, ?_⟩
    rw [takC, if_neg h4]
    try rfl
theorem refC_ne {K : TK} {f : Int32} {c : RC} (hf : ¬ f = 0) : ¬ (refC K f c).2.1 = 0 := by
  unfold refC
  split
  · exact hf
  · next h => exact h
theorem RI.ref {K : TK} {n : Nat} {R : RS} {f : Int32} (h : RI n R) : RI n (refC K f R.1, R.2) := h.core (by rw [refC_1]; exact h.1)
theorem L2_num35 {lo hi v : Int32} {d n : Nat} {K : TK} {R : RS} (hK : KI K n) (hI : RI n R) : J m2_takeNumber (d + 3) 0 0 24 35 [(0, .ref 0), (1, .int lo), (2, .int hi), (3, .int v)] [] (rdrW K R) 0 0 (rQv K (if (takC K (nI 29) R.1).2.1 = 0 then v else nI 0) (takC K (nI 29) R.1, R.2)) := by
  refine J_aload_n (pc := 35) D2_takeNumber_35 rfl ?_
  refine J_bipush (pc := 36) (v := (nI 29)) D2_takeNumber_36 (by decide) ?_
  refine J_callVT (pc := 38) (ac := [.int _]) D2_takeNumber_38 m2_take_v t619 (c2_take (d := d) hK hI) (by omega) rfl rfl rfl rfl rfl rfl rfl (fun r w' hq hl => ?_)
  obtain ⟨rfl, rfl⟩ := hq
  refine J_aload_n (pc := 41) D2_takeNumber_41 rfl ?_
  refine J_getf (pc := 42) D2_takeNumber_42 fl2_35 rfl rfl ?_
  refine J_if_ne (pc := 45) (tgt := 52) D2_takeNumber_45 (by decide) (fun h45 => ?_) (fun h45 => ?_)
  · refine J_iconst (pc := 52) (v := (nI 0)) D2_takeNumber_52 (by decide) ?_
    refine J_iret (pc := 53) D2_takeNumber_53 rfl ?_
    refine ⟨?_, rfl⟩
    rw [if_neg h45]
  · have h45' := eq_true h45
    refine J_iload_n (pc := 48) D2_takeNumber_48 rfl ?_
    refine J_goto (pc := 49) (tgt := 53) D2_takeNumber_49 (by decide) ?_
    refine J_iret (pc := 53) D2_takeNumber_53 rfl ?_
    refine ⟨?_, rfl⟩
    rw [if_pos h45]
theorem c2_takeNumber {lo hi : Int32} {d n : Nat} {K : TK} {R : RS} (hK : KI K n) (hI : RI n R) : Tr (d + 3) 0 0 m2_takeNumber [.ref 0, .int lo, .int hi] (rdrW K R) (rQv K (numV K lo hi R.1) (numC K lo hi R.1, R.2)) := by
  refine Tr.intro (by decide) rfl ?_
  refine J_aload_n (pc := 0) D2_takeNumber_0 rfl ?_
  refine J_callVTR (pc := 1) (ac := []) D2_takeNumber_1 m2_value_v t604 (c2_value (d := d + 2) hK hI) (by omega) rfl rfl rfl rfl (fun _ => rfl) rfl rfl rfl ?_
  refine J_istore_n (pc := 4) D2_takeNumber_4 rfl ?_
  refine J_aload_n (pc := 5) D2_takeNumber_5 rfl ?_
  refine J_getf (pc := 6) D2_takeNumber_6 fl2_35 rfl rfl ?_
  refine J_if_ne (pc := 9) (tgt := 35) D2_takeNumber_9 (by decide) (fun h9 => ?_) (fun h9 => ?_)
  · have e : numC1 K lo hi R.1 = R.1 := if_neg (fun q => h9 q.1)
    unfold numV numC
    rw [e]
    exact L2_num35 hK hI
  · have h9' := eq_true h9
    refine J_aload_n (pc := 12) D2_takeNumber_12 rfl ?_
    refine J_callVTR (pc := 13) (ac := []) D2_takeNumber_13 m2_kind_v t584 (c2_kind (d := d + 2) hK hI) (by omega) rfl rfl rfl rfl (fun _ => rfl) rfl rfl rfl ?_
    refine J_bipush (pc := 16) (v := (nI 29)) D2_takeNumber_16 (by decide) ?_
    refine J_icmp_ne (pc := 18) (tgt := 35) D2_takeNumber_18 (by decide) (fun h18 => ?_) (fun h18 => ?_)
    · have e : numC1 K lo hi R.1 = R.1 := if_neg (fun q => h18 q.2.1)
      unfold numV numC
      rw [e]
      exact L2_num35 hK hI
    · have h18' := eq_true h18
      refine J_iload_n (pc := 21) D2_takeNumber_21 rfl ?_
      refine J_iload_n (pc := 22) D2_takeNumber_22 rfl ?_
      refine J_iload_n (pc := 23) D2_takeNumber_23 rfl ?_
      refine J_callSNR (pc := 24) (ι := []) (ac := [.int _, .int _, .int _]) (host := "TemperCellar") D2_takeNumber_24 m9_isAmong_s (by decide) (c9_isAmong (d := d + 2)) (by omega) ⟨rfl, rfl⟩ rfl rfl (fun _ => rfl) rfl rfl rfl ?_
      refine J_if_ne (pc := 27) (tgt := 35) D2_takeNumber_27 (by decide) (fun h27 => ?_) (fun h27 => ?_)
      · have e : numC1 K lo hi R.1 = R.1 := if_neg (fun q => q.2.2 (i01_nz h27))
        unfold numV numC
        rw [e]
        exact L2_num35 hK hI
      · have h27' := eq_true h27
        refine J_aload_n (pc := 30) D2_takeNumber_30 rfl ?_
        refine J_iconst (pc := 31) (v := (nI 2)) D2_takeNumber_31 (by decide) ?_
        refine J_callVT (pc := 32) (ac := [.int _]) D2_takeNumber_32 m2_refuse_v t596 (c2_refuse (d := d + 2) hK hI) (by omega) rfl rfl rfl rfl rfl rfl rfl (fun r w' hq hl => ?_)
        obtain ⟨rfl, rfl⟩ := hq
        have e : numC1 K lo hi R.1 = refC K (nI 2) R.1 := if_pos ⟨h9, h18, i01_z h27⟩
        unfold numV numC
        rw [e]
        exact L2_num35 (R := (refC K (nI 2) R.1, R.2)) hK hI.ref
theorem L2_new31 {al v : Int32} {d n : Nat} {K : TK} {R : RS} (hK : KI K n) (hI : RI n R) : J m2_takeNewName (d + 3) 0 0 24 31 [(0, .ref 0), (1, .int al), (2, .int v)] [] (rdrW K R) 0 0 (rQv K v (takC K (nI 30) R.1, R.2)) := by
  refine J_aload_n (pc := 31) D2_takeNewName_31 rfl ?_
  refine J_bipush (pc := 32) (v := (nI 30)) D2_takeNewName_32 (by decide) ?_
  refine J_callVT (pc := 34) (ac := [.int _]) D2_takeNewName_34 m2_take_v t619 (c2_take (d := d) hK hI) (by omega) rfl rfl rfl rfl rfl rfl rfl (fun r w' hq hl => ?_)
  obtain ⟨rfl, rfl⟩ := hq
  refine J_iload_n (pc := 37) D2_takeNewName_37 rfl ?_
  refine J_iret (pc := 38) D2_takeNewName_38 rfl ?_
  exact ⟨rfl, rfl⟩
theorem c2_takeNewName {al : Int32} {d n : Nat} {K : TK} {R : RS} (hK : KI K n) (hI : RI n R) : Tr (d + 3) 0 0 m2_takeNewName [.ref 0, .int al] (rdrW K R) (rQv K (K.2.2.2.2.2 R.1.1) (newC K al R.1, R.2)) := by
  refine Tr.intro (by decide) rfl ?_
  refine J_aload_n (pc := 0) D2_takeNewName_0 rfl ?_
  refine J_callVTR (pc := 1) (ac := []) D2_takeNewName_1 m2_value_v t604 (c2_value (d := d + 2) hK hI) (by omega) rfl rfl rfl rfl (fun _ => rfl) rfl rfl rfl ?_
  refine J_istore_n (pc := 4) D2_takeNewName_4 rfl ?_
  refine J_aload_n (pc := 5) D2_takeNewName_5 rfl ?_
  refine J_getf (pc := 6) D2_takeNewName_6 fl2_35 rfl rfl ?_
  refine J_if_ne (pc := 9) (tgt := 31) D2_takeNewName_9 (by decide) (fun h9 => ?_) (fun h9 => ?_)
  · have e : newC1 K al R.1 = R.1 := if_neg (fun q => h9 q.1)
    unfold newC
    rw [e]
    exact L2_new31 hK hI
  · have h9' := eq_true h9
    refine J_aload_n (pc := 12) D2_takeNewName_12 rfl ?_
    refine J_callVTR (pc := 13) (ac := []) D2_takeNewName_13 m2_kind_v t584 (c2_kind (d := d + 2) hK hI) (by omega) rfl rfl rfl rfl (fun _ => rfl) rfl rfl rfl ?_
    refine J_bipush (pc := 16) (v := (nI 30)) D2_takeNewName_16 (by decide) ?_
    refine J_icmp_ne (pc := 18) (tgt := 31) D2_takeNewName_18 (by decide) (fun h18 => ?_) (fun h18 => ?_)
    · have e : newC1 K al R.1 = R.1 := if_neg (fun q => h18 q.2.1)
      unfold newC
      rw [e]
      exact L2_new31 hK hI
    · have h18' := eq_true h18
      refine J_iload_n (pc := 21) D2_takeNewName_21 rfl ?_
      refine J_iconst (pc := 22) (v := (-1)) D2_takeNewName_22 (by decide) ?_
      refine J_icmp_eq (pc := 23) (tgt := 31) D2_takeNewName_23 (by decide) (fun h23 => ?_) (fun h23 => ?_)
      · have h23' := eq_true h23
        have e : newC1 K al R.1 = R.1 := if_neg (fun q => q.2.2 h23)
        unfold newC
        rw [e]
        exact L2_new31 hK hI
      · refine J_aload_n (pc := 26) D2_takeNewName_26 rfl ?_
        refine J_iconst (pc := 27) (v := (nI 3)) D2_takeNewName_27 (by decide) ?_
        refine J_callVT (pc := 28) (ac := [.int _]) D2_takeNewName_28 m2_refuse_v t596 (c2_refuse (d := d + 2) hK hI) (by omega) rfl rfl rfl rfl rfl rfl rfl (fun r w' hq hl => ?_)
        obtain ⟨rfl, rfl⟩ := hq
        have e : newC1 K al R.1 = refC K (nI 3) R.1 := if_pos ⟨h9, h18, h23⟩
        unfold newC
        rw [e]
        exact L2_new31 (R := (refC K (nI 3) R.1, R.2)) hK hI.ref
theorem L2_per64 {q oth : Int32} {d n : Nat} {K : TK} {R : RS} (hK : KI K n) (hI : RI n R) : J m2_takePerson (d + 3) 0 0 24 64 [(0, .ref 0), (1, .int oth), (2, .int q)] [] (rdrW K R) 0 0 (rQv K (if (takC K (nI 30) R.1).2.1 = 0 then q else -1) (takC K (nI 30) R.1, R.2)) := by
  refine J_aload_n (pc := 64) D2_takePerson_64 rfl ?_
  refine J_bipush (pc := 65) (v := (nI 30)) D2_takePerson_65 (by decide) ?_
  refine J_callVT (pc := 67) (ac := [.int _]) D2_takePerson_67 m2_take_v t619 (c2_take (d := d) hK hI) (by omega) rfl rfl rfl rfl rfl rfl rfl (fun r w' hq hl => ?_)
  obtain ⟨rfl, rfl⟩ := hq
  refine J_aload_n (pc := 70) D2_takePerson_70 rfl ?_
  refine J_getf (pc := 71) D2_takePerson_71 fl2_35 rfl rfl ?_
  refine J_if_ne (pc := 74) (tgt := 81) D2_takePerson_74 (by decide) (fun h74 => ?_) (fun h74 => ?_)
  · refine J_iconst (pc := 81) (v := (-1)) D2_takePerson_81 (by decide) ?_
    refine J_iret (pc := 82) D2_takePerson_82 rfl ?_
    refine ⟨?_, rfl⟩
    rw [if_neg h74]
    try rfl
  · have h74' := eq_true h74
    refine J_iload_n (pc := 77) D2_takePerson_77 rfl ?_
    refine J_goto (pc := 78) (tgt := 82) D2_takePerson_78 (by decide) ?_
    refine J_iret (pc := 82) D2_takePerson_82 rfl ?_
    refine ⟨?_, rfl⟩
    rw [if_pos h74]
    try rfl
theorem L2_per38 {q oth : Int32} {d n : Nat} {K : TK} {R : RS} (hK : KI K n) (hI : RI n R) : J m2_takePerson (d + 3) 0 0 24 38 [(0, .ref 0), (1, .int oth), (2, .int q)] [] (rdrW K R) 0 0 (rQv K (if (takC K (nI 30) (perC2 K q oth R.1)).2.1 = 0 then q else -1) (takC K (nI 30) (perC2 K q oth R.1), R.2)) := by
  refine J_aload_n (pc := 38) D2_takePerson_38 rfl ?_
  refine J_getf (pc := 39) D2_takePerson_39 fl2_35 rfl rfl ?_
  refine J_if_ne (pc := 42) (tgt := 64) D2_takePerson_42 (by decide) (fun h42 => ?_) (fun h42 => ?_)
  · have e : perC2 K q oth R.1 = R.1 := if_neg (fun x => h42 x.1)
    rw [e]
    exact L2_per64 hK hI
  · have h42' := eq_true h42
    refine J_aload_n (pc := 45) D2_takePerson_45 rfl ?_
    refine J_callVTR (pc := 46) (ac := []) D2_takePerson_46 m2_kind_v t584 (c2_kind (d := d + 2) hK hI) (by omega) rfl rfl rfl rfl (fun _ => rfl) rfl rfl rfl ?_
    refine J_bipush (pc := 49) (v := (nI 30)) D2_takePerson_49 (by decide) ?_
    refine J_icmp_ne (pc := 51) (tgt := 64) D2_takePerson_51 (by decide) (fun h51 => ?_) (fun h51 => ?_)
    · have e : perC2 K q oth R.1 = R.1 := if_neg (fun x => h51 x.2.1)
      rw [e]
      exact L2_per64 hK hI
    · have h51' := eq_true h51
      refine J_iload_n (pc := 54) D2_takePerson_54 rfl ?_
      refine J_iload_n (pc := 55) D2_takePerson_55 rfl ?_
      refine J_icmp_ne (pc := 56) (tgt := 64) D2_takePerson_56 (by decide) (fun h56 => ?_) (fun h56 => ?_)
      · have e : perC2 K q oth R.1 = R.1 := if_neg (fun x => h56 x.2.2)
        rw [e]
        exact L2_per64 hK hI
      · have h56' := eq_true h56
        refine J_aload_n (pc := 59) D2_takePerson_59 rfl ?_
        refine J_iconst (pc := 60) (v := (nI 5)) D2_takePerson_60 (by decide) ?_
        refine J_callVT (pc := 61) (ac := [.int _]) D2_takePerson_61 m2_refuse_v t596 (c2_refuse (d := d + 2) hK hI) (by omega) rfl rfl rfl rfl rfl rfl rfl (fun r w' hq hl => ?_)
        obtain ⟨rfl, rfl⟩ := hq
        have e : perC2 K q oth R.1 = refC K (nI 5) R.1 := if_pos ⟨h42, h51, h56⟩
        rw [e]
        exact L2_per64 (R := (refC K (nI 5) R.1, R.2)) hK hI.ref
theorem c2_takePerson {oth : Int32} {d n : Nat} {K : TK} {R : RS} (hK : KI K n) (hI : RI n R) : Tr (d + 3) 0 0 m2_takePerson [.ref 0, .int oth] (rdrW K R) (rQv K (perV K (wkI (plL (R.2.2.2.2.2.1 1) (K.2.2.2.2.2 R.1.1) R.2.2.1.1 0)) oth R.1) (perC K (wkI (plL (R.2.2.2.2.2.1 1) (K.2.2.2.2.2 R.1.1) R.2.2.1.1 0)) oth R.1, R.2)) := by
  refine Tr.intro (by decide) rfl ?_
  refine J_aload_n (pc := 0) D2_takePerson_0 rfl ?_
  refine J_getf (pc := 1) D2_takePerson_1 fl2_19 rfl rfl ?_
  refine J_aload_n (pc := 4) D2_takePerson_4 rfl ?_
  refine J_callVTR (pc := 5) (ac := []) D2_takePerson_5 m2_value_v t604 (c2_value (d := d + 2) hK hI) (by omega) rfl rfl rfl rfl (fun _ => rfl) rfl rfl rfl ?_
  refine J_callVR (pc := 8) (ι := [6, 7, 8, 9, 10, 11, 12, 13, 14, 15, 16, 17, 18, 19, 20, 21, 22, 23]) (ac := [.int _]) D2_takePerson_8 m6_personNamed_v t608 (c6_personNamed (d := d + 1) (T := tvR R) (n := R.2.2.1.1) rfl hI.2.1) (by omega) rfl rfl ⟨rfl, rfl⟩ rfl rfl (fun _ => rfl) rfl rfl rfl ?_
  refine J_istore_n (pc := 11) D2_takePerson_11 rfl ?_
  refine J_aload_n (pc := 12) D2_takePerson_12 rfl ?_
  refine J_getf (pc := 13) D2_takePerson_13 fl2_35 rfl rfl ?_
  refine J_if_ne (pc := 16) (tgt := 38) D2_takePerson_16 (by decide) (fun h16 => ?_) (fun h16 => ?_)
  · have e : perC1 K (wkI (plL (R.2.2.2.2.2.1 1) (K.2.2.2.2.2 R.1.1) R.2.2.1.1 0)) R.1 = R.1 := if_neg (fun x => h16 x.1)
    unfold perV perC
    rw [e]
    exact L2_per38 hK hI
  · have h16' := eq_true h16
    refine J_aload_n (pc := 19) D2_takePerson_19 rfl ?_
    refine J_callVTR (pc := 20) (ac := []) D2_takePerson_20 m2_kind_v t584 (c2_kind (d := d + 2) hK hI) (by omega) rfl rfl rfl rfl (fun _ => rfl) rfl rfl rfl ?_
    refine J_bipush (pc := 23) (v := (nI 30)) D2_takePerson_23 (by decide) ?_
    refine J_icmp_ne (pc := 25) (tgt := 38) D2_takePerson_25 (by decide) (fun h25 => ?_) (fun h25 => ?_)
    · have e : perC1 K (wkI (plL (R.2.2.2.2.2.1 1) (K.2.2.2.2.2 R.1.1) R.2.2.1.1 0)) R.1 = R.1 := if_neg (fun x => h25 x.2.1)
      unfold perV perC
      rw [e]
      exact L2_per38 hK hI
    · have h25' := eq_true h25
      refine J_iload_n (pc := 28) D2_takePerson_28 rfl ?_
      refine J_iconst (pc := 29) (v := (-1)) D2_takePerson_29 (by decide) ?_
      refine J_icmp_ne (pc := 30) (tgt := 38) D2_takePerson_30 (by decide) (fun h30 => ?_) (fun h30 => ?_)
      · have e : perC1 K (wkI (plL (R.2.2.2.2.2.1 1) (K.2.2.2.2.2 R.1.1) R.2.2.1.1 0)) R.1 = R.1 := if_neg (fun x => h30 x.2.2)
        unfold perV perC
        rw [e]
        exact L2_per38 hK hI
      · have h30' := eq_true h30
        refine J_aload_n (pc := 33) D2_takePerson_33 rfl ?_
        refine J_iconst (pc := 34) (v := (nI 4)) D2_takePerson_34 (by decide) ?_
        refine J_callVT (pc := 35) (ac := [.int _]) D2_takePerson_35 m2_refuse_v t596 (c2_refuse (d := d + 2) hK hI) (by omega) rfl rfl rfl rfl rfl rfl rfl (fun r w' hq hl => ?_)
        obtain ⟨rfl, rfl⟩ := hq
        have e : perC1 K (wkI (plL (R.2.2.2.2.2.1 1) (K.2.2.2.2.2 R.1.1) R.2.2.1.1 0)) R.1 = refC K (nI 4) R.1 := if_pos ⟨h16, h25, h30⟩
        unfold perV perC
        rw [e]
        exact L2_per38 (R := (refC K (nI 4) R.1, R.2)) hK hI.ref
theorem c2_takeKnot {d n : Nat} {K : TK} {R : RS} (hK : KI K n) (hI : RI n R) : Tr (d + 3) 0 0 m2_takeKnot [.ref 0] (rdrW K R) (rQ K (tkR K R)) := by
  refine Tr.intro (by decide) rfl ?_
  refine J_aload_n (pc := 0) D2_takeKnot_0 rfl ?_
  refine J_getf (pc := 1) D2_takeKnot_1 fl2_19 rfl rfl ?_
  refine J_getf (pc := 4) D2_takeKnot_4 fl2_162 rfl rfl ?_
  refine J_getf (pc := 7) D2_takeKnot_7 fl2_200 rfl rfl ?_
  refine J_bipush (pc := 10) (v := (nI 64)) D2_takeKnot_10 (by decide) ?_
  refine J_icmp_lt (pc := 12) (tgt := 20) D2_takeKnot_12 (by decide) (fun h12 => ?_) (fun h12 => ?_)
  · have h12' := Int32.not_le.mpr h12
    have hlt := (nI_ltI (by have := hI.2.2.2.2.2; omega) (by omega)).mp h12
    have e : tkC K R.2.2.2.2.1.2 R.1 = R.1 := if_pos hlt
    refine J_aload_n (pc := 20) D2_takeKnot_20 rfl ?_
    refine J_getf (pc := 21) D2_takeKnot_21 fl2_35 rfl rfl ?_
    refine J_if_ne (pc := 24) (tgt := 47) D2_takeKnot_24 (by decide) (fun h24 => ?_) (fun h24 => ?_)
    · refine J_vret (pc := 47) D2_takeKnot_47 rfl ?_
      refine ⟨rfl, ?_⟩
      rw [tkR, e, if_neg h24]
      try rfl
    · have h24' := eq_true h24
      refine J_aload_n (pc := 27) D2_takeKnot_27 rfl ?_
      refine J_getf (pc := 28) D2_takeKnot_28 fl2_19 rfl rfl ?_
      refine J_getf (pc := 31) D2_takeKnot_31 fl2_162 rfl rfl ?_
      refine J_dup (pc := 34) D2_takeKnot_34 rfl ?_
      refine J_getf (pc := 35) D2_takeKnot_35 fl2_200 rfl rfl ?_
      refine J_iconst (pc := 38) (v := (nI 1)) D2_takeKnot_38 (by decide) ?_
      refine J_iadd (pc := 39) D2_takeKnot_39 ?_
      refine J_st [.int (nI (R.2.2.2.2.1.2 + 1)), .ref 19] (by rw [← show nI R.2.2.2.2.1.2 + nI 1 = nI (R.2.2.2.2.1.2 + 1) from nI_1 _]; rfl) ?_
      refine J_putf (pc := 40) D2_takeKnot_40 fp2_200 rfl Fit.int rfl ?_
      refine J_w (w2 := rdrW K (R.1, (R.2.1.1, R.2.1.2), (R.2.2.1.1, R.2.2.1.2.1, R.2.2.1.2.2), (R.2.2.2.1.1, R.2.2.2.1.2), (R.2.2.2.2.1.1, R.2.2.2.2.1.2 + 1), R.2.2.2.2.2.1, R.2.2.2.2.2.2)) rfl ?_
      refine J_aload_n (pc := 43) D2_takeKnot_43 rfl ?_
      refine J_callVT (pc := 44) (ac := []) D2_takeKnot_44 m2_step_v t600 (c2_step (d := d + 1) (R := (R.1, (R.2.1.1, R.2.1.2), (R.2.2.1.1, R.2.2.1.2.1, R.2.2.1.2.2), (R.2.2.2.1.1, R.2.2.2.1.2), (R.2.2.2.2.1.1, R.2.2.2.2.1.2 + 1), R.2.2.2.2.2.1, R.2.2.2.2.2.2)) hK (show RI n (R.1, (R.2.1.1, R.2.1.2), (R.2.2.1.1, R.2.2.1.2.1, R.2.2.1.2.2), (R.2.2.2.1.1, R.2.2.2.1.2), (R.2.2.2.2.1.1, R.2.2.2.2.1.2 + 1), R.2.2.2.2.2.1, R.2.2.2.2.2.2) from ⟨hI.1, hI.2.1, hI.2.2.1, hI.2.2.2.1, hI.2.2.2.2.1, hlt⟩)) (by omega) rfl rfl rfl rfl rfl rfl rfl (fun r w' hq hl => ?_)
      obtain ⟨rfl, rfl⟩ := hq
      refine J_vret (pc := 47) D2_takeKnot_47 rfl ?_
      refine ⟨rfl, ?_⟩
      rw [tkR, e, if_pos h24]
      try rfl
  · have h12' := Int32.not_lt.mp h12
    have hlt := (nI_leI (by omega) (by have := hI.2.2.2.2.2; omega)).mp h12'
    have e : tkC K R.2.2.2.2.1.2 R.1 = refC K (nI 2) R.1 := if_neg (by omega)
    refine J_aload_n (pc := 15) D2_takeKnot_15 rfl ?_
    refine J_iconst (pc := 16) (v := (nI 2)) D2_takeKnot_16 (by decide) ?_
    refine J_callVT (pc := 17) (ac := [.int _]) D2_takeKnot_17 m2_refuse_v t596 (c2_refuse (d := d + 2) hK hI) (by omega) rfl rfl rfl rfl rfl rfl rfl (fun r w' hq hl => ?_)
    obtain ⟨rfl, rfl⟩ := hq
    refine J_aload_n (pc := 20) D2_takeKnot_20 rfl ?_
    refine J_getf (pc := 21) D2_takeKnot_21 fl2_35 rfl rfl ?_
    refine J_if_ne (pc := 24) (tgt := 47) D2_takeKnot_24 (by decide) (fun h24 => ?_) (fun h24 => absurd h24 (refC_ne (by decide)))
    refine J_vret (pc := 47) D2_takeKnot_47 rfl ?_
    refine ⟨rfl, ?_⟩
    rw [tkR, e, if_neg h24]
    try rfl
