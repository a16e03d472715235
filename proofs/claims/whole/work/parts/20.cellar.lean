/-! CELLAR: the contracts of TemperCellar$Cellar (own; walks by program wk.py) -/
abbrev CV : Type := Int32 × Int64 × Int32 × (Nat → Nat → Int32)
/-- a Cellar: year, last, thunders; arrays 0 bin, 1 force, 2 cork, 3 state, 4 opener, 5 met, 6 hates, 7 haters, 8 load -/
def celW (V : CV) : List EC := [.inr (0, [.int V.1, .long V.2.1, .int V.2.2.1, .ref 1, .ref 2, .ref 3, .ref 4, .ref 5, .ref 6, .ref 7, .ref 8, .ref 9]), iA 10 (V.2.2.2 0), iA 10 (V.2.2.2 1), iA 10 (V.2.2.2 2), iA 10 (V.2.2.2 3), iA 10 (V.2.2.2 4), iA 8 (V.2.2.2 5), iA 5 (V.2.2.2 6), iA 5 (V.2.2.2 7), iA 6 (V.2.2.2 8)]
def i01 (c : Prop) [Decidable c] : Int32 := if c then 1 else 0
theorem i01_t {c : Prop} [Decidable c] (h : c) : i01 c = 1 := if_pos h
theorem i01_f {c : Prop} [Decidable c] (h : ¬ c) : i01 c = 0 := if_neg h
/-- one array changed -/
def upA (a : Nat → Nat → Int32) (k : Nat) (f : Nat → Int32) : Nat → Nat → Int32 := fun j => bif Nat.beq j k then f else a j
/-- the bits of the places b below n with f b = x -/
def bitsF (f : Nat → Int32) (x : Int32) : Nat → Int32
  | 0 => 0
  | n + 1 => if f n = x then bitsF f x n ||| (nI 1 <<< (nI n &&& 31)) else bitsF f x n
def cntF (f : Nat → Int32) (x : Int32) : Nat → Int32
  | 0 => 0
  | n + 1 => if f n = x then cntF f x n + nI 1 else cntF f x n
def sumF (f : Nat → Int32) : Nat → Int32
  | 0 => 0
  | n + 1 => sumF f n + f n
theorem c0_isLying {d : Nat} {V : CV} {b : Nat} (hb : b < 10) : TR d m0_isLying [.ref 0, .int (nI b)] (celW V) (.int (i01 (V.2.2.2 3 b = 0))) := by
  refine Tr.intro (by decide) rfl ?_
  refine J_aload_n (pc := 0) D0_isLying_0 rfl ?_
  refine J_getf (pc := 1) D0_isLying_1 fl0_21 rfl rfl ?_
  refine J_iload_n (pc := 4) D0_isLying_4 rfl ?_
  refine J_iald (pc := 5) D0_isLying_5 rfl rfl (by omega) rfl ?_
  refine J_if_ne (pc := 6) (tgt := 13) D0_isLying_6 (by decide) (fun h6 => ?_) (fun h6 => ?_)
  · refine J_iconst (pc := 13) (v := (nI 0)) D0_isLying_13 (by decide) ?_
    refine J_zret (pc := 14) D0_isLying_14 rfl (by decide) ?_
    first | exact ⟨rfl, by rw [i01_t h6]; rfl⟩ | exact ⟨rfl, by rw [i01_f h6]; rfl⟩
  · have h6' := eq_true h6
    refine J_iconst (pc := 9) (v := (nI 1)) D0_isLying_9 (by decide) ?_
    refine J_goto (pc := 10) (tgt := 14) D0_isLying_10 (by decide) ?_
    refine J_zret (pc := 14) D0_isLying_14 rfl (by decide) ?_
    first | exact ⟨rfl, by rw [i01_t h6]; rfl⟩ | exact ⟨rfl, by rw [i01_f h6]; rfl⟩
theorem c0_lie {d : Nat} {y th : Int32} {l : Int64} {a : Nat → Nat → Int32} {b β : Nat} (hb : b < 10) (hβ : a 0 b = nI β) (hβ6 : β < 6) : Tr d 0 0 m0_lie [.ref 0, .int (nI b)] (celW (y, l, th, a)) (fun r w' => r = none ∧ w' = celW (y, l, th, upA (upA a 3 (upd (a 3) b (nI 0))) 8 (upd (a 8) β (a 8 β + nI 1)))) := by
  refine Tr.intro (by decide) rfl ?_
  refine J_aload_n (pc := 0) D0_lie_0 rfl ?_
  refine J_getf (pc := 1) D0_lie_1 fl0_21 rfl rfl ?_
  refine J_iload_n (pc := 4) D0_lie_4 rfl ?_
  refine J_iconst (pc := 5) (v := (nI 0)) D0_lie_5 (by decide) ?_
  refine J_iast (pc := 6) D0_lie_6 rfl rfl (by omega) rfl ?_
  refine J_aload_n (pc := 7) D0_lie_7 rfl ?_
  refine J_getf (pc := 8) D0_lie_8 fl0_36 rfl rfl ?_
  refine J_aload_n (pc := 11) D0_lie_11 rfl ?_
  refine J_getf (pc := 12) D0_lie_12 fl0_9 rfl rfl ?_
  refine J_iload_n (pc := 15) D0_lie_15 rfl ?_
  refine J_iald (pc := 16) D0_lie_16 rfl rfl (by omega) rfl ?_
  refine J_dup2 (pc := 17) D0_lie_17 rfl rfl ?_
  refine J_iald (pc := 18) D0_lie_18 rfl hβ hβ6 rfl ?_
  refine J_iconst (pc := 19) (v := (nI 1)) D0_lie_19 (by decide) ?_
  refine J_iadd (pc := 20) D0_lie_20 ?_
  refine J_iast (pc := 21) D0_lie_21 rfl hβ hβ6 rfl ?_
  refine J_vret (pc := 22) D0_lie_22 rfl ?_
  exact ⟨rfl, rfl⟩
theorem c0_leave {d : Nat} {y th x : Int32} {l : Int64} {a : Nat → Nat → Int32} {b β : Nat} (hb : b < 10) (hβ : a 0 b = nI β) (hβ6 : β < 6) : Tr d 0 0 m0_leave [.ref 0, .int (nI b), .int x] (celW (y, l, th, a)) (fun r w' => r = none ∧ w' = celW (y, l, th, upA (upA a 3 (upd (a 3) b x)) 8 (upd (a 8) β (a 8 β - nI 1)))) := by
  refine Tr.intro (by decide) rfl ?_
  refine J_aload_n (pc := 0) D0_leave_0 rfl ?_
  refine J_getf (pc := 1) D0_leave_1 fl0_21 rfl rfl ?_
  refine J_iload_n (pc := 4) D0_leave_4 rfl ?_
  refine J_iload_n (pc := 5) D0_leave_5 rfl ?_
  refine J_iast (pc := 6) D0_leave_6 rfl rfl (by omega) rfl ?_
  refine J_aload_n (pc := 7) D0_leave_7 rfl ?_
  refine J_getf (pc := 8) D0_leave_8 fl0_36 rfl rfl ?_
  refine J_aload_n (pc := 11) D0_leave_11 rfl ?_
  refine J_getf (pc := 12) D0_leave_12 fl0_9 rfl rfl ?_
  refine J_iload_n (pc := 15) D0_leave_15 rfl ?_
  refine J_iald (pc := 16) D0_leave_16 rfl rfl (by omega) rfl ?_
  refine J_dup2 (pc := 17) D0_leave_17 rfl rfl ?_
  refine J_iald (pc := 18) D0_leave_18 rfl hβ hβ6 rfl ?_
  refine J_iconst (pc := 19) (v := (nI 1)) D0_leave_19 (by decide) ?_
  refine J_isub (pc := 20) D0_leave_20 ?_
  refine J_iast (pc := 21) D0_leave_21 rfl hβ hβ6 rfl ?_
  refine J_vret (pc := 22) D0_leave_22 rfl ?_
  exact ⟨rfl, rfl⟩
theorem c0_move {d : Nat} {y th : Int32} {l : Int64} {a : Nat → Nat → Int32} {b β q : Nat} (hb : b < 10) (hβ : a 0 b = nI β) (hβ6 : β < 6) (hq : q < 6) : Tr d 0 0 m0_move [.ref 0, .int (nI b), .int (nI q)] (celW (y, l, th, a)) (fun r w' => r = none ∧ w' = celW (y, l, th, upA (upA a 0 (upd (a 0) b (nI q))) 8 (upd (upd (a 8) β (a 8 β - nI 1)) q (upd (a 8) β (a 8 β - nI 1) q + nI 1)))) := by
  refine Tr.intro (by decide) rfl ?_
  refine J_aload_n (pc := 0) D0_move_0 rfl ?_
  refine J_getf (pc := 1) D0_move_1 fl0_36 rfl rfl ?_
  refine J_aload_n (pc := 4) D0_move_4 rfl ?_
  refine J_getf (pc := 5) D0_move_5 fl0_9 rfl rfl ?_
  refine J_iload_n (pc := 8) D0_move_8 rfl ?_
  refine J_iald (pc := 9) D0_move_9 rfl rfl (by omega) rfl ?_
  refine J_dup2 (pc := 10) D0_move_10 rfl rfl ?_
  refine J_iald (pc := 11) D0_move_11 rfl hβ hβ6 rfl ?_
  refine J_iconst (pc := 12) (v := (nI 1)) D0_move_12 (by decide) ?_
  refine J_isub (pc := 13) D0_move_13 ?_
  refine J_iast (pc := 14) D0_move_14 rfl hβ hβ6 rfl ?_
  refine J_aload_n (pc := 15) D0_move_15 rfl ?_
  refine J_getf (pc := 16) D0_move_16 fl0_9 rfl rfl ?_
  refine J_iload_n (pc := 19) D0_move_19 rfl ?_
  refine J_iload_n (pc := 20) D0_move_20 rfl ?_
  refine J_iast (pc := 21) D0_move_21 rfl rfl (by omega) rfl ?_
  refine J_aload_n (pc := 22) D0_move_22 rfl ?_
  refine J_getf (pc := 23) D0_move_23 fl0_36 rfl rfl ?_
  refine J_iload_n (pc := 26) D0_move_26 rfl ?_
  refine J_dup2 (pc := 27) D0_move_27 rfl rfl ?_
  refine J_iald (pc := 28) D0_move_28 rfl rfl (by omega) rfl ?_
  refine J_iconst (pc := 29) (v := (nI 1)) D0_move_29 (by decide) ?_
  refine J_iadd (pc := 30) D0_move_30 ?_
  refine J_iast (pc := 31) D0_move_31 rfl rfl (by omega) rfl ?_
  refine J_vret (pc := 32) D0_move_32 rfl ?_
  exact ⟨rfl, rfl⟩
theorem c0_hate {d : Nat} {y th : Int32} {l : Int64} {a : Nat → Nat → Int32} {p q : Nat} (hp : p < 5) (hq : q < 5) : Tr d 0 0 m0_hate [.ref 0, .int (nI p), .int (nI q)] (celW (y, l, th, a)) (fun r w' => r = none ∧ w' = celW (y, l, th, if (a 6 p >>> (nI q &&& 31)) &&& nI 1 = 0 then upA (upA a 6 (upd (a 6) p (a 6 p ||| (nI 1 <<< (nI q &&& 31))))) 7 (upd (a 7) q (a 7 q + nI 1)) else a)) := by
  refine Tr.intro (by decide) rfl ?_
  refine J_aload_n (pc := 0) D0_hate_0 rfl ?_
  refine J_getf (pc := 1) D0_hate_1 fl0_30 rfl rfl ?_
  refine J_iload_n (pc := 4) D0_hate_4 rfl ?_
  refine J_iald (pc := 5) D0_hate_5 rfl rfl (by omega) rfl ?_
  refine J_iload_n (pc := 6) D0_hate_6 rfl ?_
  refine J_ishr (pc := 7) D0_hate_7 ?_
  refine J_iconst (pc := 8) (v := (nI 1)) D0_hate_8 (by decide) ?_
  refine J_iand (pc := 9) D0_hate_9 ?_
  refine J_if_ne (pc := 10) (tgt := 35) D0_hate_10 (by decide) (fun h10 => ?_) (fun h10 => ?_)
  · refine J_vret (pc := 35) D0_hate_35 rfl ?_
    first | exact ⟨rfl, by rw [if_pos h10]; rfl⟩ | exact ⟨rfl, by rw [if_neg h10]⟩
  · have h10' := eq_true h10
    refine J_aload_n (pc := 13) D0_hate_13 rfl ?_
    refine J_getf (pc := 14) D0_hate_14 fl0_30 rfl rfl ?_
    refine J_iload_n (pc := 17) D0_hate_17 rfl ?_
    refine J_dup2 (pc := 18) D0_hate_18 rfl rfl ?_
    refine J_iald (pc := 19) D0_hate_19 rfl rfl (by omega) rfl ?_
    refine J_iconst (pc := 20) (v := (nI 1)) D0_hate_20 (by decide) ?_
    refine J_iload_n (pc := 21) D0_hate_21 rfl ?_
    refine J_ishl (pc := 22) D0_hate_22 ?_
    refine J_ior (pc := 23) D0_hate_23 ?_
    refine J_iast (pc := 24) D0_hate_24 rfl rfl (by omega) rfl ?_
    refine J_aload_n (pc := 25) D0_hate_25 rfl ?_
    refine J_getf (pc := 26) D0_hate_26 fl0_33 rfl rfl ?_
    refine J_iload_n (pc := 29) D0_hate_29 rfl ?_
    refine J_dup2 (pc := 30) D0_hate_30 rfl rfl ?_
    refine J_iald (pc := 31) D0_hate_31 rfl rfl (by omega) rfl ?_
    refine J_iconst (pc := 32) (v := (nI 1)) D0_hate_32 (by decide) ?_
    refine J_iadd (pc := 33) D0_hate_33 ?_
    refine J_iast (pc := 34) D0_hate_34 rfl rfl (by omega) rfl ?_
    refine J_vret (pc := 35) D0_hate_35 rfl ?_
    first | exact ⟨rfl, by rw [if_pos h10]; rfl⟩ | exact ⟨rfl, by rw [if_neg h10]⟩
theorem L0_bits {d : Nat} {V : CV} {x : Int32} : ∀ (g b : Nat) (acc : Int32), b + g = 10 → acc = bitsF (V.2.2.2 3) x b → J m0_bits d 0 0 10 4 [(0, .ref 0), (1, .int x), (2, .int acc), (3, .int (nI b))] [] (celW V) 0 0 (fun r w' => w' = celW V ∧ r = some (.int (bitsF (V.2.2.2 3) x 10))) := by
  intro g
  induction g with
  | zero =>
    intro b acc hb hacc
    have hbN : b = 10 := by omega
    refine J_iload_n (pc := 4) D0_bits_4 rfl ?_
    refine J_bipush (pc := 5) (v := (nI 10)) D0_bits_5 (by decide) ?_
    refine J_icmp_ge (pc := 7) (tgt := 32) D0_bits_7 (by decide) (fun h7 => ?_) (fun h7 => absurd (nI_le (by omega) (by omega)) h7)
    refine J_iload_n (pc := 32) D0_bits_32 rfl ?_
    refine J_iret (pc := 33) D0_bits_33 rfl ?_
    exact ⟨rfl, by rw [hacc, hbN]⟩
  | succ g ih =>
    intro b acc hb hacc
    refine J_iload_n (pc := 4) D0_bits_4 rfl ?_
    refine J_bipush (pc := 5) (v := (nI 10)) D0_bits_5 (by decide) ?_
    refine J_icmp_ge (pc := 7) (tgt := 32) D0_bits_7 (by decide) (fun h7 => absurd h7 (nI_ge (by omega) (by omega))) (fun h7 => ?_)
    refine J_aload_n (pc := 10) D0_bits_10 rfl ?_
    refine J_getf (pc := 11) D0_bits_11 fl0_21 rfl rfl ?_
    refine J_iload_n (pc := 14) D0_bits_14 rfl ?_
    refine J_iald (pc := 15) D0_bits_15 rfl rfl (by omega) rfl ?_
    refine J_iload_n (pc := 16) D0_bits_16 rfl ?_
    refine J_icmp_ne (pc := 17) (tgt := 26) D0_bits_17 (by decide) (fun h17 => ?_) (fun h17 => ?_)
    · refine J_iinc (pc := 26) D0_bits_26 rfl (nI_inc _) rfl ?_
      refine J_goto (pc := 29) (tgt := 4) D0_bits_29 (by decide) ?_
      first | exact ih (b + 1) _ (by omega) (by rw [bitsF, if_pos h17, hacc]) | exact ih (b + 1) _ (by omega) (by rw [bitsF, if_neg h17, hacc])
    · have h17' := eq_true h17
      refine J_iload_n (pc := 20) D0_bits_20 rfl ?_
      refine J_iconst (pc := 21) (v := (nI 1)) D0_bits_21 (by decide) ?_
      refine J_iload_n (pc := 22) D0_bits_22 rfl ?_
      refine J_ishl (pc := 23) D0_bits_23 ?_
      refine J_ior (pc := 24) D0_bits_24 ?_
      refine J_istore_n (pc := 25) D0_bits_25 rfl ?_
      refine J_iinc (pc := 26) D0_bits_26 rfl (nI_inc _) rfl ?_
      refine J_goto (pc := 29) (tgt := 4) D0_bits_29 (by decide) ?_
      first | exact ih (b + 1) _ (by omega) (by rw [bitsF, if_pos h17, hacc]) | exact ih (b + 1) _ (by omega) (by rw [bitsF, if_neg h17, hacc])
theorem c0_bits {d : Nat} {V : CV} {x : Int32} : TR d m0_bits [.ref 0, .int x] (celW V) (.int (bitsF (V.2.2.2 3) x 10)) := by
  refine Tr.intro (by decide) rfl ?_
  refine J_iconst (pc := 0) (v := (nI 0)) D0_bits_0 (by decide) ?_
  refine J_istore_n (pc := 1) D0_bits_1 rfl ?_
  refine J_iconst (pc := 2) (v := (nI 0)) D0_bits_2 (by decide) ?_
  refine J_istore_n (pc := 3) D0_bits_3 rfl ?_
  exact L0_bits 10 0 _ (by omega) rfl
theorem L0_needsWith {d : Nat} {V : CV} {x : Int32} : ∀ (g b : Nat) (acc : Int32), b + g = 8 → acc = cntF (V.2.2.2 5) x b → J m0_needsWith d 0 0 10 4 [(0, .ref 0), (1, .int x), (2, .int acc), (3, .int (nI b))] [] (celW V) 0 0 (fun r w' => w' = celW V ∧ r = some (.int (cntF (V.2.2.2 5) x 8))) := by
  intro g
  induction g with
  | zero =>
    intro b acc hb hacc
    have hbN : b = 8 := by omega
    refine J_iload_n (pc := 4) D0_needsWith_4 rfl ?_
    refine J_bipush (pc := 5) (v := (nI 8)) D0_needsWith_5 (by decide) ?_
    refine J_icmp_ge (pc := 7) (tgt := 29) D0_needsWith_7 (by decide) (fun h7 => ?_) (fun h7 => absurd (nI_le (by omega) (by omega)) h7)
    refine J_iload_n (pc := 29) D0_needsWith_29 rfl ?_
    refine J_iret (pc := 30) D0_needsWith_30 rfl ?_
    exact ⟨rfl, by rw [hacc, hbN]⟩
  | succ g ih =>
    intro b acc hb hacc
    refine J_iload_n (pc := 4) D0_needsWith_4 rfl ?_
    refine J_bipush (pc := 5) (v := (nI 8)) D0_needsWith_5 (by decide) ?_
    refine J_icmp_ge (pc := 7) (tgt := 29) D0_needsWith_7 (by decide) (fun h7 => absurd h7 (nI_ge (by omega) (by omega))) (fun h7 => ?_)
    refine J_aload_n (pc := 10) D0_needsWith_10 rfl ?_
    refine J_getf (pc := 11) D0_needsWith_11 fl0_27 rfl rfl ?_
    refine J_iload_n (pc := 14) D0_needsWith_14 rfl ?_
    refine J_iald (pc := 15) D0_needsWith_15 rfl rfl (by omega) rfl ?_
    refine J_iload_n (pc := 16) D0_needsWith_16 rfl ?_
    refine J_icmp_ne (pc := 17) (tgt := 23) D0_needsWith_17 (by decide) (fun h17 => ?_) (fun h17 => ?_)
    · refine J_iinc (pc := 23) D0_needsWith_23 rfl (nI_inc _) rfl ?_
      refine J_goto (pc := 26) (tgt := 4) D0_needsWith_26 (by decide) ?_
      first | exact ih (b + 1) _ (by omega) (by rw [cntF, if_pos h17, hacc]) | exact ih (b + 1) _ (by omega) (by rw [cntF, if_neg h17, hacc])
    · have h17' := eq_true h17
      refine J_iinc (pc := 20) D0_needsWith_20 rfl (inc1 _) rfl ?_
      refine J_iinc (pc := 23) D0_needsWith_23 rfl (nI_inc _) rfl ?_
      refine J_goto (pc := 26) (tgt := 4) D0_needsWith_26 (by decide) ?_
      first | exact ih (b + 1) _ (by omega) (by rw [cntF, if_pos h17, hacc]) | exact ih (b + 1) _ (by omega) (by rw [cntF, if_neg h17, hacc])
theorem c0_needsWith {d : Nat} {V : CV} {x : Int32} : TR d m0_needsWith [.ref 0, .int x] (celW V) (.int (cntF (V.2.2.2 5) x 8)) := by
  refine Tr.intro (by decide) rfl ?_
  refine J_iconst (pc := 0) (v := (nI 0)) D0_needsWith_0 (by decide) ?_
  refine J_istore_n (pc := 1) D0_needsWith_1 rfl ?_
  refine J_iconst (pc := 2) (v := (nI 0)) D0_needsWith_2 (by decide) ?_
  refine J_istore_n (pc := 3) D0_needsWith_3 rfl ?_
  exact L0_needsWith 8 0 _ (by omega) rfl
theorem L0_hatingPairs {d : Nat} {V : CV} : ∀ (g b : Nat) (acc : Int32), b + g = 5 → acc = sumF (V.2.2.2 7) b → J m0_hatingPairs d 0 0 10 4 [(0, .ref 0), (1, .int acc), (2, .int (nI b))] [] (celW V) 0 0 (fun r w' => w' = celW V ∧ r = some (.int (sumF (V.2.2.2 7) 5))) := by
  intro g
  induction g with
  | zero =>
    intro b acc hb hacc
    have hbN : b = 5 := by omega
    refine J_iload_n (pc := 4) D0_hatingPairs_4 rfl ?_
    refine J_iconst (pc := 5) (v := (nI 5)) D0_hatingPairs_5 (by decide) ?_
    refine J_icmp_ge (pc := 6) (tgt := 24) D0_hatingPairs_6 (by decide) (fun h6 => ?_) (fun h6 => absurd (nI_le (by omega) (by omega)) h6)
    refine J_iload_n (pc := 24) D0_hatingPairs_24 rfl ?_
    refine J_iret (pc := 25) D0_hatingPairs_25 rfl ?_
    exact ⟨rfl, by rw [hacc, hbN]⟩
  | succ g ih =>
    intro b acc hb hacc
    refine J_iload_n (pc := 4) D0_hatingPairs_4 rfl ?_
    refine J_iconst (pc := 5) (v := (nI 5)) D0_hatingPairs_5 (by decide) ?_
    refine J_icmp_ge (pc := 6) (tgt := 24) D0_hatingPairs_6 (by decide) (fun h6 => absurd h6 (nI_ge (by omega) (by omega))) (fun h6 => ?_)
    refine J_iload_n (pc := 9) D0_hatingPairs_9 rfl ?_
    refine J_aload_n (pc := 10) D0_hatingPairs_10 rfl ?_
    refine J_getf (pc := 11) D0_hatingPairs_11 fl0_33 rfl rfl ?_
    refine J_iload_n (pc := 14) D0_hatingPairs_14 rfl ?_
    refine J_iald (pc := 15) D0_hatingPairs_15 rfl rfl (by omega) rfl ?_
    refine J_iadd (pc := 16) D0_hatingPairs_16 ?_
    refine J_istore_n (pc := 17) D0_hatingPairs_17 rfl ?_
    refine J_iinc (pc := 18) D0_hatingPairs_18 rfl (nI_inc _) rfl ?_
    refine J_goto (pc := 21) (tgt := 4) D0_hatingPairs_21 (by decide) ?_
    exact ih (b + 1) _ (by omega) (by rw [sumF, hacc])
theorem c0_hatingPairs {d : Nat} {V : CV} : TR d m0_hatingPairs [.ref 0] (celW V) (.int (sumF (V.2.2.2 7) 5)) := by
  refine Tr.intro (by decide) rfl ?_
  refine J_iconst (pc := 0) (v := (nI 0)) D0_hatingPairs_0 (by decide) ?_
  refine J_istore_n (pc := 1) D0_hatingPairs_1 rfl ?_
  refine J_iconst (pc := 2) (v := (nI 0)) D0_hatingPairs_2 (by decide) ?_
  refine J_istore_n (pc := 3) D0_hatingPairs_3 rfl ?_
  exact L0_hatingPairs 5 0 _ (by omega) rfl
theorem c0_howMany {d : Nat} {V : CV} {x : Int32} : TR (d + 1) m0_howMany [.ref 0, .int x] (celW V) (.int (bcnt (bitsF (V.2.2.2 3) x 10))) := by
  refine Tr.intro (by decide) rfl ?_
  refine J_aload_n (pc := 0) D0_howMany_0 rfl ?_
  refine J_iload_n (pc := 1) D0_howMany_1 rfl ?_
  refine J_callVTR (pc := 2) (ac := [.int x]) D0_howMany_2 m0_bits_v t900 (c0_bits (d := d)) (by omega) rfl rfl rfl rfl (fun _ => rfl) rfl rfl rfl ?_
  refine J_callSR (pc := 5) (ι := []) (ac := [_]) D0_howMany_5 mJ_bitCount_s t904 (cJ_bitCount (d := d)) (by omega) ⟨rfl, rfl⟩ rfl rfl (fun _ => rfl) rfl rfl rfl ?_
  refine J_iret (pc := 8) D0_howMany_8 rfl ?_
  exact ⟨rfl, rfl⟩
theorem c0_metNeeds {d : Nat} {V : CV} : TR (d + 1) m0_metNeeds [.ref 0] (celW V) (.int (cntF (V.2.2.2 5) (nI 1) 8 + cntF (V.2.2.2 5) (nI 2) 8)) := by
  refine Tr.intro (by decide) rfl ?_
  refine J_aload_n (pc := 0) D0_metNeeds_0 rfl ?_
  refine J_iconst (pc := 1) (v := (nI 1)) D0_metNeeds_1 (by decide) ?_
  refine J_callVTR (pc := 2) (ac := [.int _]) D0_metNeeds_2 m0_needsWith_v t909 (c0_needsWith (d := d)) (by omega) rfl rfl rfl rfl (fun _ => rfl) rfl rfl rfl ?_
  refine J_aload_n (pc := 5) D0_metNeeds_5 rfl ?_
  refine J_iconst (pc := 6) (v := (nI 2)) D0_metNeeds_6 (by decide) ?_
  refine J_callVTR (pc := 7) (ac := [.int _]) D0_metNeeds_7 m0_needsWith_v t909 (c0_needsWith (d := d)) (by omega) rfl rfl rfl rfl (fun _ => rfl) rfl rfl rfl ?_
  refine J_iadd (pc := 10) D0_metNeeds_10 ?_
  refine J_iret (pc := 11) D0_metNeeds_11 rfl ?_
  exact ⟨rfl, rfl⟩
theorem c0_unmetNeeds {d : Nat} {V : CV} : TR (d + 1) m0_unmetNeeds [.ref 0] (celW V) (.int (cntF (V.2.2.2 5) (nI 0) 8)) := by
  refine Tr.intro (by decide) rfl ?_
  refine J_aload_n (pc := 0) D0_unmetNeeds_0 rfl ?_
  refine J_iconst (pc := 1) (v := (nI 0)) D0_unmetNeeds_1 (by decide) ?_
  refine J_callVTR (pc := 2) (ac := [.int _]) D0_unmetNeeds_2 m0_needsWith_v t909 (c0_needsWith (d := d)) (by omega) rfl rfl rfl rfl (fun _ => rfl) rfl rfl rfl ?_
  refine J_iret (pc := 5) D0_unmetNeeds_5 rfl ?_
  exact ⟨rfl, rfl⟩
