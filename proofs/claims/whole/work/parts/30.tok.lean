/-! TOKENS (own; walks by program wk.py) -/
abbrev bA (n : Nat) (f : Nat → Int32) : EC := .inl (.byte, n, .inl f)
/-- Tokens: length, at; tape, kind, place, value -/
def tokW (L p : Nat) (tp kd pl vl : Nat → Int32) : List EC := [.inr (5, [.ref 1, .ref 2, .ref 3, .ref 4, .int (nI L), .int (nI p)]), bA 700 tp, iA 701 kd, iA 701 pl, iA 701 vl]
def isDg (x : Int32) : Prop := nI 48 ≤ x ∧ x ≤ nI 57
def isLt (x : Int32) : Prop := nI 97 ≤ x ∧ x ≤ nI 122
theorem c5_isDigit {d : Nat} {x : Int32} : TR d m5_isDigit [.int x] [] (.int (i01 (nI 48 ≤ x ∧ x ≤ nI 57))) := by
  refine Tr.intro (by decide) rfl ?_
  refine J_iload_n (pc := 0) D5_isDigit_0 rfl ?_
  refine J_bipush (pc := 1) (v := (nI 48)) D5_isDigit_1 (by decide) ?_
  refine J_icmp_lt (pc := 3) (tgt := 16) D5_isDigit_3 (by decide) (fun h3 => ?_) (fun h3 => ?_)
  · have h3' := Int32.not_le.mpr h3
    refine J_iconst (pc := 16) (v := (nI 0)) D5_isDigit_16 (by decide) ?_
    refine J_zret (pc := 17) D5_isDigit_17 rfl (by decide) ?_
    exact ⟨rfl, congrArg (fun q => some (Value.int q)) (by simp [i01, h3, h3']; try rfl)⟩
  · have h3' := Int32.not_lt.mp h3
    refine J_iload_n (pc := 6) D5_isDigit_6 rfl ?_
    refine J_bipush (pc := 7) (v := (nI 57)) D5_isDigit_7 (by decide) ?_
    refine J_icmp_gt (pc := 9) (tgt := 16) D5_isDigit_9 (by decide) (fun h9 => ?_) (fun h9 => ?_)
    · have h9' := Int32.not_le.mpr h9
      refine J_iconst (pc := 16) (v := (nI 0)) D5_isDigit_16 (by decide) ?_
      refine J_zret (pc := 17) D5_isDigit_17 rfl (by decide) ?_
      exact ⟨rfl, congrArg (fun q => some (Value.int q)) (by simp [i01, h3, h3', h9, h9']; try rfl)⟩
    · have h9' := Int32.not_lt.mp h9
      refine J_iconst (pc := 12) (v := (nI 1)) D5_isDigit_12 (by decide) ?_
      refine J_goto (pc := 13) (tgt := 17) D5_isDigit_13 (by decide) ?_
      refine J_zret (pc := 17) D5_isDigit_17 rfl (by decide) ?_
      exact ⟨rfl, congrArg (fun q => some (Value.int q)) (by simp [i01, h3, h3', h9, h9']; try rfl)⟩
theorem c5_isLetter {d : Nat} {x : Int32} : TR d m5_isLetter [.int x] [] (.int (i01 (nI 97 ≤ x ∧ x ≤ nI 122))) := by
  refine Tr.intro (by decide) rfl ?_
  refine J_iload_n (pc := 0) D5_isLetter_0 rfl ?_
  refine J_bipush (pc := 1) (v := (nI 97)) D5_isLetter_1 (by decide) ?_
  refine J_icmp_lt (pc := 3) (tgt := 16) D5_isLetter_3 (by decide) (fun h3 => ?_) (fun h3 => ?_)
  · have h3' := Int32.not_le.mpr h3
    refine J_iconst (pc := 16) (v := (nI 0)) D5_isLetter_16 (by decide) ?_
    refine J_zret (pc := 17) D5_isLetter_17 rfl (by decide) ?_
    exact ⟨rfl, congrArg (fun q => some (Value.int q)) (by simp [i01, h3, h3']; try rfl)⟩
  · have h3' := Int32.not_lt.mp h3
    refine J_iload_n (pc := 6) D5_isLetter_6 rfl ?_
    refine J_bipush (pc := 7) (v := (nI 122)) D5_isLetter_7 (by decide) ?_
    refine J_icmp_gt (pc := 9) (tgt := 16) D5_isLetter_9 (by decide) (fun h9 => ?_) (fun h9 => ?_)
    · have h9' := Int32.not_le.mpr h9
      refine J_iconst (pc := 16) (v := (nI 0)) D5_isLetter_16 (by decide) ?_
      refine J_zret (pc := 17) D5_isLetter_17 rfl (by decide) ?_
      exact ⟨rfl, congrArg (fun q => some (Value.int q)) (by simp [i01, h3, h3', h9, h9']; try rfl)⟩
    · have h9' := Int32.not_lt.mp h9
      refine J_iconst (pc := 12) (v := (nI 1)) D5_isLetter_12 (by decide) ?_
      refine J_goto (pc := 13) (tgt := 17) D5_isLetter_13 (by decide) ?_
      refine J_zret (pc := 17) D5_isLetter_17 rfl (by decide) ?_
      exact ⟨rfl, congrArg (fun q => some (Value.int q)) (by simp [i01, h3, h3', h9, h9']; try rfl)⟩
def two (x : Int32) : Int32 := i01 (x = nI 20 ∨ x = nI 22 ∨ x = nI 23)
theorem c5_isOfTwo {d : Nat} {x : Int32} : TR d m5_isOfTwo [.int x] [] (.int (two x)) := by
  refine Tr.intro (by decide) rfl ?_
  refine J_iload_n (pc := 0) D5_isOfTwo_0 rfl ?_
  refine J_bipush (pc := 1) (v := (nI 20)) D5_isOfTwo_1 (by decide) ?_
  refine J_icmp_eq (pc := 3) (tgt := 18) D5_isOfTwo_3 (by decide) (fun h3 => ?_) (fun h3 => ?_)
  · have h3' := eq_true h3
    refine J_iconst (pc := 18) (v := (nI 1)) D5_isOfTwo_18 (by decide) ?_
    refine J_goto (pc := 19) (tgt := 23) D5_isOfTwo_19 (by decide) ?_
    refine J_zret (pc := 23) D5_isOfTwo_23 rfl (by decide) ?_
    exact ⟨rfl, congrArg (fun q => some (Value.int q)) (by simp [two, i01, h3']; try rfl)⟩
  · refine J_iload_n (pc := 6) D5_isOfTwo_6 rfl ?_
    refine J_bipush (pc := 7) (v := (nI 22)) D5_isOfTwo_7 (by decide) ?_
    refine J_icmp_eq (pc := 9) (tgt := 18) D5_isOfTwo_9 (by decide) (fun h9 => ?_) (fun h9 => ?_)
    · have h9' := eq_true h9
      refine J_iconst (pc := 18) (v := (nI 1)) D5_isOfTwo_18 (by decide) ?_
      refine J_goto (pc := 19) (tgt := 23) D5_isOfTwo_19 (by decide) ?_
      refine J_zret (pc := 23) D5_isOfTwo_23 rfl (by decide) ?_
      exact ⟨rfl, congrArg (fun q => some (Value.int q)) (by simp [two, i01, h3, h9']; try rfl)⟩
    · refine J_iload_n (pc := 12) D5_isOfTwo_12 rfl ?_
      refine J_bipush (pc := 13) (v := (nI 23)) D5_isOfTwo_13 (by decide) ?_
      refine J_icmp_ne (pc := 15) (tgt := 22) D5_isOfTwo_15 (by decide) (fun h15 => ?_) (fun h15 => ?_)
      · refine J_iconst (pc := 22) (v := (nI 0)) D5_isOfTwo_22 (by decide) ?_
        refine J_zret (pc := 23) D5_isOfTwo_23 rfl (by decide) ?_
        exact ⟨rfl, congrArg (fun q => some (Value.int q)) (by simp [two, i01, h3, h9, h15]; try rfl)⟩
      · have h15' := eq_true h15
        refine J_iconst (pc := 18) (v := (nI 1)) D5_isOfTwo_18 (by decide) ?_
        refine J_goto (pc := 19) (tgt := 23) D5_isOfTwo_19 (by decide) ?_
        refine J_zret (pc := 23) D5_isOfTwo_23 rfl (by decide) ?_
        exact ⟨rfl, congrArg (fun q => some (Value.int q)) (by simp [two, i01, h3, h9, h15']; try rfl)⟩
def sgO (x y : Int32) : Int32 := if x = nI 40 then nI 32 else if x = nI 41 then nI 33 else if x = nI 42 then nI 27 else if x = nI 43 then nI 25 else if x = nI 45 then nI 26 else if x = nI 47 then nI 28 else if x = nI 59 then nI 31 else if x = nI 60 then (if y = nI 61 then nI 20 else if y = nI 62 then nI 22 else nI 19) else if x = nI 61 then nI 21 else if x = nI 62 then (if y = nI 61 then nI 23 else nI 24) else nI 35
theorem sgO_0 {x y : Int32} (h : x = nI (40 + 0)) : sgO x y = nI 32 := by subst h; rfl
theorem sgO_1 {x y : Int32} (h : x = nI (40 + 1)) : sgO x y = nI 33 := by subst h; rfl
theorem sgO_2 {x y : Int32} (h : x = nI (40 + 2)) : sgO x y = nI 27 := by subst h; rfl
theorem sgO_3 {x y : Int32} (h : x = nI (40 + 3)) : sgO x y = nI 25 := by subst h; rfl
theorem sgO_4 {x y : Int32} (h : x = nI (40 + 4)) : sgO x y = nI 35 := by subst h; rfl
theorem sgO_5 {x y : Int32} (h : x = nI (40 + 5)) : sgO x y = nI 26 := by subst h; rfl
theorem sgO_6 {x y : Int32} (h : x = nI (40 + 6)) : sgO x y = nI 35 := by subst h; rfl
theorem sgO_7 {x y : Int32} (h : x = nI (40 + 7)) : sgO x y = nI 28 := by subst h; rfl
theorem sgO_8 {x y : Int32} (h : x = nI (40 + 8)) : sgO x y = nI 35 := by subst h; rfl
theorem sgO_9 {x y : Int32} (h : x = nI (40 + 9)) : sgO x y = nI 35 := by subst h; rfl
theorem sgO_10 {x y : Int32} (h : x = nI (40 + 10)) : sgO x y = nI 35 := by subst h; rfl
theorem sgO_11 {x y : Int32} (h : x = nI (40 + 11)) : sgO x y = nI 35 := by subst h; rfl
theorem sgO_12 {x y : Int32} (h : x = nI (40 + 12)) : sgO x y = nI 35 := by subst h; rfl
theorem sgO_13 {x y : Int32} (h : x = nI (40 + 13)) : sgO x y = nI 35 := by subst h; rfl
theorem sgO_14 {x y : Int32} (h : x = nI (40 + 14)) : sgO x y = nI 35 := by subst h; rfl
theorem sgO_15 {x y : Int32} (h : x = nI (40 + 15)) : sgO x y = nI 35 := by subst h; rfl
theorem sgO_16 {x y : Int32} (h : x = nI (40 + 16)) : sgO x y = nI 35 := by subst h; rfl
theorem sgO_17 {x y : Int32} (h : x = nI (40 + 17)) : sgO x y = nI 35 := by subst h; rfl
theorem sgO_18 {x y : Int32} (h : x = nI (40 + 18)) : sgO x y = nI 35 := by subst h; rfl
theorem sgO_19 {x y : Int32} (h : x = nI (40 + 19)) : sgO x y = nI 31 := by subst h; rfl
theorem sgO_20 {x y : Int32} (h : x = nI (40 + 20)) : sgO x y = (if y = nI 61 then nI 20 else if y = nI 62 then nI 22 else nI 19) := by subst h; rfl
theorem sgO_21 {x y : Int32} (h : x = nI (40 + 21)) : sgO x y = nI 21 := by subst h; rfl
theorem sgO_22 {x y : Int32} (h : x = nI (40 + 22)) : sgO x y = (if y = nI 61 then nI 23 else nI 24) := by subst h; rfl
theorem sgO_d {x y : Int32} (h : ∀ j, j < 23 → x ≠ nI (40 + j)) : sgO x y = nI 35 := by
  unfold sgO
  rw [if_neg (h 0 (by decide)), if_neg (h 1 (by decide)), if_neg (h 2 (by decide)), if_neg (h 3 (by decide)), if_neg (h 5 (by decide)), if_neg (h 7 (by decide)), if_neg (h 19 (by decide)), if_neg (h 20 (by decide)), if_neg (h 21 (by decide)), if_neg (h 22 (by decide))]
theorem c5_signOf {d : Nat} {x y : Int32} : TR d m5_signOf [.int x, .int y] [] (.int (sgO x y)) := by
  refine Tr.intro (by decide) rfl ?_
  refine J_iload_n (pc := 0) D5_signOf_0 rfl ?_
  refine J_tsw (pc := 1) 40 [111, 114, 123, 117, 171, 120, 171, 126, 171, 171, 171, 171, 171, 171, 171, 171, 171, 171, 171, 108, 132, 129, 157] 171 D5_signOf_1 (by decide) (by decide) rfl (by decide) (by decide) (fun j hj h1 => ?_) (fun h1 => ?_)
  · have hj1 : j = 0 ∨ j = 1 ∨ j = 2 ∨ j = 3 ∨ j = 4 ∨ j = 5 ∨ j = 6 ∨ j = 7 ∨ j = 8 ∨ j = 9 ∨ j = 10 ∨ j = 11 ∨ j = 12 ∨ j = 13 ∨ j = 14 ∨ j = 15 ∨ j = 16 ∨ j = 17 ∨ j = 18 ∨ j = 19 ∨ j = 20 ∨ j = 21 ∨ j = 22 := by have hj2 : j < 23 := hj; omega
    clear hj
    rcases hj1 with rfl | rfl | rfl | rfl | rfl | rfl | rfl | rfl | rfl | rfl | rfl | rfl | rfl | rfl | rfl | rfl | rfl | rfl | rfl | rfl | rfl | rfl | rfl
    · refine J_bipush (pc := 111) (v := (nI 32)) D5_signOf_111 (by decide) ?_
      refine J_iret (pc := 113) D5_signOf_113 rfl ?_
      exact ⟨rfl, congrArg (fun q => some (Value.int q)) (by refine Eq.trans ?_ (sgO_0 h1).symm; first | rfl | (simp only [h1, ↓reduceIte]))⟩
    · refine J_bipush (pc := 114) (v := (nI 33)) D5_signOf_114 (by decide) ?_
      refine J_iret (pc := 116) D5_signOf_116 rfl ?_
      exact ⟨rfl, congrArg (fun q => some (Value.int q)) (by refine Eq.trans ?_ (sgO_1 h1).symm; first | rfl | (simp only [h1, ↓reduceIte]))⟩
    · refine J_bipush (pc := 123) (v := (nI 27)) D5_signOf_123 (by decide) ?_
      refine J_iret (pc := 125) D5_signOf_125 rfl ?_
      exact ⟨rfl, congrArg (fun q => some (Value.int q)) (by refine Eq.trans ?_ (sgO_2 h1).symm; first | rfl | (simp only [h1, ↓reduceIte]))⟩
    · refine J_bipush (pc := 117) (v := (nI 25)) D5_signOf_117 (by decide) ?_
      refine J_iret (pc := 119) D5_signOf_119 rfl ?_
      exact ⟨rfl, congrArg (fun q => some (Value.int q)) (by refine Eq.trans ?_ (sgO_3 h1).symm; first | rfl | (simp only [h1, ↓reduceIte]))⟩
    · refine J_bipush (pc := 171) (v := (nI 35)) D5_signOf_171 (by decide) ?_
      refine J_iret (pc := 173) D5_signOf_173 rfl ?_
      exact ⟨rfl, congrArg (fun q => some (Value.int q)) (by refine Eq.trans ?_ (sgO_4 h1).symm; first | rfl | (simp only [h1, ↓reduceIte]))⟩
    · refine J_bipush (pc := 120) (v := (nI 26)) D5_signOf_120 (by decide) ?_
      refine J_iret (pc := 122) D5_signOf_122 rfl ?_
      exact ⟨rfl, congrArg (fun q => some (Value.int q)) (by refine Eq.trans ?_ (sgO_5 h1).symm; first | rfl | (simp only [h1, ↓reduceIte]))⟩
    · refine J_bipush (pc := 171) (v := (nI 35)) D5_signOf_171 (by decide) ?_
      refine J_iret (pc := 173) D5_signOf_173 rfl ?_
      exact ⟨rfl, congrArg (fun q => some (Value.int q)) (by refine Eq.trans ?_ (sgO_6 h1).symm; first | rfl | (simp only [h1, ↓reduceIte]))⟩
    · refine J_bipush (pc := 126) (v := (nI 28)) D5_signOf_126 (by decide) ?_
      refine J_iret (pc := 128) D5_signOf_128 rfl ?_
      exact ⟨rfl, congrArg (fun q => some (Value.int q)) (by refine Eq.trans ?_ (sgO_7 h1).symm; first | rfl | (simp only [h1, ↓reduceIte]))⟩
    · refine J_bipush (pc := 171) (v := (nI 35)) D5_signOf_171 (by decide) ?_
      refine J_iret (pc := 173) D5_signOf_173 rfl ?_
      exact ⟨rfl, congrArg (fun q => some (Value.int q)) (by refine Eq.trans ?_ (sgO_8 h1).symm; first | rfl | (simp only [h1, ↓reduceIte]))⟩
    · refine J_bipush (pc := 171) (v := (nI 35)) D5_signOf_171 (by decide) ?_
      refine J_iret (pc := 173) D5_signOf_173 rfl ?_
      exact ⟨rfl, congrArg (fun q => some (Value.int q)) (by refine Eq.trans ?_ (sgO_9 h1).symm; first | rfl | (simp only [h1, ↓reduceIte]))⟩
    · refine J_bipush (pc := 171) (v := (nI 35)) D5_signOf_171 (by decide) ?_
      refine J_iret (pc := 173) D5_signOf_173 rfl ?_
      exact ⟨rfl, congrArg (fun q => some (Value.int q)) (by refine Eq.trans ?_ (sgO_10 h1).symm; first | rfl | (simp only [h1, ↓reduceIte]))⟩
    · refine J_bipush (pc := 171) (v := (nI 35)) D5_signOf_171 (by decide) ?_
      refine J_iret (pc := 173) D5_signOf_173 rfl ?_
      exact ⟨rfl, congrArg (fun q => some (Value.int q)) (by refine Eq.trans ?_ (sgO_11 h1).symm; first | rfl | (simp only [h1, ↓reduceIte]))⟩
    · refine J_bipush (pc := 171) (v := (nI 35)) D5_signOf_171 (by decide) ?_
      refine J_iret (pc := 173) D5_signOf_173 rfl ?_
      exact ⟨rfl, congrArg (fun q => some (Value.int q)) (by refine Eq.trans ?_ (sgO_12 h1).symm; first | rfl | (simp only [h1, ↓reduceIte]))⟩
    · refine J_bipush (pc := 171) (v := (nI 35)) D5_signOf_171 (by decide) ?_
      refine J_iret (pc := 173) D5_signOf_173 rfl ?_
      exact ⟨rfl, congrArg (fun q => some (Value.int q)) (by refine Eq.trans ?_ (sgO_13 h1).symm; first | rfl | (simp only [h1, ↓reduceIte]))⟩
    · refine J_bipush (pc := 171) (v := (nI 35)) D5_signOf_171 (by decide) ?_
      refine J_iret (pc := 173) D5_signOf_173 rfl ?_
      exact ⟨rfl, congrArg (fun q => some (Value.int q)) (by refine Eq.trans ?_ (sgO_14 h1).symm; first | rfl | (simp only [h1, ↓reduceIte]))⟩
    · refine J_bipush (pc := 171) (v := (nI 35)) D5_signOf_171 (by decide) ?_
      refine J_iret (pc := 173) D5_signOf_173 rfl ?_
      exact ⟨rfl, congrArg (fun q => some (Value.int q)) (by refine Eq.trans ?_ (sgO_15 h1).symm; first | rfl | (simp only [h1, ↓reduceIte]))⟩
    · refine J_bipush (pc := 171) (v := (nI 35)) D5_signOf_171 (by decide) ?_
      refine J_iret (pc := 173) D5_signOf_173 rfl ?_
      exact ⟨rfl, congrArg (fun q => some (Value.int q)) (by refine Eq.trans ?_ (sgO_16 h1).symm; first | rfl | (simp only [h1, ↓reduceIte]))⟩
    · refine J_bipush (pc := 171) (v := (nI 35)) D5_signOf_171 (by decide) ?_
      refine J_iret (pc := 173) D5_signOf_173 rfl ?_
      exact ⟨rfl, congrArg (fun q => some (Value.int q)) (by refine Eq.trans ?_ (sgO_17 h1).symm; first | rfl | (simp only [h1, ↓reduceIte]))⟩
    · refine J_bipush (pc := 171) (v := (nI 35)) D5_signOf_171 (by decide) ?_
      refine J_iret (pc := 173) D5_signOf_173 rfl ?_
      exact ⟨rfl, congrArg (fun q => some (Value.int q)) (by refine Eq.trans ?_ (sgO_18 h1).symm; first | rfl | (simp only [h1, ↓reduceIte]))⟩
    · refine J_bipush (pc := 108) (v := (nI 31)) D5_signOf_108 (by decide) ?_
      refine J_iret (pc := 110) D5_signOf_110 rfl ?_
      exact ⟨rfl, congrArg (fun q => some (Value.int q)) (by refine Eq.trans ?_ (sgO_19 h1).symm; first | rfl | (simp only [h1, ↓reduceIte]))⟩
    · refine J_iload_n (pc := 132) D5_signOf_132 rfl ?_
      refine J_bipush (pc := 133) (v := (nI 61)) D5_signOf_133 (by decide) ?_
      refine J_icmp_ne (pc := 135) (tgt := 143) D5_signOf_135 (by decide) (fun h135 => ?_) (fun h135 => ?_)
      · refine J_iload_n (pc := 143) D5_signOf_143 rfl ?_
        refine J_bipush (pc := 144) (v := (nI 62)) D5_signOf_144 (by decide) ?_
        refine J_icmp_ne (pc := 146) (tgt := 154) D5_signOf_146 (by decide) (fun h146 => ?_) (fun h146 => ?_)
        · refine J_bipush (pc := 154) (v := (nI 19)) D5_signOf_154 (by decide) ?_
          refine J_iret (pc := 156) D5_signOf_156 rfl ?_
          exact ⟨rfl, congrArg (fun q => some (Value.int q)) (by refine Eq.trans ?_ (sgO_20 h1).symm; first | rfl | (simp only [h1, h135, h146, ↓reduceIte]))⟩
        · have h146' := eq_true h146
          refine J_bipush (pc := 149) (v := (nI 22)) D5_signOf_149 (by decide) ?_
          refine J_goto (pc := 151) (tgt := 156) D5_signOf_151 (by decide) ?_
          refine J_iret (pc := 156) D5_signOf_156 rfl ?_
          exact ⟨rfl, congrArg (fun q => some (Value.int q)) (by refine Eq.trans ?_ (sgO_20 h1).symm; first | rfl | (simp only [h1, h135, h146', ↓reduceIte]))⟩
      · have h135' := eq_true h135
        refine J_bipush (pc := 138) (v := (nI 20)) D5_signOf_138 (by decide) ?_
        refine J_goto (pc := 140) (tgt := 156) D5_signOf_140 (by decide) ?_
        refine J_iret (pc := 156) D5_signOf_156 rfl ?_
        exact ⟨rfl, congrArg (fun q => some (Value.int q)) (by refine Eq.trans ?_ (sgO_20 h1).symm; first | rfl | (simp only [h1, h135', ↓reduceIte]))⟩
    · refine J_bipush (pc := 129) (v := (nI 21)) D5_signOf_129 (by decide) ?_
      refine J_iret (pc := 131) D5_signOf_131 rfl ?_
      exact ⟨rfl, congrArg (fun q => some (Value.int q)) (by refine Eq.trans ?_ (sgO_21 h1).symm; first | rfl | (simp only [h1, ↓reduceIte]))⟩
    · refine J_iload_n (pc := 157) D5_signOf_157 rfl ?_
      refine J_bipush (pc := 158) (v := (nI 61)) D5_signOf_158 (by decide) ?_
      refine J_icmp_ne (pc := 160) (tgt := 168) D5_signOf_160 (by decide) (fun h160 => ?_) (fun h160 => ?_)
      · refine J_bipush (pc := 168) (v := (nI 24)) D5_signOf_168 (by decide) ?_
        refine J_iret (pc := 170) D5_signOf_170 rfl ?_
        exact ⟨rfl, congrArg (fun q => some (Value.int q)) (by refine Eq.trans ?_ (sgO_22 h1).symm; first | rfl | (simp only [h1, h160, ↓reduceIte]))⟩
      · have h160' := eq_true h160
        refine J_bipush (pc := 163) (v := (nI 23)) D5_signOf_163 (by decide) ?_
        refine J_goto (pc := 165) (tgt := 170) D5_signOf_165 (by decide) ?_
        refine J_iret (pc := 170) D5_signOf_170 rfl ?_
        exact ⟨rfl, congrArg (fun q => some (Value.int q)) (by refine Eq.trans ?_ (sgO_22 h1).symm; first | rfl | (simp only [h1, h160', ↓reduceIte]))⟩
  · refine J_bipush (pc := 171) (v := (nI 35)) D5_signOf_171 (by decide) ?_
    refine J_iret (pc := 173) D5_signOf_173 rfl ?_
    exact ⟨rfl, congrArg (fun q => some (Value.int q)) (by refine Eq.trans ?_ (sgO_d h1).symm; first | rfl | (simp only [h1, ↓reduceIte]))⟩
def alL (tp : Nat → Int32) (s f : Nat) : Nat → Nat → Bool
  | 0, _ => true
  | g + 1, j => bif decide (chS 0 (s + j) = tp (f + j)) then alL tp s f g (j + 1) else false
theorem L5_isAlike {d L p s f n : Nat} {tp kd pl vl : Nat → Int32} (hs : s + n ≤ 96) (hf : f + n ≤ 700) : ∀ (g j : Nat), j + g = n → J m5_isAlike (d + 4) 0 0 5 3 [(0, .ref 0), (1, .int (nI s)), (2, .int (nI f)), (3, .int (nI n)), (4, .int (nI j))] [] (tokW L p tp kd pl vl) 0 0 (fun r w' => w' = tokW L p tp kd pl vl ∧ r = some (.int (i01 (alL tp s f g j = true)))) := by
  intro g
  induction g with
  | zero =>
    intro j hj
    refine J_iload (pc := 3) D5_isAlike_3 rfl ?_
    refine J_iload_n (pc := 5) D5_isAlike_5 rfl ?_
    refine J_icmp_ge (pc := 6) (tgt := 38) D5_isAlike_6 (by decide) (fun h6 => ?_) (fun h6 => absurd (nI_le (by omega) (by omega)) h6)
    refine J_iconst (pc := 38) (v := (nI 1)) D5_isAlike_38 (by decide) ?_
    refine J_zret (pc := 39) D5_isAlike_39 rfl (by decide) ?_
    exact ⟨rfl, rfl⟩
  | succ g ih =>
    intro j hj
    refine J_iload (pc := 3) D5_isAlike_3 rfl ?_
    refine J_iload_n (pc := 5) D5_isAlike_5 rfl ?_
    refine J_icmp_ge (pc := 6) (tgt := 38) D5_isAlike_6 (by decide) (fun h6 => absurd h6 (nI_ge (by omega) (by omega))) (fun h6 => ?_)
    refine J_ldcS (pc := 9) (i := 0) D5_isAlike_9 rfl ?_
    refine J_iload_n (pc := 11) D5_isAlike_11 rfl ?_
    refine J_iload (pc := 12) D5_isAlike_12 rfl ?_
    refine J_iadd (pc := 14) D5_isAlike_14 ?_
    refine J_st [.int (nI (s + j)), .retAddr 0] (by rw [nI_add]) ?_
    refine J_callVS (pc := 15) (ac := [.int _]) D5_isAlike_15 mJ_charAt_v rfl t527 (cJ_charAt (d := d) (k := 0) (b := s + j) (by decide) (by show s + j < 96; omega)) (by omega) (by decide) rfl rfl (fun _ => rfl) rfl rfl rfl ?_
    refine J_aload_n (pc := 18) D5_isAlike_18 rfl ?_
    refine J_getf (pc := 19) D5_isAlike_19 fl5_21 rfl rfl ?_
    refine J_iload_n (pc := 22) D5_isAlike_22 rfl ?_
    refine J_iload (pc := 23) D5_isAlike_23 rfl ?_
    refine J_iadd (pc := 25) D5_isAlike_25 ?_
    refine J_st [.int (nI (f + j)), .ref 1, .int (chS 0 (s + j))] (by rw [nI_add]) ?_
    refine J_bald (pc := 26) D5_isAlike_26 rfl rfl (by omega) rfl ?_
    refine J_icmp_eq (pc := 27) (tgt := 32) D5_isAlike_27 (by decide) (fun h27 => ?_) (fun h27 => ?_)
    · have h27' := eq_true h27
      refine J_iinc (pc := 32) D5_isAlike_32 rfl (nI_inc _) rfl ?_
      refine J_goto (pc := 35) (tgt := 3) D5_isAlike_35 (by decide) ?_
      rw [alL, decide_eq_true h27]
      exact ih (j + 1) (by omega)
    · refine J_iconst (pc := 30) (v := (nI 0)) D5_isAlike_30 (by decide) ?_
      refine J_zret (pc := 31) D5_isAlike_31 rfl (by decide) ?_
      refine ⟨rfl, ?_⟩
      rw [alL, decide_eq_false h27]
      rfl
theorem c5_isAlike {d L p s f n : Nat} {tp kd pl vl : Nat → Int32} (hs : s + n ≤ 96) (hf : f + n ≤ 700) : TR (d + 4) m5_isAlike [.ref 0, .int (nI s), .int (nI f), .int (nI n)] (tokW L p tp kd pl vl) (.int (i01 (alL tp s f n 0 = true))) := by
  refine Tr.intro (by decide) rfl ?_
  refine J_iconst (pc := 0) (v := (nI 0)) D5_isAlike_0 (by decide) ?_
  refine J_istore (pc := 1) D5_isAlike_1 rfl ?_
  exact L5_isAlike hs hf n 0 (by omega)
def wrB (tp : Nat → Int32) (f n i st : Nat) : Bool := Nat.beq (i - st) n && alL tp st f n 0
def wrL (tp : Nat → Int32) (f n : Nat) : Nat → Nat → Nat → Nat → Option Nat
  | 0, _, _, _ => none
  | g + 1, i, w, st => if chS 0 i = nI 32 then (bif wrB tp f n i st then some w else wrL tp f n g (i + 1) (w + 1) (i + 1)) else wrL tp f n g (i + 1) w st
theorem L5_wordFrom {d L p f n : Nat} {tp kd pl vl : Nat → Int32} (hf : f + n ≤ 700) : ∀ (g i w st : Nat), i + g = 96 → st ≤ i → w ≤ i → J m5_wordFrom (d + 5) 0 0 5 8 [(0, .ref 0), (1, .int (nI f)), (2, .int (nI n)), (3, .int (nI w)), (4, .int (nI st)), (5, .int (nI i))] [] (tokW L p tp kd pl vl) 0 0 (fun r w' => w' = tokW L p tp kd pl vl ∧ r = some (.int (wkI (wrL tp f n g i w st)))) := by
  intro g
  induction g with
  | zero =>
    intro i w st hi hst hw
    refine J_iload (pc := 8) D5_wordFrom_8 rfl ?_
    refine J_ldcS (pc := 10) (i := 0) D5_wordFrom_10 rfl ?_
    refine J_callVS (pc := 12) (ac := []) D5_wordFrom_12 mJ_length_v rfl t517 (cJ_length (d := d + 3) (k := 0) (by decide)) (by omega) (by decide) rfl rfl (fun _ => rfl) rfl rfl rfl ?_
    refine J_icmp_ge (pc := 15) (tgt := 67) D5_wordFrom_15 (by decide) (fun h15 => ?_) (fun h15 => absurd (nI_le (by show 96 ≤ i; omega) (by omega)) h15)
    refine J_iconst (pc := 67) (v := (-1)) D5_wordFrom_67 (by decide) ?_
    refine J_iret (pc := 68) D5_wordFrom_68 rfl ?_
    exact ⟨rfl, rfl⟩
  | succ g ih =>
    intro i w st hi hst hw
    refine J_iload (pc := 8) D5_wordFrom_8 rfl ?_
    refine J_ldcS (pc := 10) (i := 0) D5_wordFrom_10 rfl ?_
    refine J_callVS (pc := 12) (ac := []) D5_wordFrom_12 mJ_length_v rfl t517 (cJ_length (d := d + 3) (k := 0) (by decide)) (by omega) (by decide) rfl rfl (fun _ => rfl) rfl rfl rfl ?_
    refine J_icmp_ge (pc := 15) (tgt := 67) D5_wordFrom_15 (by decide) (fun h15 => absurd h15 (nI_ge (by show i < 96; omega) (by decide))) (fun h15 => ?_)
    refine J_ldcS (pc := 18) (i := 0) D5_wordFrom_18 rfl ?_
    refine J_iload (pc := 20) D5_wordFrom_20 rfl ?_
    refine J_callVS (pc := 22) (ac := [.int _]) D5_wordFrom_22 mJ_charAt_v rfl t527 (cJ_charAt (d := d + 1) (k := 0) (b := i) (by decide) (by show i < 96; omega)) (by omega) (by decide) rfl rfl (fun _ => rfl) rfl rfl rfl ?_
    refine J_bipush (pc := 25) (v := (nI 32)) D5_wordFrom_25 (by decide) ?_
    refine J_icmp_ne (pc := 27) (tgt := 61) D5_wordFrom_27 (by decide) (fun h27 => ?_) (fun h27 => ?_)
    · refine J_iinc (pc := 61) D5_wordFrom_61 rfl (nI_inc _) rfl ?_
      refine J_goto (pc := 64) (tgt := 8) D5_wordFrom_64 (by decide) ?_
      rw [wrL, if_neg h27]
      exact ih (i + 1) w st (by omega) (by omega) (by omega)
    · have h27' := eq_true h27
      refine J_iload (pc := 30) D5_wordFrom_30 rfl ?_
      refine J_iload (pc := 32) D5_wordFrom_32 rfl ?_
      refine J_isub (pc := 34) D5_wordFrom_34 ?_
      refine J_st [.int (nI (i - st))] (by rw [pk_sub hst]) ?_
      refine J_iload_n (pc := 35) D5_wordFrom_35 rfl ?_
      refine J_icmp_ne (pc := 36) (tgt := 52) D5_wordFrom_36 (by decide) (fun h36 => ?_) (fun h36 => ?_)
      · replace h36 := fun z => h36 (congrArg nI z)
        refine J_iinc (pc := 52) D5_wordFrom_52 rfl (nI_inc _) rfl ?_
        refine J_iload (pc := 55) D5_wordFrom_55 rfl ?_
        refine J_iconst (pc := 57) (v := (nI 1)) D5_wordFrom_57 (by decide) ?_
        refine J_iadd (pc := 58) D5_wordFrom_58 ?_
        refine J_st [.int (nI (i + 1))] (by rw [show nI i + nI 1 = nI (i + 1) from nI_1 i]) ?_
        refine J_istore (pc := 59) D5_wordFrom_59 rfl ?_
        refine J_iinc (pc := 61) D5_wordFrom_61 rfl (nI_inc _) rfl ?_
        refine J_goto (pc := 64) (tgt := 8) D5_wordFrom_64 (by decide) ?_
        have e : wrB tp f n i st = false := by unfold wrB; rw [nbf.mpr h36]; rfl
        rw [wrL, if_pos h27, e]
        exact ih (i + 1) (w + 1) (i + 1) (by omega) (by omega) (by omega)
      · have h36' := eq_true h36
        replace h36 := (nI_eq (by omega) (by omega)).mp h36
        refine J_aload_n (pc := 39) D5_wordFrom_39 rfl ?_
        refine J_iload (pc := 40) D5_wordFrom_40 rfl ?_
        refine J_iload_n (pc := 42) D5_wordFrom_42 rfl ?_
        refine J_iload_n (pc := 43) D5_wordFrom_43 rfl ?_
        refine J_callVTR (pc := 44) (ac := [.int _, .int _, .int _]) D5_wordFrom_44 m5_isAlike_v t565 (c5_isAlike (d := d) (s := st) (f := f) (n := n) (by omega) hf) (by omega) rfl rfl rfl rfl (fun _ => rfl) rfl rfl rfl ?_
        refine J_if_eq (pc := 47) (tgt := 52) D5_wordFrom_47 (by decide) (fun h47 => ?_) (fun h47 => ?_)
        · have h47' := eq_true h47
          replace h47 := i01_z h47
          refine J_iinc (pc := 52) D5_wordFrom_52 rfl (nI_inc _) rfl ?_
          refine J_iload (pc := 55) D5_wordFrom_55 rfl ?_
          refine J_iconst (pc := 57) (v := (nI 1)) D5_wordFrom_57 (by decide) ?_
          refine J_iadd (pc := 58) D5_wordFrom_58 ?_
          refine J_st [.int (nI (i + 1))] (by rw [show nI i + nI 1 = nI (i + 1) from nI_1 i]) ?_
          refine J_istore (pc := 59) D5_wordFrom_59 rfl ?_
          refine J_iinc (pc := 61) D5_wordFrom_61 rfl (nI_inc _) rfl ?_
          refine J_goto (pc := 64) (tgt := 8) D5_wordFrom_64 (by decide) ?_
          have e : wrB tp f n i st = false := by unfold wrB; rw [Bool.eq_false_iff.mpr h47, Bool.and_false]
          rw [wrL, if_pos h27, e]
          exact ih (i + 1) (w + 1) (i + 1) (by omega) (by omega) (by omega)
        · replace h47 := i01_nz h47
          refine J_iload_n (pc := 50) D5_wordFrom_50 rfl ?_
          refine J_iret (pc := 51) D5_wordFrom_51 rfl ?_
          have e : wrB tp f n i st = true := by unfold wrB; rw [h36, h47, Nat.beq_refl]; rfl
          refine ⟨rfl, ?_⟩
          rw [wrL, if_pos h27, e]
          rfl
def wrF (tp : Nat → Int32) (f n : Nat) : Option Nat := wrL tp f n 96 0 0 0
theorem c5_wordFrom {d L p f n : Nat} {tp kd pl vl : Nat → Int32} (hf : f + n ≤ 700) : TR (d + 5) m5_wordFrom [.ref 0, .int (nI f), .int (nI n)] (tokW L p tp kd pl vl) (.int (wkI (wrF tp f n))) := by
  refine Tr.intro (by decide) rfl ?_
  refine J_iconst (pc := 0) (v := (nI 0)) D5_wordFrom_0 (by decide) ?_
  refine J_istore_n (pc := 1) D5_wordFrom_1 rfl ?_
  refine J_iconst (pc := 2) (v := (nI 0)) D5_wordFrom_2 (by decide) ?_
  refine J_istore (pc := 3) D5_wordFrom_3 rfl ?_
  refine J_iconst (pc := 5) (v := (nI 0)) D5_wordFrom_5 (by decide) ?_
  refine J_istore (pc := 6) D5_wordFrom_6 rfl ?_
  exact L5_wordFrom hf 96 0 0 0 (by omega) (by omega) (by omega)
