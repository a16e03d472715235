/-! YEARS: worlds of Told and Years; worth of laws (own; walks by program wk.py) -/
abbrev lA (n : Nat) (f : Nat → Int64) : EC := .inl (.long, n, .inr (.inl f))
/-- Told: int fields, arrays (by the fields' numbers); Laws: the same -/
abbrev TV : Type := (Nat → Int32) × (Nat → Nat → Int32) × (Nat → Int32) × (Nat → Nat → Int32)
def toldC (o : Nat) (T : TV) : List EC := [.inr (6, [.int (T.1 0), .ref (o + 1), .ref (o + 2), .int (T.1 3), .ref (o + 3), .ref (o + 4), .ref (o + 5), .ref (o + 6), .ref (o + 7), .ref (o + 8), .int (T.1 10), .ref (o + 9), .ref (o + 10), .ref (o + 11), .ref (o + 12), .int (T.1 15), .int (T.1 16), .ref (o + 13)]),
  iA 5 (T.2.1 1), iA 5 (T.2.1 2), iA 10 (T.2.1 4), iA 10 (T.2.1 5), iA 10 (T.2.1 6), iA 10 (T.2.1 7), iA 10 (T.2.1 8), iA 10 (T.2.1 9), iA 8 (T.2.1 11), iA 8 (T.2.1 12), iA 8 (T.2.1 13), iA 8 (T.2.1 14),
  .inr (1, [.ref (o + 14), .ref (o + 15), .ref (o + 16), .ref (o + 17), .int (T.2.2.1 4), .int (T.2.2.1 5)]), iA 3 (T.2.2.2 0), iA 3 (T.2.2.2 1), iA 64 (T.2.2.2 2), iA 64 (T.2.2.2 3)]
def celC (o : Nat) (V : CV) : List EC := [.inr (0, [.int V.1, .long V.2.1, .int V.2.2.1, .ref (o + 1), .ref (o + 2), .ref (o + 3), .ref (o + 4), .ref (o + 5), .ref (o + 6), .ref (o + 7), .ref (o + 8), .ref (o + 9)]), iA 10 (V.2.2.2 0), iA 10 (V.2.2.2 1), iA 10 (V.2.2.2 2), iA 10 (V.2.2.2 3), iA 10 (V.2.2.2 4), iA 8 (V.2.2.2 5), iA 5 (V.2.2.2 6), iA 5 (V.2.2.2 7), iA 6 (V.2.2.2 8)]
/-- Years: thunderBy, setsOff, ages; queue, stack; told at 3, cellar at 21 -/
def yrsW (y : Int32 × Int32 × Int32) (q : Nat → Int32) (k : Nat → Int64) (T : TV) (V : CV) : List EC := .inr (8, [.ref 3, .ref 21, .int y.1, .int y.2.1, .int y.2.2, .ref 1, .ref 2]) :: iA 10 q :: lA 64 k :: (toldC 3 T ++ celC 21 V)
def LMIN : Int64 := -9223372036854775808
def LBIG : Int64 := 1000000000000
def l01 (c : Prop) [Decidable c] : Int64 := if c then 1 else 0
theorem l01_t {c : Prop} [Decidable c] (h : c) : l01 c = 1 := if_pos h
theorem l01_f {c : Prop} [Decidable c] (h : ¬ c) : l01 c = 0 := if_neg h
theorem c9_isAmong {d : Nat} {x y v : Int32} : TR d m9_isAmong [.int x, .int y, .int v] [] (.int (i01 (y ≤ x ∧ x ≤ v))) := by
  refine Tr.intro (by decide) rfl ?_
  refine J_iload_n (pc := 0) D9_isAmong_0 rfl ?_
  refine J_iload_n (pc := 1) D9_isAmong_1 rfl ?_
  refine J_icmp_lt (pc := 2) (tgt := 14) D9_isAmong_2 (by decide) (fun h2 => ?_) (fun h2 => ?_)
  · have h2' := Int32.not_le.mpr h2
    refine J_iconst (pc := 14) (v := (nI 0)) D9_isAmong_14 (by decide) ?_
    refine J_zret (pc := 15) D9_isAmong_15 rfl (by decide) ?_
    exact ⟨rfl, congrArg (fun q => some (Value.int q)) (by simp [i01, h2, h2']; try rfl)⟩
  · have h2' := Int32.not_lt.mp h2
    refine J_iload_n (pc := 5) D9_isAmong_5 rfl ?_
    refine J_iload_n (pc := 6) D9_isAmong_6 rfl ?_
    refine J_icmp_gt (pc := 7) (tgt := 14) D9_isAmong_7 (by decide) (fun h7 => ?_) (fun h7 => ?_)
    · have h7' := Int32.not_le.mpr h7
      refine J_iconst (pc := 14) (v := (nI 0)) D9_isAmong_14 (by decide) ?_
      refine J_zret (pc := 15) D9_isAmong_15 rfl (by decide) ?_
      exact ⟨rfl, congrArg (fun q => some (Value.int q)) (by simp [i01, h2, h2', h7, h7']; try rfl)⟩
    · have h7' := Int32.not_lt.mp h7
      refine J_iconst (pc := 10) (v := (nI 1)) D9_isAmong_10 (by decide) ?_
      refine J_goto (pc := 11) (tgt := 15) D9_isAmong_11 (by decide) ?_
      refine J_zret (pc := 15) D9_isAmong_15 rfl (by decide) ?_
      exact ⟨rfl, congrArg (fun q => some (Value.int q)) (by simp [i01, h2, h2', h7, h7']; try rfl)⟩
def prodF (x y : Int64) : Int64 :=
  let t := if x = 0 then LBIG else LBIG / (if x < 0 then -x else x)
  if t < y ∨ y < -t then LMIN else x * y
theorem lneg_ne {x : Int64} (h : ¬ x = 0) : ¬ -x = 0 := fun e => h (by have := congrArg (fun z => -z) e; simpa using this)
theorem L8_product {d : Nat} {x y t : Int64} : J m8_product d 0 0 0 30 [(0, .long x), (2, .long y), (4, .long t)] [] [] 0 0 (fun r w' => w' = [] ∧ r = some (.long (if t < y ∨ y < -t then LMIN else x * y))) := by
  refine J_lload_n (pc := 30) D8_product_30 rfl ?_
  refine J_lload (pc := 31) D8_product_31 rfl ?_
  refine J_lcmp (pc := 33) D8_product_33 ?_
  refine J_if_gt (pc := 34) (tgt := 45) D8_product_34 (by decide) (fun h34 => ?_) (fun h34 => ?_)
  · replace h34 := (lg_cmp_gt _ _).mp h34
    have h34' := Int64.not_le.mpr h34
    refine J_ldc2_w (pc := 45) (v := LMIN) D8_product_45 t767 ?_
    refine J_goto (pc := 48) (tgt := 54) D8_product_48 (by decide) ?_
    refine J_lret (pc := 54) D8_product_54 rfl ?_
    exact ⟨rfl, congrArg (fun q => some (Value.long q)) (by simp only [h34, h34', true_or, or_true, or_false, false_or, ↓reduceIte]; try rfl)⟩
  · replace h34 := mt (lg_cmp_gt _ _).mpr h34
    have h34' := Int64.not_lt.mp h34
    refine J_lload_n (pc := 37) D8_product_37 rfl ?_
    refine J_lload (pc := 38) D8_product_38 rfl ?_
    refine J_lneg (pc := 40) D8_product_40 ?_
    refine J_lcmp (pc := 41) D8_product_41 ?_
    refine J_if_ge (pc := 42) (tgt := 51) D8_product_42 (by decide) (fun h42 => ?_) (fun h42 => ?_)
    · replace h42 := (lg_cmp_ge _ _).mp h42
      have h42' := Int64.not_lt.mpr h42
      refine J_lload_n (pc := 51) D8_product_51 rfl ?_
      refine J_lload_n (pc := 52) D8_product_52 rfl ?_
      refine J_lmul (pc := 53) D8_product_53 ?_
      refine J_lret (pc := 54) D8_product_54 rfl ?_
      exact ⟨rfl, congrArg (fun q => some (Value.long q)) (by simp only [h34, h34', h42, h42', true_or, or_true, or_false, false_or, ↓reduceIte]; try rfl)⟩
    · replace h42 := mt (lg_cmp_ge _ _).mpr h42
      have h42' := Int64.not_le.mp h42
      refine J_ldc2_w (pc := 45) (v := LMIN) D8_product_45 t767 ?_
      refine J_goto (pc := 48) (tgt := 54) D8_product_48 (by decide) ?_
      refine J_lret (pc := 54) D8_product_54 rfl ?_
      exact ⟨rfl, congrArg (fun q => some (Value.long q)) (by simp only [h34, h34', h42, h42', true_or, or_true, or_false, false_or, ↓reduceIte]; try rfl)⟩
theorem c8_product {d : Nat} {x y : Int64} : TR d m8_product [.long x, .long y] [] (.long (prodF x y)) := by
  refine Tr.intro (by decide) rfl ?_
  unfold prodF
  refine J_lload_n (pc := 0) D8_product_0 rfl ?_
  refine J_lconst (pc := 1) (v := 0) D8_product_1 (by decide) ?_
  refine J_lcmp (pc := 2) D8_product_2 ?_
  refine J_if_ne (pc := 3) (tgt := 12) D8_product_3 (by decide) (fun h3 => ?_) (fun h3 => ?_)
  · replace h3 := mt (lg_cmp_eq _ _).mpr h3
    refine J_ldc2_w (pc := 12) (v := LBIG) D8_product_12 t778 ?_
    refine J_lload_n (pc := 15) D8_product_15 rfl ?_
    refine J_lconst (pc := 16) (v := 0) D8_product_16 (by decide) ?_
    refine J_lcmp (pc := 17) D8_product_17 ?_
    refine J_if_ge (pc := 18) (tgt := 26) D8_product_18 (by decide) (fun h18 => ?_) (fun h18 => ?_)
    · replace h18 := (lg_cmp_ge _ _).mp h18
      have h18' := Int64.not_lt.mpr h18
      refine J_lload_n (pc := 26) D8_product_26 rfl ?_
      refine J_ldiv (pc := 27) D8_product_27 (by first | exact lneg_ne h3 | exact h3) ?_
      refine J_lstore (pc := 28) D8_product_28 rfl ?_
      simp only [h3, h18, h18', ↓reduceIte]
      exact L8_product
    · replace h18 := mt (lg_cmp_ge _ _).mpr h18
      have h18' := Int64.not_le.mp h18
      refine J_lload_n (pc := 21) D8_product_21 rfl ?_
      refine J_lneg (pc := 22) D8_product_22 ?_
      refine J_goto (pc := 23) (tgt := 27) D8_product_23 (by decide) ?_
      refine J_ldiv (pc := 27) D8_product_27 (by first | exact lneg_ne h3 | exact h3) ?_
      refine J_lstore (pc := 28) D8_product_28 rfl ?_
      simp only [h3, h18, h18', ↓reduceIte]
      exact L8_product
  · replace h3 := (lg_cmp_eq _ _).mp h3
    have h3' := eq_true h3
    refine J_ldc2_w (pc := 6) (v := LBIG) D8_product_6 t778 ?_
    refine J_goto (pc := 9) (tgt := 28) D8_product_9 (by decide) ?_
    refine J_lstore (pc := 28) D8_product_28 rfl ?_
    simp only [h3', ↓reduceIte]
    exact L8_product
def joinF (sg : Int32) (x y : Int64) : Int64 := if sg = nI 16 then l01 (x ≠ 0 ∨ y ≠ 0) else if sg = nI 17 then l01 (x ≠ 0 ∧ y ≠ 0) else if sg = nI 19 then l01 (x < y) else if sg = nI 20 then l01 (x ≤ y) else if sg = nI 21 then l01 (x = y) else if sg = nI 22 then l01 (¬ x = y) else if sg = nI 23 then l01 (y ≤ x) else if sg = nI 24 then l01 (y < x) else if sg = nI 25 then x + y else if sg = nI 26 then x - y else if sg = nI 27 then prodF x y else if sg = nI 28 then if y = 0 then LMIN else x / y else LMIN
theorem joinF_0 {sg : Int32} {x y : Int64} (h : sg = nI (16 + 0)) : joinF sg x y = l01 (x ≠ 0 ∨ y ≠ 0) := by subst h; rfl
theorem joinF_1 {sg : Int32} {x y : Int64} (h : sg = nI (16 + 1)) : joinF sg x y = l01 (x ≠ 0 ∧ y ≠ 0) := by subst h; rfl
theorem joinF_2 {sg : Int32} {x y : Int64} (h : sg = nI (16 + 2)) : joinF sg x y = LMIN := by subst h; rfl
theorem joinF_3 {sg : Int32} {x y : Int64} (h : sg = nI (16 + 3)) : joinF sg x y = l01 (x < y) := by subst h; rfl
theorem joinF_4 {sg : Int32} {x y : Int64} (h : sg = nI (16 + 4)) : joinF sg x y = l01 (x ≤ y) := by subst h; rfl
theorem joinF_5 {sg : Int32} {x y : Int64} (h : sg = nI (16 + 5)) : joinF sg x y = l01 (x = y) := by subst h; rfl
theorem joinF_6 {sg : Int32} {x y : Int64} (h : sg = nI (16 + 6)) : joinF sg x y = l01 (¬ x = y) := by subst h; rfl
theorem joinF_7 {sg : Int32} {x y : Int64} (h : sg = nI (16 + 7)) : joinF sg x y = l01 (y ≤ x) := by subst h; rfl
theorem joinF_8 {sg : Int32} {x y : Int64} (h : sg = nI (16 + 8)) : joinF sg x y = l01 (y < x) := by subst h; rfl
theorem joinF_9 {sg : Int32} {x y : Int64} (h : sg = nI (16 + 9)) : joinF sg x y = x + y := by subst h; rfl
theorem joinF_10 {sg : Int32} {x y : Int64} (h : sg = nI (16 + 10)) : joinF sg x y = x - y := by subst h; rfl
theorem joinF_11 {sg : Int32} {x y : Int64} (h : sg = nI (16 + 11)) : joinF sg x y = prodF x y := by subst h; rfl
theorem joinF_12 {sg : Int32} {x y : Int64} (h : sg = nI (16 + 12)) : joinF sg x y = if y = 0 then LMIN else x / y := by subst h; rfl
theorem joinF_d {sg : Int32} {x y : Int64} (h : ∀ j, j < 13 → sg ≠ nI (16 + j)) : joinF sg x y = LMIN := by
  unfold joinF
  rw [if_neg (h 0 (by decide)), if_neg (h 1 (by decide)), if_neg (h 3 (by decide)), if_neg (h 4 (by decide)), if_neg (h 5 (by decide)), if_neg (h 6 (by decide)), if_neg (h 7 (by decide)), if_neg (h 8 (by decide)), if_neg (h 9 (by decide)), if_neg (h 10 (by decide)), if_neg (h 11 (by decide)), if_neg (h 12 (by decide))]
theorem c8_joined {d : Nat} {sg : Int32} {x y : Int64} : TR (d + 1) m8_joined [.int sg, .long x, .long y] [] (.long (joinF sg x y)) := by
  refine Tr.intro (by decide) rfl ?_
  refine J_iload_n (pc := 0) D8_joined_0 rfl ?_
  refine J_tsw (pc := 1) 16 [68, 86, 206, 104, 116, 128, 140, 152, 164, 176, 180, 184, 190] 206 D8_joined_1 (by decide) (by decide) rfl (by decide) (by decide) (fun j hj h1 => ?_) (fun h1 => ?_)
  · have hj1 : j = 0 ∨ j = 1 ∨ j = 2 ∨ j = 3 ∨ j = 4 ∨ j = 5 ∨ j = 6 ∨ j = 7 ∨ j = 8 ∨ j = 9 ∨ j = 10 ∨ j = 11 ∨ j = 12 := by have hj2 : j < 13 := hj; omega
    clear hj
    rcases hj1 with rfl | rfl | rfl | rfl | rfl | rfl | rfl | rfl | rfl | rfl | rfl | rfl | rfl
    · refine J_lload_n (pc := 68) D8_joined_68 rfl ?_
      refine J_lconst (pc := 69) (v := 0) D8_joined_69 (by decide) ?_
      refine J_lcmp (pc := 70) D8_joined_70 ?_
      refine J_if_ne (pc := 71) (tgt := 80) D8_joined_71 (by decide) (fun h71 => ?_) (fun h71 => ?_)
      · replace h71 := mt (lg_cmp_eq _ _).mpr h71
        refine J_lconst (pc := 80) (v := 1) D8_joined_80 (by decide) ?_
        refine J_goto (pc := 81) (tgt := 85) D8_joined_81 (by decide) ?_
        refine J_lret (pc := 85) D8_joined_85 rfl ?_
        exact ⟨rfl, congrArg (fun q => some (Value.long q)) (by refine Eq.trans ?_ (joinF_0 h1).symm; first | rfl | (simp [l01, h1, h71]; done) | (simp [l01, h1, h71]; rfl))⟩
      · replace h71 := (lg_cmp_eq _ _).mp h71
        have h71' := eq_true h71
        refine J_lload_n (pc := 74) D8_joined_74 rfl ?_
        refine J_lconst (pc := 75) (v := 0) D8_joined_75 (by decide) ?_
        refine J_lcmp (pc := 76) D8_joined_76 ?_
        refine J_if_eq (pc := 77) (tgt := 84) D8_joined_77 (by decide) (fun h77 => ?_) (fun h77 => ?_)
        · replace h77 := (lg_cmp_eq _ _).mp h77
          have h77' := eq_true h77
          refine J_lconst (pc := 84) (v := 0) D8_joined_84 (by decide) ?_
          refine J_lret (pc := 85) D8_joined_85 rfl ?_
          exact ⟨rfl, congrArg (fun q => some (Value.long q)) (by refine Eq.trans ?_ (joinF_0 h1).symm; first | rfl | (simp [l01, h1, h71', h77']; done) | (simp [l01, h1, h71', h77']; rfl))⟩
        · replace h77 := mt (lg_cmp_eq _ _).mpr h77
          refine J_lconst (pc := 80) (v := 1) D8_joined_80 (by decide) ?_
          refine J_goto (pc := 81) (tgt := 85) D8_joined_81 (by decide) ?_
          refine J_lret (pc := 85) D8_joined_85 rfl ?_
          exact ⟨rfl, congrArg (fun q => some (Value.long q)) (by refine Eq.trans ?_ (joinF_0 h1).symm; first | rfl | (simp [l01, h1, h71', h77]; done) | (simp [l01, h1, h71', h77]; rfl))⟩
    · refine J_lload_n (pc := 86) D8_joined_86 rfl ?_
      refine J_lconst (pc := 87) (v := 0) D8_joined_87 (by decide) ?_
      refine J_lcmp (pc := 88) D8_joined_88 ?_
      refine J_if_eq (pc := 89) (tgt := 102) D8_joined_89 (by decide) (fun h89 => ?_) (fun h89 => ?_)
      · replace h89 := (lg_cmp_eq _ _).mp h89
        have h89' := eq_true h89
        refine J_lconst (pc := 102) (v := 0) D8_joined_102 (by decide) ?_
        refine J_lret (pc := 103) D8_joined_103 rfl ?_
        exact ⟨rfl, congrArg (fun q => some (Value.long q)) (by refine Eq.trans ?_ (joinF_1 h1).symm; first | rfl | (simp [l01, h1, h89']; done) | (simp [l01, h1, h89']; rfl))⟩
      · replace h89 := mt (lg_cmp_eq _ _).mpr h89
        refine J_lload_n (pc := 92) D8_joined_92 rfl ?_
        refine J_lconst (pc := 93) (v := 0) D8_joined_93 (by decide) ?_
        refine J_lcmp (pc := 94) D8_joined_94 ?_
        refine J_if_eq (pc := 95) (tgt := 102) D8_joined_95 (by decide) (fun h95 => ?_) (fun h95 => ?_)
        · replace h95 := (lg_cmp_eq _ _).mp h95
          have h95' := eq_true h95
          refine J_lconst (pc := 102) (v := 0) D8_joined_102 (by decide) ?_
          refine J_lret (pc := 103) D8_joined_103 rfl ?_
          exact ⟨rfl, congrArg (fun q => some (Value.long q)) (by refine Eq.trans ?_ (joinF_1 h1).symm; first | rfl | (simp [l01, h1, h89, h95']; done) | (simp [l01, h1, h89, h95']; rfl))⟩
        · replace h95 := mt (lg_cmp_eq _ _).mpr h95
          refine J_lconst (pc := 98) (v := 1) D8_joined_98 (by decide) ?_
          refine J_goto (pc := 99) (tgt := 103) D8_joined_99 (by decide) ?_
          refine J_lret (pc := 103) D8_joined_103 rfl ?_
          exact ⟨rfl, congrArg (fun q => some (Value.long q)) (by refine Eq.trans ?_ (joinF_1 h1).symm; first | rfl | (simp [l01, h1, h89, h95]; done) | (simp [l01, h1, h89, h95]; rfl))⟩
    · refine J_ldc2_w (pc := 206) (v := LMIN) D8_joined_206 t767 ?_
      refine J_lret (pc := 209) D8_joined_209 rfl ?_
      exact ⟨rfl, congrArg (fun q => some (Value.long q)) (by refine Eq.trans ?_ (joinF_2 h1).symm; first | rfl | (simp [l01, h1]; done) | (simp [l01, h1]; rfl))⟩
    · refine J_lload_n (pc := 104) D8_joined_104 rfl ?_
      refine J_lload_n (pc := 105) D8_joined_105 rfl ?_
      refine J_lcmp (pc := 106) D8_joined_106 ?_
      refine J_if_ge (pc := 107) (tgt := 114) D8_joined_107 (by decide) (fun h107 => ?_) (fun h107 => ?_)
      · replace h107 := (lg_cmp_ge _ _).mp h107
        have h107' := Int64.not_lt.mpr h107
        refine J_lconst (pc := 114) (v := 0) D8_joined_114 (by decide) ?_
        refine J_lret (pc := 115) D8_joined_115 rfl ?_
        exact ⟨rfl, congrArg (fun q => some (Value.long q)) (by refine Eq.trans ?_ (joinF_3 h1).symm; first | rfl | (simp [l01, h1, h107, h107']; done) | (simp [l01, h1, h107, h107']; rfl))⟩
      · replace h107 := mt (lg_cmp_ge _ _).mpr h107
        have h107' := Int64.not_le.mp h107
        refine J_lconst (pc := 110) (v := 1) D8_joined_110 (by decide) ?_
        refine J_goto (pc := 111) (tgt := 115) D8_joined_111 (by decide) ?_
        refine J_lret (pc := 115) D8_joined_115 rfl ?_
        exact ⟨rfl, congrArg (fun q => some (Value.long q)) (by refine Eq.trans ?_ (joinF_3 h1).symm; first | rfl | (simp [l01, h1, h107, h107']; done) | (simp [l01, h1, h107, h107']; rfl))⟩
    · refine J_lload_n (pc := 116) D8_joined_116 rfl ?_
      refine J_lload_n (pc := 117) D8_joined_117 rfl ?_
      refine J_lcmp (pc := 118) D8_joined_118 ?_
      refine J_if_gt (pc := 119) (tgt := 126) D8_joined_119 (by decide) (fun h119 => ?_) (fun h119 => ?_)
      · replace h119 := (lg_cmp_gt _ _).mp h119
        have h119' := Int64.not_le.mpr h119
        refine J_lconst (pc := 126) (v := 0) D8_joined_126 (by decide) ?_
        refine J_lret (pc := 127) D8_joined_127 rfl ?_
        exact ⟨rfl, congrArg (fun q => some (Value.long q)) (by refine Eq.trans ?_ (joinF_4 h1).symm; first | rfl | (simp [l01, h1, h119, h119']; done) | (simp [l01, h1, h119, h119']; rfl))⟩
      · replace h119 := mt (lg_cmp_gt _ _).mpr h119
        have h119' := Int64.not_lt.mp h119
        refine J_lconst (pc := 122) (v := 1) D8_joined_122 (by decide) ?_
        refine J_goto (pc := 123) (tgt := 127) D8_joined_123 (by decide) ?_
        refine J_lret (pc := 127) D8_joined_127 rfl ?_
        exact ⟨rfl, congrArg (fun q => some (Value.long q)) (by refine Eq.trans ?_ (joinF_4 h1).symm; first | rfl | (simp [l01, h1, h119, h119']; done) | (simp [l01, h1, h119, h119']; rfl))⟩
    · refine J_lload_n (pc := 128) D8_joined_128 rfl ?_
      refine J_lload_n (pc := 129) D8_joined_129 rfl ?_
      refine J_lcmp (pc := 130) D8_joined_130 ?_
      refine J_if_ne (pc := 131) (tgt := 138) D8_joined_131 (by decide) (fun h131 => ?_) (fun h131 => ?_)
      · replace h131 := mt (lg_cmp_eq _ _).mpr h131
        refine J_lconst (pc := 138) (v := 0) D8_joined_138 (by decide) ?_
        refine J_lret (pc := 139) D8_joined_139 rfl ?_
        exact ⟨rfl, congrArg (fun q => some (Value.long q)) (by refine Eq.trans ?_ (joinF_5 h1).symm; first | rfl | (simp [l01, h1, h131]; done) | (simp [l01, h1, h131]; rfl))⟩
      · replace h131 := (lg_cmp_eq _ _).mp h131
        have h131' := eq_true h131
        refine J_lconst (pc := 134) (v := 1) D8_joined_134 (by decide) ?_
        refine J_goto (pc := 135) (tgt := 139) D8_joined_135 (by decide) ?_
        refine J_lret (pc := 139) D8_joined_139 rfl ?_
        exact ⟨rfl, congrArg (fun q => some (Value.long q)) (by refine Eq.trans ?_ (joinF_5 h1).symm; first | rfl | (simp [l01, h1, h131']; done) | (simp [l01, h1, h131']; rfl))⟩
    · refine J_lload_n (pc := 140) D8_joined_140 rfl ?_
      refine J_lload_n (pc := 141) D8_joined_141 rfl ?_
      refine J_lcmp (pc := 142) D8_joined_142 ?_
      refine J_if_eq (pc := 143) (tgt := 150) D8_joined_143 (by decide) (fun h143 => ?_) (fun h143 => ?_)
      · replace h143 := (lg_cmp_eq _ _).mp h143
        have h143' := eq_true h143
        refine J_lconst (pc := 150) (v := 0) D8_joined_150 (by decide) ?_
        refine J_lret (pc := 151) D8_joined_151 rfl ?_
        exact ⟨rfl, congrArg (fun q => some (Value.long q)) (by refine Eq.trans ?_ (joinF_6 h1).symm; first | rfl | (simp [l01, h1, h143']; done) | (simp [l01, h1, h143']; rfl))⟩
      · replace h143 := mt (lg_cmp_eq _ _).mpr h143
        refine J_lconst (pc := 146) (v := 1) D8_joined_146 (by decide) ?_
        refine J_goto (pc := 147) (tgt := 151) D8_joined_147 (by decide) ?_
        refine J_lret (pc := 151) D8_joined_151 rfl ?_
        exact ⟨rfl, congrArg (fun q => some (Value.long q)) (by refine Eq.trans ?_ (joinF_6 h1).symm; first | rfl | (simp [l01, h1, h143]; done) | (simp [l01, h1, h143]; rfl))⟩
    · refine J_lload_n (pc := 152) D8_joined_152 rfl ?_
      refine J_lload_n (pc := 153) D8_joined_153 rfl ?_
      refine J_lcmp (pc := 154) D8_joined_154 ?_
      refine J_if_lt (pc := 155) (tgt := 162) D8_joined_155 (by decide) (fun h155 => ?_) (fun h155 => ?_)
      · replace h155 := (lg_cmp_lt _ _).mp h155
        have h155' := Int64.not_le.mpr h155
        refine J_lconst (pc := 162) (v := 0) D8_joined_162 (by decide) ?_
        refine J_lret (pc := 163) D8_joined_163 rfl ?_
        exact ⟨rfl, congrArg (fun q => some (Value.long q)) (by refine Eq.trans ?_ (joinF_7 h1).symm; first | rfl | (simp [l01, h1, h155, h155']; done) | (simp [l01, h1, h155, h155']; rfl))⟩
      · replace h155 := mt (lg_cmp_lt _ _).mpr h155
        have h155' := Int64.not_lt.mp h155
        refine J_lconst (pc := 158) (v := 1) D8_joined_158 (by decide) ?_
        refine J_goto (pc := 159) (tgt := 163) D8_joined_159 (by decide) ?_
        refine J_lret (pc := 163) D8_joined_163 rfl ?_
        exact ⟨rfl, congrArg (fun q => some (Value.long q)) (by refine Eq.trans ?_ (joinF_7 h1).symm; first | rfl | (simp [l01, h1, h155, h155']; done) | (simp [l01, h1, h155, h155']; rfl))⟩
    · refine J_lload_n (pc := 164) D8_joined_164 rfl ?_
      refine J_lload_n (pc := 165) D8_joined_165 rfl ?_
      refine J_lcmp (pc := 166) D8_joined_166 ?_
      refine J_if_le (pc := 167) (tgt := 174) D8_joined_167 (by decide) (fun h167 => ?_) (fun h167 => ?_)
      · replace h167 := (lg_cmp_le _ _).mp h167
        have h167' := Int64.not_lt.mpr h167
        refine J_lconst (pc := 174) (v := 0) D8_joined_174 (by decide) ?_
        refine J_lret (pc := 175) D8_joined_175 rfl ?_
        exact ⟨rfl, congrArg (fun q => some (Value.long q)) (by refine Eq.trans ?_ (joinF_8 h1).symm; first | rfl | (simp [l01, h1, h167, h167']; done) | (simp [l01, h1, h167, h167']; rfl))⟩
      · replace h167 := mt (lg_cmp_le _ _).mpr h167
        have h167' := Int64.not_le.mp h167
        refine J_lconst (pc := 170) (v := 1) D8_joined_170 (by decide) ?_
        refine J_goto (pc := 171) (tgt := 175) D8_joined_171 (by decide) ?_
        refine J_lret (pc := 175) D8_joined_175 rfl ?_
        exact ⟨rfl, congrArg (fun q => some (Value.long q)) (by refine Eq.trans ?_ (joinF_8 h1).symm; first | rfl | (simp [l01, h1, h167, h167']; done) | (simp [l01, h1, h167, h167']; rfl))⟩
    · refine J_lload_n (pc := 176) D8_joined_176 rfl ?_
      refine J_lload_n (pc := 177) D8_joined_177 rfl ?_
      refine J_ladd (pc := 178) D8_joined_178 ?_
      refine J_lret (pc := 179) D8_joined_179 rfl ?_
      exact ⟨rfl, congrArg (fun q => some (Value.long q)) (by refine Eq.trans ?_ (joinF_9 h1).symm; first | rfl | (simp [l01, h1]; done) | (simp [l01, h1]; rfl))⟩
    · refine J_lload_n (pc := 180) D8_joined_180 rfl ?_
      refine J_lload_n (pc := 181) D8_joined_181 rfl ?_
      refine J_lsub (pc := 182) D8_joined_182 ?_
      refine J_lret (pc := 183) D8_joined_183 rfl ?_
      exact ⟨rfl, congrArg (fun q => some (Value.long q)) (by refine Eq.trans ?_ (joinF_10 h1).symm; first | rfl | (simp [l01, h1]; done) | (simp [l01, h1]; rfl))⟩
    · refine J_lload_n (pc := 184) D8_joined_184 rfl ?_
      refine J_lload_n (pc := 185) D8_joined_185 rfl ?_
      refine J_callSR (pc := 186) (ι := []) (ac := [.long x, .long y]) D8_joined_186 m8_product_s t775 (c8_product (d := d)) (by omega) ⟨rfl, rfl⟩ rfl rfl (fun _ => rfl) rfl rfl rfl ?_
      refine J_lret (pc := 189) D8_joined_189 rfl ?_
      exact ⟨rfl, congrArg (fun q => some (Value.long q)) (by refine Eq.trans ?_ (joinF_11 h1).symm; first | rfl | (simp [l01, h1]; done) | (simp [l01, h1]; rfl))⟩
    · refine J_lload_n (pc := 190) D8_joined_190 rfl ?_
      refine J_lconst (pc := 191) (v := 0) D8_joined_191 (by decide) ?_
      refine J_lcmp (pc := 192) D8_joined_192 ?_
      refine J_if_ne (pc := 193) (tgt := 202) D8_joined_193 (by decide) (fun h193 => ?_) (fun h193 => ?_)
      · replace h193 := mt (lg_cmp_eq _ _).mpr h193
        refine J_lload_n (pc := 202) D8_joined_202 rfl ?_
        refine J_lload_n (pc := 203) D8_joined_203 rfl ?_
        refine J_ldiv (pc := 204) D8_joined_204 h193 ?_
        refine J_lret (pc := 205) D8_joined_205 rfl ?_
        exact ⟨rfl, congrArg (fun q => some (Value.long q)) (by refine Eq.trans ?_ (joinF_12 h1).symm; first | rfl | (simp [l01, h1, h193]; done) | (simp [l01, h1, h193]; rfl))⟩
      · replace h193 := (lg_cmp_eq _ _).mp h193
        have h193' := eq_true h193
        refine J_ldc2_w (pc := 196) (v := LMIN) D8_joined_196 t767 ?_
        refine J_goto (pc := 199) (tgt := 205) D8_joined_199 (by decide) ?_
        refine J_lret (pc := 205) D8_joined_205 rfl ?_
        exact ⟨rfl, congrArg (fun q => some (Value.long q)) (by refine Eq.trans ?_ (joinF_12 h1).symm; first | rfl | (simp [l01, h1, h193']; done) | (simp [l01, h1, h193']; rfl))⟩
  · refine J_ldc2_w (pc := 206) (v := LMIN) D8_joined_206 t767 ?_
    refine J_lret (pc := 209) D8_joined_209 rfl ?_
    exact ⟨rfl, congrArg (fun q => some (Value.long q)) (by refine Eq.trans ?_ (joinF_d h1).symm; first | rfl | (simp [l01, h1]; done) | (simp [l01, h1]; rfl))⟩
def nameF (T : TV) (V : CV) (sg : Int32) (b : Nat) : Int64 := if sg = nI 9 then (V.2.2.2 1 b).toInt64 else if sg = nI 10 then (V.2.2.2 2 b).toInt64 else if sg = nI 11 then (V.2.2.2 7 (T.2.1 6 b).toNatClampNeg).toInt64 else if sg = nI 12 then (V.2.2.2 0 b).toInt64 else if sg = nI 13 then (T.2.1 2 (T.2.1 5 b).toNatClampNeg).toInt64 else if sg = nI 14 then (V.2.2.2 8 (V.2.2.2 0 b).toNatClampNeg).toInt64 else if sg = nI 15 then V.1.toInt64 else LMIN
theorem nameF_0 {T : TV} {V : CV} {sg : Int32} {b : Nat} (h : sg = nI (9 + 0)) : nameF T V sg b = (V.2.2.2 1 b).toInt64 := by subst h; rfl
theorem nameF_1 {T : TV} {V : CV} {sg : Int32} {b : Nat} (h : sg = nI (9 + 1)) : nameF T V sg b = (V.2.2.2 2 b).toInt64 := by subst h; rfl
theorem nameF_2 {T : TV} {V : CV} {sg : Int32} {b : Nat} (h : sg = nI (9 + 2)) : nameF T V sg b = (V.2.2.2 7 (T.2.1 6 b).toNatClampNeg).toInt64 := by subst h; rfl
theorem nameF_3 {T : TV} {V : CV} {sg : Int32} {b : Nat} (h : sg = nI (9 + 3)) : nameF T V sg b = (V.2.2.2 0 b).toInt64 := by subst h; rfl
theorem nameF_4 {T : TV} {V : CV} {sg : Int32} {b : Nat} (h : sg = nI (9 + 4)) : nameF T V sg b = (T.2.1 2 (T.2.1 5 b).toNatClampNeg).toInt64 := by subst h; rfl
theorem nameF_5 {T : TV} {V : CV} {sg : Int32} {b : Nat} (h : sg = nI (9 + 5)) : nameF T V sg b = (V.2.2.2 8 (V.2.2.2 0 b).toNatClampNeg).toInt64 := by subst h; rfl
theorem nameF_6 {T : TV} {V : CV} {sg : Int32} {b : Nat} (h : sg = nI (9 + 6)) : nameF T V sg b = V.1.toInt64 := by subst h; rfl
theorem nameF_d {T : TV} {V : CV} {sg : Int32} {b : Nat} (h : ∀ j, j < 7 → sg ≠ nI (9 + j)) : nameF T V sg b = LMIN := by
  unfold nameF
  rw [if_neg (h 0 (by decide)), if_neg (h 1 (by decide)), if_neg (h 2 (by decide)), if_neg (h 3 (by decide)), if_neg (h 4 (by decide)), if_neg (h 5 (by decide)), if_neg (h 6 (by decide))]
/-- what a told text keeps -/
def WT (T : TV) (np nb nn : Nat) : Prop := T.1 0 = nI np ∧ T.1 3 = nI nb ∧ T.1 10 = nI nn ∧ np ≤ 5 ∧ nb ≤ 10 ∧ nn ≤ 8 ∧ (∀ b, b < nb → ∃ p, p < np ∧ T.2.1 5 b = nI p) ∧ (∀ b, b < nb → ∃ p, p < np ∧ T.2.1 6 b = nI p) ∧ (∀ n, n < nn → ∃ p, p < np ∧ T.2.1 11 n = nI p) ∧
  (∀ k, k < 3 → T.2.2.2 0 k = -1 ∨ ∃ p q, T.2.2.2 0 k = nI p ∧ T.2.2.2 1 k = nI q ∧ p ≤ q ∧ q ≤ 64) ∧ ∀ b, b < nb → ∃ β, β < 6 ∧ T.2.1 7 b = nI β
def WV (V : CV) (nb : Nat) : Prop := ∀ b, b < nb → ∃ β, β < 6 ∧ V.2.2.2 0 b = nI β
theorem c8_nameWorth {d np nb nn : Nat} {y : Int32 × Int32 × Int32} {q : Nat → Int32} {k : Nat → Int64} {T : TV} {V : CV} {sg : Int32} {b : Nat} (hT : WT T np nb nn) (hV : WV V nb) (hb : b < nb) : TR d m8_nameWorth [.ref 0, .int sg, .int (nI b)] (yrsW y q k T V) (.long (nameF T V sg b)) := by
  obtain ⟨-, -, -, hnp, hnb, -, h5, h6, -⟩ := hT
  obtain ⟨p5, hp5, e5⟩ := h5 b hb
  obtain ⟨p6, hp6, e6⟩ := h6 b hb
  obtain ⟨β, hβ, e0⟩ := hV b hb
  refine Tr.intro (by decide) rfl ?_
  refine J_iload_n (pc := 0) D8_nameWorth_0 rfl ?_
  refine J_tsw (pc := 1) 9 [44, 55, 66, 85, 96, 115, 134] 143 D8_nameWorth_1 (by decide) (by decide) rfl (by decide) (by decide) (fun j hj h1 => ?_) (fun h1 => ?_)
  · have hj1 : j = 0 ∨ j = 1 ∨ j = 2 ∨ j = 3 ∨ j = 4 ∨ j = 5 ∨ j = 6 := by have hj2 : j < 7 := hj; omega
    clear hj
    rcases hj1 with rfl | rfl | rfl | rfl | rfl | rfl | rfl
    · refine J_aload_n (pc := 44) D8_nameWorth_44 rfl ?_
      refine J_getf (pc := 45) D8_nameWorth_45 fl8_23 rfl rfl ?_
      refine J_getf (pc := 48) D8_nameWorth_48 fl8_110 rfl rfl ?_
      refine J_iload_n (pc := 51) D8_nameWorth_51 rfl ?_
      refine J_iald (pc := 52) D8_nameWorth_52 rfl rfl (by omega) rfl ?_
      refine J_i2l (pc := 53) D8_nameWorth_53 ?_
      refine J_lret (pc := 54) D8_nameWorth_54 rfl ?_
      exact ⟨rfl, congrArg (fun q => some (Value.long q)) (by refine Eq.trans ?_ (nameF_0 h1).symm; first | rfl | (rw [e6, nI_clamp (by omega)]) | (rw [e5, nI_clamp (by omega)]) | (rw [e0, nI_clamp (by omega)]))⟩
    · refine J_aload_n (pc := 55) D8_nameWorth_55 rfl ?_
      refine J_getf (pc := 56) D8_nameWorth_56 fl8_23 rfl rfl ?_
      refine J_getf (pc := 59) D8_nameWorth_59 fl8_62 rfl rfl ?_
      refine J_iload_n (pc := 62) D8_nameWorth_62 rfl ?_
      refine J_iald (pc := 63) D8_nameWorth_63 rfl rfl (by omega) rfl ?_
      refine J_i2l (pc := 64) D8_nameWorth_64 ?_
      refine J_lret (pc := 65) D8_nameWorth_65 rfl ?_
      exact ⟨rfl, congrArg (fun q => some (Value.long q)) (by refine Eq.trans ?_ (nameF_1 h1).symm; first | rfl | (rw [e6, nI_clamp (by omega)]) | (rw [e5, nI_clamp (by omega)]) | (rw [e0, nI_clamp (by omega)]))⟩
    · refine J_aload_n (pc := 66) D8_nameWorth_66 rfl ?_
      refine J_getf (pc := 67) D8_nameWorth_67 fl8_23 rfl rfl ?_
      refine J_getf (pc := 70) D8_nameWorth_70 fl8_200 rfl rfl ?_
      refine J_aload_n (pc := 73) D8_nameWorth_73 rfl ?_
      refine J_getf (pc := 74) D8_nameWorth_74 fl8_19 rfl rfl ?_
      refine J_getf (pc := 77) D8_nameWorth_77 fl8_152 rfl rfl ?_
      refine J_iload_n (pc := 80) D8_nameWorth_80 rfl ?_
      refine J_iald (pc := 81) D8_nameWorth_81 rfl rfl (by omega) rfl ?_
      refine J_iald (pc := 82) D8_nameWorth_82 rfl e6 (by omega) rfl ?_
      refine J_i2l (pc := 83) D8_nameWorth_83 ?_
      refine J_lret (pc := 84) D8_nameWorth_84 rfl ?_
      exact ⟨rfl, congrArg (fun q => some (Value.long q)) (by refine Eq.trans ?_ (nameF_2 h1).symm; first | rfl | (rw [e6, nI_clamp (by omega)]) | (rw [e5, nI_clamp (by omega)]) | (rw [e0, nI_clamp (by omega)]))⟩
    · refine J_aload_n (pc := 85) D8_nameWorth_85 rfl ?_
      refine J_getf (pc := 86) D8_nameWorth_86 fl8_23 rfl rfl ?_
      refine J_getf (pc := 89) D8_nameWorth_89 fl8_133 rfl rfl ?_
      refine J_iload_n (pc := 92) D8_nameWorth_92 rfl ?_
      refine J_iald (pc := 93) D8_nameWorth_93 rfl rfl (by omega) rfl ?_
      refine J_i2l (pc := 94) D8_nameWorth_94 ?_
      refine J_lret (pc := 95) D8_nameWorth_95 rfl ?_
      exact ⟨rfl, congrArg (fun q => some (Value.long q)) (by refine Eq.trans ?_ (nameF_3 h1).symm; first | rfl | (rw [e6, nI_clamp (by omega)]) | (rw [e5, nI_clamp (by omega)]) | (rw [e0, nI_clamp (by omega)]))⟩
    · refine J_aload_n (pc := 96) D8_nameWorth_96 rfl ?_
      refine J_getf (pc := 97) D8_nameWorth_97 fl8_19 rfl rfl ?_
      refine J_getf (pc := 100) D8_nameWorth_100 fl8_203 rfl rfl ?_
      refine J_aload_n (pc := 103) D8_nameWorth_103 rfl ?_
      refine J_getf (pc := 104) D8_nameWorth_104 fl8_19 rfl rfl ?_
      refine J_getf (pc := 107) D8_nameWorth_107 fl8_158 rfl rfl ?_
      refine J_iload_n (pc := 110) D8_nameWorth_110 rfl ?_
      refine J_iald (pc := 111) D8_nameWorth_111 rfl rfl (by omega) rfl ?_
      refine J_iald (pc := 112) D8_nameWorth_112 rfl e5 (by omega) rfl ?_
      refine J_i2l (pc := 113) D8_nameWorth_113 ?_
      refine J_lret (pc := 114) D8_nameWorth_114 rfl ?_
      exact ⟨rfl, congrArg (fun q => some (Value.long q)) (by refine Eq.trans ?_ (nameF_4 h1).symm; first | rfl | (rw [e6, nI_clamp (by omega)]) | (rw [e5, nI_clamp (by omega)]) | (rw [e0, nI_clamp (by omega)]))⟩
    · refine J_aload_n (pc := 115) D8_nameWorth_115 rfl ?_
      refine J_getf (pc := 116) D8_nameWorth_116 fl8_23 rfl rfl ?_
      refine J_getf (pc := 119) D8_nameWorth_119 fl8_206 rfl rfl ?_
      refine J_aload_n (pc := 122) D8_nameWorth_122 rfl ?_
      refine J_getf (pc := 123) D8_nameWorth_123 fl8_23 rfl rfl ?_
      refine J_getf (pc := 126) D8_nameWorth_126 fl8_133 rfl rfl ?_
      refine J_iload_n (pc := 129) D8_nameWorth_129 rfl ?_
      refine J_iald (pc := 130) D8_nameWorth_130 rfl rfl (by omega) rfl ?_
      refine J_iald (pc := 131) D8_nameWorth_131 rfl e0 (by omega) rfl ?_
      refine J_i2l (pc := 132) D8_nameWorth_132 ?_
      refine J_lret (pc := 133) D8_nameWorth_133 rfl ?_
      exact ⟨rfl, congrArg (fun q => some (Value.long q)) (by refine Eq.trans ?_ (nameF_5 h1).symm; first | rfl | (rw [e6, nI_clamp (by omega)]) | (rw [e5, nI_clamp (by omega)]) | (rw [e0, nI_clamp (by omega)]))⟩
    · refine J_aload_n (pc := 134) D8_nameWorth_134 rfl ?_
      refine J_getf (pc := 135) D8_nameWorth_135 fl8_23 rfl rfl ?_
      refine J_getf (pc := 138) D8_nameWorth_138 fl8_75 rfl rfl ?_
      refine J_i2l (pc := 141) D8_nameWorth_141 ?_
      refine J_lret (pc := 142) D8_nameWorth_142 rfl ?_
      exact ⟨rfl, congrArg (fun q => some (Value.long q)) (by refine Eq.trans ?_ (nameF_6 h1).symm; first | rfl | (rw [e6, nI_clamp (by omega)]) | (rw [e5, nI_clamp (by omega)]) | (rw [e0, nI_clamp (by omega)]))⟩
  · refine J_ldc2_w (pc := 143) (v := LMIN) D8_nameWorth_143 t767 ?_
    refine J_lret (pc := 146) D8_nameWorth_146 rfl ?_
    exact ⟨rfl, congrArg (fun q => some (Value.long q)) (by refine Eq.trans ?_ (nameF_d h1).symm; first | rfl | (rw [e6, nI_clamp (by omega)]) | (rw [e5, nI_clamp (by omega)]) | (rw [e0, nI_clamp (by omega)]))⟩
theorem nI_le0 {h : Nat} (hh : h < 2 ^ 31) (q : nI h ≤ 0) : h = 0 := by
  rcases Nat.eq_zero_or_pos h with e | e
  · exact e
  · exact absurd q (nI_nle e hh)
theorem nI_gt0 {h : Nat} (q : ¬ nI h ≤ 0) : 0 < h := by
  rcases Nat.eq_zero_or_pos h with e | e
  · subst e
    exact absurd (by rw [nI_0]; exact Int32.le_refl 0) q
  · exact e
theorem nI_dec {h : Nat} (hp : 0 < h) : nI h + Int32.ofInt (-1) = nI (h - 1) := by
  obtain ⟨j, rfl⟩ : ∃ j, h = j + 1 := ⟨h - 1, by omega⟩
  exact pk_m1 j
theorem nI_dec2 {h : Nat} (hp : 1 < h) : nI h + Int32.ofInt (-2) = nI (h - 2) := by
  obtain ⟨j, rfl⟩ : ∃ j, h = j + 2 := ⟨h - 2, by omega⟩
  rw [show nI (j + 2) = nI j + nI 2 from (nI_add j 2).symm, Int32.add_assoc]
  show nI j + (nI 2 + Int32.ofInt (-2)) = nI j
  rw [show nI 2 + Int32.ofInt (-2) = 0 by decide, Int32.add_zero]
def stepW (T : TV) (V : CV) (b i h : Nat) (k : Nat → Int64) : Option (Int64 × Nat) :=
  if T.2.2.2 2 i = nI 29 then some ((T.2.2.2 3 i).toInt64, h)
  else if T.2.2.2 2 i ≤ nI 15 then some (nameF T V (T.2.2.2 2 i) b, h)
  else if T.2.2.2 2 i = nI 18 ∧ 0 < h then some (l01 (k (h - 1) = 0), h - 1)
  else if 1 < h then some (joinF (T.2.2.2 2 i) (k (h - 2)) (k (h - 1)), h - 2)
  else none
def worthL (T : TV) (V : CV) (b : Nat) : Nat → Nat → Nat → (Nat → Int64) → Int64
  | 0, _, h, k => if 0 < h then k 0 else LMIN
  | g + 1, i, h, k => match stepW T V b i h k with
    | none => LMIN
    | some (v, h') => if LBIG < v ∨ v < -LBIG ∨ 64 ≤ h' then LMIN else worthL T V b g (i + 1) (h' + 1) (vp_updL k h' v)
def worthF (T : TV) (V : CV) (lw b : Nat) : Int64 := if T.2.2.2 0 lw = -1 then LMIN else worthL T V b ((T.2.2.2 1 lw).toNatClampNeg - (T.2.2.2 0 lw).toNatClampNeg) (T.2.2.2 0 lw).toNatClampNeg 0 (fun _ => 0)
def yQ (y : Int32 × Int32 × Int32) (q : Nat → Int32) (T : TV) (V : CV) (v : Value) : Option Value → List EC → Prop := fun r w' => r = some v ∧ ∃ k', w' = yrsW y q k' T V
theorem L8_worth185 {d : Nat} {y : Int32 × Int32 × Int32} {q : Nat → Int32} {k : Nat → Int64} {T : TV} {V : CV} {lw fr sg : Int32} {b i h qq : Nat} {v : Int64} {Q : Option Value → List EC → Prop} (hh : h ≤ 64)
    (K : ¬ (LBIG < v ∨ v < -LBIG ∨ 64 ≤ h) → J m8_worth d 0 0 31 42 [(0, .ref 0), (1, .int lw), (2, .int (nI b)), (3, .int fr), (4, .int (nI qq)), (5, .int (nI (h + 1))), (6, .int (nI (i + 1)))] [] (yrsW y q (vp_updL k h v) T V) 0 0 Q) (hE : (LBIG < v ∨ v < -LBIG ∨ 64 ≤ h) → Q (some (.long LMIN)) (yrsW y q k T V)) :
    J m8_worth d 0 0 31 185 [(0, .ref 0), (1, .int lw), (2, .int (nI b)), (3, .int fr), (4, .int (nI qq)), (5, .int (nI h)), (6, .int (nI i)), (7, .int sg), (8, .long v)] [] (yrsW y q k T V) 0 0 Q := by
  refine J_lload (pc := 185) D8_worth_185 rfl ?_
  refine J_ldc2_w (pc := 187) (v := LBIG) D8_worth_187 t778 ?_
  refine J_lcmp (pc := 190) D8_worth_190 ?_
  refine J_if_gt (pc := 191) (tgt := 210) D8_worth_191 (by decide) (fun h191 => ?_) (fun h191 => ?_)
  · replace h191 := (lg_cmp_gt _ _).mp h191
    have h191' := Int64.not_le.mpr h191
    refine J_ldc2_w (pc := 210) (v := LMIN) D8_worth_210 t767 ?_
    refine J_lret (pc := 213) D8_worth_213 rfl ?_
    first | exact hE (Or.inl h191) | exact hE (Or.inr (Or.inl h200)) | exact hE (Or.inr (Or.inr ((nI_leI (by omega) (by omega)).mp h207')))
  · replace h191 := mt (lg_cmp_gt _ _).mpr h191
    have h191' := Int64.not_lt.mp h191
    refine J_lload (pc := 194) D8_worth_194 rfl ?_
    refine J_ldc2_w (pc := 196) (v := -LBIG) D8_worth_196 t779 ?_
    refine J_lcmp (pc := 199) D8_worth_199 ?_
    refine J_if_lt (pc := 200) (tgt := 210) D8_worth_200 (by decide) (fun h200 => ?_) (fun h200 => ?_)
    · replace h200 := (lg_cmp_lt _ _).mp h200
      have h200' := Int64.not_le.mpr h200
      refine J_ldc2_w (pc := 210) (v := LMIN) D8_worth_210 t767 ?_
      refine J_lret (pc := 213) D8_worth_213 rfl ?_
      first | exact hE (Or.inl h191) | exact hE (Or.inr (Or.inl h200)) | exact hE (Or.inr (Or.inr ((nI_leI (by omega) (by omega)).mp h207')))
    · replace h200 := mt (lg_cmp_lt _ _).mpr h200
      have h200' := Int64.not_lt.mp h200
      refine J_iload (pc := 203) D8_worth_203 rfl ?_
      refine J_bipush (pc := 205) (v := (nI 64)) D8_worth_205 (by decide) ?_
      refine J_icmp_lt (pc := 207) (tgt := 214) D8_worth_207 (by decide) (fun h207 => ?_) (fun h207 => ?_)
      · have h207' := Int32.not_le.mpr h207
        have hlt := (nI_ltI (by omega) (by omega)).mp h207
        refine J_aload_n (pc := 214) D8_worth_214 rfl ?_
        refine J_getf (pc := 215) D8_worth_215 fl8_15 rfl rfl ?_
        refine J_iload (pc := 218) D8_worth_218 rfl ?_
        refine J_lload (pc := 220) D8_worth_220 rfl ?_
        refine J_last (pc := 222) D8_worth_222 rfl rfl (by omega) rfl ?_
        refine J_iinc (pc := 223) D8_worth_223 rfl (nI_inc _) rfl ?_
        refine J_iinc (pc := 226) D8_worth_226 rfl (nI_inc _) rfl ?_
        refine J_goto (pc := 229) (tgt := 42) D8_worth_229 (by decide) ?_
        refine J_lk [(0, .ref 0), (1, .int lw), (2, .int (nI b)), (3, .int fr), (4, .int (nI qq)), (5, .int (nI (h + 1))), (6, .int (nI (i + 1)))] rfl (K ?_)
        rintro (q1 | q1 | q1)
        · exact h191 q1
        · exact h200 q1
        · omega
      · have h207' := Int32.not_lt.mp h207
        refine J_ldc2_w (pc := 210) (v := LMIN) D8_worth_210 t767 ?_
        refine J_lret (pc := 213) D8_worth_213 rfl ?_
        first | exact hE (Or.inl h191) | exact hE (Or.inr (Or.inl h200)) | exact hE (Or.inr (Or.inr ((nI_leI (by omega) (by omega)).mp h207')))
theorem worthL_s {T : TV} {V : CV} {b g i h h' : Nat} {κ : Nat → Int64} {v : Int64} (hs : stepW T V b i h κ = some (v, h')) : worthL T V b (g + 1) i h κ = if LBIG < v ∨ v < -LBIG ∨ 64 ≤ h' then LMIN else worthL T V b g (i + 1) (h' + 1) (vp_updL κ h' v) := by rw [worthL, hs]
theorem worthL_n {T : TV} {V : CV} {b g i h : Nat} {κ : Nat → Int64} (hs : stepW T V b i h κ = none) : worthL T V b (g + 1) i h κ = LMIN := by rw [worthL, hs]
theorem updL_agree {k κ : Nat → Int64} {h : Nat} {v : Int64} (hk : ∀ j, j < h → k j = κ j) : ∀ j, j < h + 1 → vp_updL k h v j = vp_updL κ h v j := by
  intro j hj
  by_cases e : j = h
  · subst e; rw [pk_uLs, pk_uLs]
  · rw [pk_uLn e, pk_uLn e]; exact hk j (by omega)
theorem L8_worth {d np nb nn : Nat} {y : Int32 × Int32 × Int32} {q : Nat → Int32} {T : TV} {V : CV} {lw fr : Int32} {b qq : Nat} {R : Int64} (hT : WT T np nb nn) (hV : WV V nb) (hb : b < nb) (hq64 : qq ≤ 64) : ∀ (g i h : Nat) (k κ : Nat → Int64), i + g = qq → h ≤ i → (∀ j, j < h → k j = κ j) → R = worthL T V b g i h κ →
    J m8_worth (d + 2) 0 0 31 42 [(0, .ref 0), (1, .int lw), (2, .int (nI b)), (3, .int fr), (4, .int (nI qq)), (5, .int (nI h)), (6, .int (nI i))] [] (yrsW y q k T V) 0 0 (yQ y q T V (.long R)) := by
  intro g
  induction g with
  | zero =>
    intro i h k κ hi hh hk hR
    refine J_iload (pc := 42) D8_worth_42 rfl ?_
    refine J_iload (pc := 44) D8_worth_44 rfl ?_
    refine J_icmp_ge (pc := 46) (tgt := 232) D8_worth_46 (by decide) (fun h46 => ?_) (fun h46 => absurd (nI_le (by omega) (by omega)) h46)
    refine J_iload (pc := 232) D8_worth_232 rfl ?_
    refine J_if_le (pc := 234) (tgt := 246) D8_worth_234 (by decide) (fun h234 => ?_) (fun h234 => ?_)
    · have h234' := Int32.not_lt.mpr h234
      have hp := nI_le0 (by omega) h234
      refine J_ldc2_w (pc := 246) (v := LMIN) D8_worth_246 t767 ?_
      refine J_lret (pc := 249) D8_worth_249 rfl ?_
      first | exact ⟨congrArg (fun q => some (Value.long q)) (by rw [hR, worthL, if_neg (by omega)]; try rfl), k, rfl⟩ | exact ⟨congrArg (fun q => some (Value.long q)) (by rw [hR, worthL, if_pos hp, hk 0 hp]), k, rfl⟩
    · have h234' := Int32.not_le.mp h234
      have hp := nI_gt0 h234
      refine J_aload_n (pc := 237) D8_worth_237 rfl ?_
      refine J_getf (pc := 238) D8_worth_238 fl8_15 rfl rfl ?_
      refine J_iconst (pc := 241) (v := (nI 0)) D8_worth_241 (by decide) ?_
      refine J_lald (pc := 242) D8_worth_242 rfl rfl (by omega) rfl ?_
      refine J_goto (pc := 243) (tgt := 249) D8_worth_243 (by decide) ?_
      refine J_lret (pc := 249) D8_worth_249 rfl ?_
      first | exact ⟨congrArg (fun q => some (Value.long q)) (by rw [hR, worthL, if_neg (by omega)]; try rfl), k, rfl⟩ | exact ⟨congrArg (fun q => some (Value.long q)) (by rw [hR, worthL, if_pos hp, hk 0 hp]), k, rfl⟩
  | succ g ih =>
    intro i h k κ hi hh hk hR
    refine J_iload (pc := 42) D8_worth_42 rfl ?_
    refine J_iload (pc := 44) D8_worth_44 rfl ?_
    refine J_icmp_ge (pc := 46) (tgt := 232) D8_worth_46 (by decide) (fun h46 => absurd h46 (nI_ge (by omega) (by omega))) (fun h46 => ?_)
    refine J_aload_n (pc := 49) D8_worth_49 rfl ?_
    refine J_getf (pc := 50) D8_worth_50 fl8_19 rfl rfl ?_
    refine J_getf (pc := 53) D8_worth_53 fl8_171 rfl rfl ?_
    refine J_getf (pc := 56) D8_worth_56 fl8_183 rfl rfl ?_
    refine J_iload (pc := 59) D8_worth_59 rfl ?_
    refine J_iald (pc := 61) D8_worth_61 rfl rfl (by omega) rfl ?_
    refine J_istore (pc := 62) D8_worth_62 rfl ?_
    refine J_iload (pc := 64) D8_worth_64 rfl ?_
    refine J_bipush (pc := 66) (v := (nI 29)) D8_worth_66 (by decide) ?_
    refine J_icmp_ne (pc := 68) (tgt := 90) D8_worth_68 (by decide) (fun h68 => ?_) (fun h68 => ?_)
    · refine J_iload (pc := 90) D8_worth_90 rfl ?_
      refine J_bipush (pc := 92) (v := (nI 15)) D8_worth_92 (by decide) ?_
      refine J_icmp_gt (pc := 94) (tgt := 109) D8_worth_94 (by decide) (fun h94 => ?_) (fun h94 => ?_)
      · have h94' := Int32.not_le.mpr h94
        refine J_iload (pc := 109) D8_worth_109 rfl ?_
        refine J_bipush (pc := 111) (v := (nI 18)) D8_worth_111 (by decide) ?_
        refine J_icmp_ne (pc := 113) (tgt := 146) D8_worth_113 (by decide) (fun h113 => ?_) (fun h113 => ?_)
        · refine J_iload (pc := 146) D8_worth_146 rfl ?_
          refine J_iconst (pc := 148) (v := (nI 1)) D8_worth_148 (by decide) ?_
          refine J_icmp_le (pc := 149) (tgt := 181) D8_worth_149 (by decide) (fun h149 => ?_) (fun h149 => ?_)
          · have h149' := Int32.not_lt.mpr h149
            have hp1 := (nI_leI (by omega) (by omega)).mp h149
            refine J_ldc2_w (pc := 181) (v := LMIN) D8_worth_181 t767 ?_
            refine J_lret (pc := 184) D8_worth_184 rfl ?_
            exact ⟨congrArg (fun q => some (Value.long q)) (by rw [hR, worthL_n (by simp only [stepW, h68, h94, h94', h113, h149, h149', ↓reduceIte, false_and, true_and]; first | (rw [if_neg (by omega), if_neg (by omega)]) | (rw [if_neg (by omega)]))]; try rfl), k, rfl⟩
          · have h149' := Int32.not_le.mp h149
            have hp1 := (nI_ltI (by omega) (by omega)).mp h149'
            refine J_iinc (pc := 152) D8_worth_152 rfl (nI_dec2 hp1) rfl ?_
            refine J_iload (pc := 155) D8_worth_155 rfl ?_
            refine J_aload_n (pc := 157) D8_worth_157 rfl ?_
            refine J_getf (pc := 158) D8_worth_158 fl8_15 rfl rfl ?_
            refine J_iload (pc := 161) D8_worth_161 rfl ?_
            refine J_lald (pc := 163) D8_worth_163 rfl rfl (by omega) rfl ?_
            refine J_aload_n (pc := 164) D8_worth_164 rfl ?_
            refine J_getf (pc := 165) D8_worth_165 fl8_15 rfl rfl ?_
            refine J_iload (pc := 168) D8_worth_168 rfl ?_
            refine J_iconst (pc := 170) (v := (nI 1)) D8_worth_170 (by decide) ?_
            refine J_iadd (pc := 171) D8_worth_171 ?_
            refine J_lald (pc := 172) D8_worth_172 rfl ((nI_add _ _).trans (by rw [show h - 2 + 1 = h - 1 by omega])) (by omega) rfl ?_
            refine J_callSR (pc := 173) (ι := []) (ac := [.int _, .long _, .long _]) D8_worth_173 m8_joined_s t772 (c8_joined (d := d)) (by omega) ⟨rfl, rfl⟩ rfl rfl (fun _ => rfl) rfl rfl rfl ?_
            refine J_lstore (pc := 176) D8_worth_176 rfl ?_
            refine J_goto (pc := 178) (tgt := 185) D8_worth_178 (by decide) ?_
            have hs : stepW T V b i h κ = some (joinF (T.2.2.2 2 i) (k (h - 2)) (k (h - 1)), h - 2) := by simp only [stepW, h68, h94', h113, false_and, hp1, ↓reduceIte, hk (h - 1) (by omega), hk (h - 2) (by omega)]
            rw [worthL_s hs] at hR
            refine L8_worth185 (by omega) (fun hq => ?_) (fun hq => ?_)
            · exact ih _ _ _ _ (by omega) (by omega) (updL_agree (fun j hj => hk j (by omega))) (by rw [hR, if_neg hq])
            · exact ⟨congrArg (fun q => some (Value.long q)) (by rw [hR, if_pos hq]), k, rfl⟩
        · have h113' := eq_true h113
          refine J_iload (pc := 116) D8_worth_116 rfl ?_
          refine J_if_le (pc := 118) (tgt := 146) D8_worth_118 (by decide) (fun h118 => ?_) (fun h118 => ?_)
          · have h118' := Int32.not_lt.mpr h118
            have hp := nI_le0 (by omega) h118
            refine J_iload (pc := 146) D8_worth_146 rfl ?_
            refine J_iconst (pc := 148) (v := (nI 1)) D8_worth_148 (by decide) ?_
            refine J_icmp_le (pc := 149) (tgt := 181) D8_worth_149 (by decide) (fun h149 => ?_) (fun h149 => absurd (nI_le (by omega) (by omega)) h149)
            refine J_ldc2_w (pc := 181) (v := LMIN) D8_worth_181 t767 ?_
            refine J_lret (pc := 184) D8_worth_184 rfl ?_
            exact ⟨congrArg (fun q => some (Value.long q)) (by rw [hR, worthL_n (by simp only [stepW, h68, h94, h94', h113', h118, h118', ↓reduceIte, false_and, true_and]; first | (rw [if_neg (by omega), if_neg (by omega)]) | (rw [if_neg (by omega)]))]; try rfl), k, rfl⟩
          · have h118' := Int32.not_le.mp h118
            have hp := nI_gt0 h118
            refine J_iinc (pc := 121) D8_worth_121 rfl (nI_dec hp) rfl ?_
            refine J_aload_n (pc := 124) D8_worth_124 rfl ?_
            refine J_getf (pc := 125) D8_worth_125 fl8_15 rfl rfl ?_
            refine J_iload (pc := 128) D8_worth_128 rfl ?_
            refine J_lald (pc := 130) D8_worth_130 rfl rfl (by omega) rfl ?_
            refine J_lconst (pc := 131) (v := 0) D8_worth_131 (by decide) ?_
            refine J_lcmp (pc := 132) D8_worth_132 ?_
            refine J_if_ne (pc := 133) (tgt := 140) D8_worth_133 (by decide) (fun h133 => ?_) (fun h133 => ?_)
            · replace h133 := mt (lg_cmp_eq _ _).mpr h133
              refine J_lconst (pc := 140) (v := 0) D8_worth_140 (by decide) ?_
              refine J_lstore (pc := 141) D8_worth_141 rfl ?_
              refine J_goto (pc := 143) (tgt := 185) D8_worth_143 (by decide) ?_
              have hs : stepW T V b i h κ = some (0, h - 1) := by
                simp only [stepW, h68, h94', h113', hp, and_self, true_and, ↓reduceIte, l01, ← hk (h - 1) (by omega), h133]
              rw [worthL_s hs] at hR
              refine L8_worth185 (by omega) (fun hq => ?_) (fun hq => ?_)
              · exact ih _ _ _ _ (by omega) (by omega) (updL_agree (fun j hj => hk j (by omega))) (by rw [hR, if_neg hq])
              · exact ⟨congrArg (fun q => some (Value.long q)) (by rw [hR, if_pos hq]), k, rfl⟩
            · replace h133 := (lg_cmp_eq _ _).mp h133
              have h133' := eq_true h133
              refine J_lconst (pc := 136) (v := 1) D8_worth_136 (by decide) ?_
              refine J_goto (pc := 137) (tgt := 141) D8_worth_137 (by decide) ?_
              refine J_lstore (pc := 141) D8_worth_141 rfl ?_
              refine J_goto (pc := 143) (tgt := 185) D8_worth_143 (by decide) ?_
              have hs : stepW T V b i h κ = some (1, h - 1) := by
                simp only [stepW, h68, h94', h113', hp, and_self, true_and, ↓reduceIte, l01, ← hk (h - 1) (by omega), h133']
              rw [worthL_s hs] at hR
              refine L8_worth185 (by omega) (fun hq => ?_) (fun hq => ?_)
              · exact ih _ _ _ _ (by omega) (by omega) (updL_agree (fun j hj => hk j (by omega))) (by rw [hR, if_neg hq])
              · exact ⟨congrArg (fun q => some (Value.long q)) (by rw [hR, if_pos hq]), k, rfl⟩
      · have h94' := Int32.not_lt.mp h94
        refine J_aload_n (pc := 97) D8_worth_97 rfl ?_
        refine J_iload (pc := 98) D8_worth_98 rfl ?_
        refine J_iload_n (pc := 100) D8_worth_100 rfl ?_
        refine J_callVTR (pc := 101) (ac := [.int _, .int (nI b)]) D8_worth_101 m8_nameWorth_v t768 (c8_nameWorth (d := d + 1) hT hV hb) (by omega) rfl rfl rfl rfl (fun _ => rfl) rfl rfl rfl ?_
        refine J_lstore (pc := 104) D8_worth_104 rfl ?_
        refine J_goto (pc := 106) (tgt := 185) D8_worth_106 (by decide) ?_
        have hs : stepW T V b i h κ = some (nameF T V (T.2.2.2 2 i) b, h) := by simp only [stepW, h68, h94', ↓reduceIte]
        rw [worthL_s hs] at hR
        refine L8_worth185 (by omega) (fun hq => ?_) (fun hq => ?_)
        · exact ih _ _ _ _ (by omega) (by omega) (updL_agree (fun j hj => hk j (by omega))) (by rw [hR, if_neg hq])
        · exact ⟨congrArg (fun q => some (Value.long q)) (by rw [hR, if_pos hq]), k, rfl⟩
    · have h68' := eq_true h68
      refine J_aload_n (pc := 71) D8_worth_71 rfl ?_
      refine J_getf (pc := 72) D8_worth_72 fl8_19 rfl rfl ?_
      refine J_getf (pc := 75) D8_worth_75 fl8_171 rfl rfl ?_
      refine J_getf (pc := 78) D8_worth_78 fl8_186 rfl rfl ?_
      refine J_iload (pc := 81) D8_worth_81 rfl ?_
      refine J_iald (pc := 83) D8_worth_83 rfl rfl (by omega) rfl ?_
      refine J_i2l (pc := 84) D8_worth_84 ?_
      refine J_lstore (pc := 85) D8_worth_85 rfl ?_
      refine J_goto (pc := 87) (tgt := 185) D8_worth_87 (by decide) ?_
      have hs : stepW T V b i h κ = some ((T.2.2.2 3 i).toInt64, h) := by simp only [stepW, h68, ↓reduceIte]
      rw [worthL_s hs] at hR
      refine L8_worth185 (by omega) (fun hq => ?_) (fun hq => ?_)
      · exact ih _ _ _ _ (by omega) (by omega) (updL_agree (fun j hj => hk j (by omega))) (by rw [hR, if_neg hq])
      · exact ⟨congrArg (fun q => some (Value.long q)) (by rw [hR, if_pos hq]), k, rfl⟩

theorem c8_worth {d np nb nn : Nat} {y : Int32 × Int32 × Int32} {q : Nat → Int32} {k : Nat → Int64} {T : TV} {V : CV} {lw b : Nat} (hT : WT T np nb nn) (hV : WV V nb) (hb : b < nb) (hl : lw < 3) : Tr (d + 2) 0 0 m8_worth [.ref 0, .int (nI lw), .int (nI b)] (yrsW y q k T V) (yQ y q T V (.long (worthF T V lw b))) := by
  obtain ⟨-, -, -, -, -, -, -, -, -, hL, -⟩ := id hT
  refine Tr.intro (by decide) rfl ?_
  refine J_aload_n (pc := 0) D8_worth_0 rfl ?_
  refine J_getf (pc := 1) D8_worth_1 fl8_19 rfl rfl ?_
  refine J_getf (pc := 4) D8_worth_4 fl8_171 rfl rfl ?_
  refine J_getf (pc := 7) D8_worth_7 fl8_175 rfl rfl ?_
  refine J_iload_n (pc := 10) D8_worth_10 rfl ?_
  refine J_iald (pc := 11) D8_worth_11 rfl rfl hl rfl ?_
  refine J_istore_n (pc := 12) D8_worth_12 rfl ?_
  refine J_aload_n (pc := 13) D8_worth_13 rfl ?_
  refine J_getf (pc := 14) D8_worth_14 fl8_19 rfl rfl ?_
  refine J_getf (pc := 17) D8_worth_17 fl8_171 rfl rfl ?_
  refine J_getf (pc := 20) D8_worth_20 fl8_180 rfl rfl ?_
  refine J_iload_n (pc := 23) D8_worth_23 rfl ?_
  refine J_iald (pc := 24) D8_worth_24 rfl rfl hl rfl ?_
  refine J_istore (pc := 25) D8_worth_25 rfl ?_
  refine J_iload_n (pc := 27) D8_worth_27 rfl ?_
  refine J_iconst (pc := 28) (v := (-1)) D8_worth_28 (by decide) ?_
  refine J_icmp_ne (pc := 29) (tgt := 36) D8_worth_29 (by decide) (fun h29 => ?_) (fun h29 => ?_)
  · rcases hL lw hl with e | ⟨p1, q1, e1, e2, e3, e4⟩
    · exact absurd e h29
    · rw [e1, e2]
      refine J_iconst (pc := 36) (v := (nI 0)) D8_worth_36 (by decide) ?_
      refine J_istore (pc := 37) D8_worth_37 rfl ?_
      refine J_iload_n (pc := 39) D8_worth_39 rfl ?_
      refine J_istore (pc := 40) D8_worth_40 rfl ?_
      exact L8_worth hT hV hb (by omega) (q1 - p1) p1 0 k (fun _ => 0) (by omega) (by omega) (fun j hj => absurd hj (by omega)) (by rw [worthF, if_neg h29, e1, e2, nI_clamp (by omega), nI_clamp (by omega)])
  · have h29' := eq_true h29
    refine J_ldc2_w (pc := 32) (v := LMIN) D8_worth_32 t767 ?_
    refine J_lret (pc := 35) D8_worth_35 rfl ?_
    exact ⟨congrArg (fun q => some (Value.long q)) (by rw [worthF, if_pos h29]; try rfl), k, rfl⟩
