/-! TEMPERCELLAR: dowry, lasts (own; walks by program wk.py) -/
theorem nI_or (a b : Nat) : nI a ||| nI b = nI (a ||| b) := Int32.toBitVec_inj.mp (BitVec.ofNat_or (x := a) (y := b)).symm
theorem bitN_e : ∀ n, n < 10 → bitN n = nI (2 ^ n) := by decide
theorem lyB_lt {T : TV} {V : CV} {p : Int32} : ∀ n, n ≤ 10 → ∃ A, A < 2 ^ n ∧ lyB T V p n = nI A
  | 0, _ => ⟨0, by decide, rfl⟩
  | n + 1, h => by
    obtain ⟨A, hA, e⟩ := lyB_lt n (by omega) (T := T) (V := V) (p := p)
    unfold lyB
    split
    · refine ⟨A ||| 2 ^ n, Nat.or_lt_two_pow (by rw [Nat.pow_succ]; omega) (by rw [Nat.pow_succ]; have := Nat.two_pow_pos n; omega), ?_⟩
      rw [e, bitN_e n (by omega), nI_or]
    · exact ⟨A, by rw [Nat.pow_succ]; omega, e⟩
abbrev DW : Type := Int32 × Int32
def doC (V : CV) (nb : Nat) (all sum : Int32) (h : Nat) : Int32 := iabs (sum - nI 2 * foS V (nI h) nb)
def doL (V : CV) (nb : Nat) (all sum : Int32) : Nat → Nat → DW → DW
  | 0, _, S => S
  | g + 1, h, S => if nI h &&& (all ^^^ -1) = 0 ∧ doC V nb all sum h < S.2 then doL V nb all sum g (h + 1) (nI h, doC V nb all sum h) else doL V nb all sum g (h + 1) S
def dowR (T : TV) (V : CV) (nb : Nat) (p : Int32) : DW := doL V nb (lyB T V p nb) (foS V (lyB T V p nb) nb) (lyB T V p nb).toNatClampNeg 1 (nI 0, foS V (lyB T V p nb) nb)
def doP (w : Int32) (S : DW) : Int32 := if w = 0 then S.1 else S.2
def dowF (T : TV) (V : CV) (np nb : Nat) (p w : Int32) : Int32 := if ixB np p = true ∧ ixB 2 w = true then doP w (dowR T V nb p) else -1
theorem L9_dowry {d np nb nn : Nat} {tl hi : Int32} {T : TV} {V : CV} (hT : WT T np nb nn) {p w sum : Int32} {A : Nat} (hA : A < 1024) : ∀ (g h : Nat) (S : DW), h + g = A + 1 → J m9_dowry (d + 2) 0 0 29 42 [(0, .ref 0), (1, .int p), (2, .int w), (3, .int (nI A)), (4, .int sum), (5, .int S.1), (6, .int S.2), (7, .int (nI h))] [] (tcA tl hi T V) 0 0 (fun r w' => w' = tcA tl hi T V ∧ r = some (.int (doP w (doL V nb (nI A) sum g h S)))) := by
  intro g
  induction g with
  | zero =>
    intro h S hh
    refine J_iload (pc := 42) D9_dowry_42 rfl ?_
    refine J_iload_n (pc := 44) D9_dowry_44 rfl ?_
    refine J_icmp_gt (pc := 45) (tgt := 94) D9_dowry_45 (by decide) (fun h45 => ?_) (fun h45 => absurd (nI_lt (by omega) (by omega)) h45)
    refine J_iload_n (pc := 94) D9_dowry_94 rfl ?_
    refine J_if_ne (pc := 95) (tgt := 103) D9_dowry_95 (by decide) (fun h95 => ?_) (fun h95 => ?_)
    · refine J_iload (pc := 103) D9_dowry_103 rfl ?_
      refine J_iret (pc := 105) D9_dowry_105 rfl ?_
      exact ⟨rfl, by rw [doL, doP, if_neg h95]⟩
    · have h95' := eq_true h95
      refine J_iload (pc := 98) D9_dowry_98 rfl ?_
      refine J_goto (pc := 100) (tgt := 105) D9_dowry_100 (by decide) ?_
      refine J_iret (pc := 105) D9_dowry_105 rfl ?_
      exact ⟨rfl, by rw [doL, doP, if_pos h95]⟩
  | succ g ih =>
    intro h S hh
    refine J_iload (pc := 42) D9_dowry_42 rfl ?_
    refine J_iload_n (pc := 44) D9_dowry_44 rfl ?_
    refine J_icmp_gt (pc := 45) (tgt := 94) D9_dowry_45 (by decide) (fun h45 => absurd h45 (Int32.not_lt.mpr (nI_le (by omega) (by omega)))) (fun h45 => ?_)
    refine J_iload (pc := 48) D9_dowry_48 rfl ?_
    refine J_iload_n (pc := 50) D9_dowry_50 rfl ?_
    refine J_iconst (pc := 51) (v := (-1)) D9_dowry_51 (by decide) ?_
    refine J_ixor (pc := 52) D9_dowry_52 ?_
    refine J_iand (pc := 53) D9_dowry_53 ?_
    refine J_if_ne (pc := 54) (tgt := 88) D9_dowry_54 (by decide) (fun h54 => ?_) (fun h54 => ?_)
    · refine J_iinc (pc := 88) D9_dowry_88 rfl (nI_inc _) rfl ?_
      refine J_goto (pc := 91) (tgt := 42) D9_dowry_91 (by decide) ?_
      rw [doL, if_neg (fun q => h54 q.1)]
      refine J_lk [(0, .ref 0), (1, .int p), (2, .int w), (3, .int (nI A)), (4, .int sum), (5, .int S.1), (6, .int S.2), (7, .int (nI (h + 1)))] rfl ?_
      exact ih (h + 1) S (by omega)
    · have h54' := eq_true h54
      refine J_iload (pc := 57) D9_dowry_57 rfl ?_
      refine J_iconst (pc := 59) (v := (nI 2)) D9_dowry_59 (by decide) ?_
      refine J_aload_n (pc := 60) D9_dowry_60 rfl ?_
      refine J_iload (pc := 61) D9_dowry_61 rfl ?_
      refine J_callVTR (pc := 63) (ac := [.int _]) (rest := [_, _]) D9_dowry_63 m9_forceOf_v t727 (c9_forceOf (d := d + 1) hT) (by omega) rfl rfl rfl rfl (fun _ => rfl) rfl rfl rfl ?_
      refine J_imul (pc := 66) D9_dowry_66 ?_
      refine J_isub (pc := 67) D9_dowry_67 ?_
      refine J_abs (pc := 68) D9_dowry_68 t996 (by omega) rfl rfl rfl ?_
      refine J_istore (pc := 71) D9_dowry_71 rfl ?_
      refine J_iload (pc := 73) D9_dowry_73 rfl ?_
      refine J_iload (pc := 75) D9_dowry_75 rfl ?_
      refine J_icmp_ge (pc := 77) (tgt := 88) D9_dowry_77 (by decide) (fun h77 => ?_) (fun h77 => ?_)
      · have h77' := Int32.not_lt.mpr h77
        refine J_iinc (pc := 88) D9_dowry_88 rfl (nI_inc _) rfl ?_
        refine J_goto (pc := 91) (tgt := 42) D9_dowry_91 (by decide) ?_
        rw [doL, if_neg (fun q => absurd q.2 (Int32.not_lt.mpr h77))]
        refine J_lk [(0, .ref 0), (1, .int p), (2, .int w), (3, .int (nI A)), (4, .int sum), (5, .int S.1), (6, .int S.2), (7, .int (nI (h + 1)))] rfl ?_
        exact ih (h + 1) S (by omega)
      · have h77' := Int32.not_le.mp h77
        refine J_iload (pc := 80) D9_dowry_80 rfl ?_
        refine J_istore (pc := 82) D9_dowry_82 rfl ?_
        refine J_iload (pc := 84) D9_dowry_84 rfl ?_
        refine J_istore (pc := 86) D9_dowry_86 rfl ?_
        refine J_iinc (pc := 88) D9_dowry_88 rfl (nI_inc _) rfl ?_
        refine J_goto (pc := 91) (tgt := 42) D9_dowry_91 (by decide) ?_
        rw [doL, if_pos ⟨h54, h77'⟩]
        refine J_lk [(0, .ref 0), (1, .int p), (2, .int w), (3, .int (nI A)), (4, .int sum), (5, .int ((nI h, doC V nb (nI A) sum h) : DW).1), (6, .int ((nI h, doC V nb (nI A) sum h) : DW).2), (7, .int (nI (h + 1)))] rfl ?_
        exact ih (h + 1) _ (by omega)
theorem c9_dowry {d np nb nn : Nat} {tl hi : Int32} {T : TV} {V : CV} (hT : WT T np nb nn) {p w : Int32} : TR (d + 3) m9_dowry [.ref 0, .int p, .int w] (tcA tl hi T V) (.int (dowF T V np nb p w)) := by
  have hnb := hT.2.2.2.2.1
  refine Tr.intro (by decide) rfl ?_
  refine J_aload_n (pc := 0) D9_dowry_0 rfl ?_
  refine J_iload_n (pc := 1) D9_dowry_1 rfl ?_
  refine J_callVTR (pc := 2) (ac := [.int _]) D9_dowry_2 m9_isPerson_v t708 (c9_isPerson (d := d + 1) hT) (by omega) rfl rfl rfl rfl (fun _ => rfl) rfl rfl rfl ?_
  refine J_if_eq (pc := 5) (tgt := 17) D9_dowry_5 (by decide) (fun h5 => ?_) (fun h5 => ?_)
  · have h5' := eq_true h5
    replace h5 := i01_z h5
    refine J_iconst (pc := 17) (v := (-1)) D9_dowry_17 (by decide) ?_
    refine J_iret (pc := 18) D9_dowry_18 rfl ?_
    exact ⟨rfl, by rw [dowF, if_neg (fun q => h5 q.1)]⟩
  · replace h5 := i01_nz h5
    refine J_iload_n (pc := 8) D9_dowry_8 rfl ?_
    refine J_iconst (pc := 9) (v := (nI 0)) D9_dowry_9 (by decide) ?_
    refine J_iconst (pc := 10) (v := (nI 1)) D9_dowry_10 (by decide) ?_
    refine J_callSR (pc := 11) (ι := []) (ac := [.int _, .int _, .int _]) D9_dowry_11 m9_isAmong_s t712 (c9_isAmong (d := d + 2)) (by omega) ⟨rfl, rfl⟩ rfl rfl (fun _ => rfl) rfl rfl rfl ?_
    refine J_st [.int (i01 (ixB 2 w = true))] (by rw [← ixB_m (n := 1) (by decide)]; try rfl) ?_
    refine J_if_ne (pc := 14) (tgt := 19) D9_dowry_14 (by decide) (fun h14 => ?_) (fun h14 => ?_)
    · replace h14 := i01_nz h14
      refine J_aload_n (pc := 19) D9_dowry_19 rfl ?_
      refine J_iload_n (pc := 20) D9_dowry_20 rfl ?_
      refine J_callVTR (pc := 21) (ac := [.int _]) D9_dowry_21 m9_lyingOf_v t713 (c9_lyingOf (d := d + 1) hT) (by omega) rfl rfl rfl rfl (fun _ => rfl) rfl rfl rfl ?_
      refine J_istore_n (pc := 24) D9_dowry_24 rfl ?_
      refine J_aload_n (pc := 25) D9_dowry_25 rfl ?_
      refine J_iload_n (pc := 26) D9_dowry_26 rfl ?_
      refine J_callVTR (pc := 27) (ac := [.int _]) D9_dowry_27 m9_forceOf_v t727 (c9_forceOf (d := d + 2) hT) (by omega) rfl rfl rfl rfl (fun _ => rfl) rfl rfl rfl ?_
      refine J_istore (pc := 30) D9_dowry_30 rfl ?_
      refine J_iconst (pc := 32) (v := (nI 0)) D9_dowry_32 (by decide) ?_
      refine J_istore (pc := 33) D9_dowry_33 rfl ?_
      refine J_iload (pc := 35) D9_dowry_35 rfl ?_
      refine J_istore (pc := 37) D9_dowry_37 rfl ?_
      refine J_iconst (pc := 39) (v := (nI 1)) D9_dowry_39 (by decide) ?_
      refine J_istore (pc := 40) D9_dowry_40 rfl ?_
      obtain ⟨A, hA, eA⟩ := lyB_lt (T := T) (V := V) (p := p) nb (by omega)
      have hA2 : A < 1024 := Nat.lt_of_lt_of_le hA (Nat.pow_le_pow_right (by omega) hnb)
      rw [dowF, if_pos ⟨h5, h14⟩, dowR, eA, nI_clamp (by omega)]
      refine J_lk [(0, .ref 0), (1, .int p), (2, .int w), (3, .int (nI A)), (4, .int (foS V (nI A) nb)), (5, .int ((nI 0, foS V (nI A) nb) : DW).1), (6, .int ((nI 0, foS V (nI A) nb) : DW).2), (7, .int (nI 1))] rfl ?_
      exact L9_dowry (d := d + 1) hT hA2 A 1 _ (by omega)
    · have h14' := eq_true h14
      replace h14 := i01_z h14
      refine J_iconst (pc := 17) (v := (-1)) D9_dowry_17 (by decide) ?_
      refine J_iret (pc := 18) D9_dowry_18 rfl ?_
      exact ⟨rfl, by rw [dowF, if_neg (fun q => h14 q.2)]⟩
def pwF (x : Int64) : Nat → Int64
  | 0 => 1
  | n + 1 => pwF x n * x
theorem L9_power {d n : Nat} {x : Int64} (hn : n < 100) : ∀ (g i : Nat), i + g = n → J m9_power d 0 0 0 5 [(0, .long x), (2, .int (nI n)), (3, .long (pwF x i)), (5, .int (nI i))] [] [] 0 0 (fun r w' => w' = [] ∧ r = some (.long (pwF x n))) := by
  intro g
  induction g with
  | zero =>
    intro i hi
    have e : i = n := by omega
    refine J_iload (pc := 5) D9_power_5 rfl ?_
    refine J_iload_n (pc := 7) D9_power_7 rfl ?_
    refine J_icmp_ge (pc := 8) (tgt := 21) D9_power_8 (by decide) (fun h8 => ?_) (fun h8 => absurd (nI_le (by omega) (by omega)) h8)
    refine J_lload_n (pc := 21) D9_power_21 rfl ?_
    refine J_lret (pc := 22) D9_power_22 rfl ?_
    exact ⟨rfl, by rw [e]⟩
  | succ g ih =>
    intro i hi
    refine J_iload (pc := 5) D9_power_5 rfl ?_
    refine J_iload_n (pc := 7) D9_power_7 rfl ?_
    refine J_icmp_ge (pc := 8) (tgt := 21) D9_power_8 (by decide) (fun h8 => absurd h8 (nI_ge (by omega) (by omega))) (fun h8 => ?_)
    refine J_lload_n (pc := 11) D9_power_11 rfl ?_
    refine J_lload_n (pc := 12) D9_power_12 rfl ?_
    refine J_lmul (pc := 13) D9_power_13 ?_
    refine J_lstore_n (pc := 14) D9_power_14 rfl ?_
    refine J_iinc (pc := 15) D9_power_15 rfl (nI_inc _) rfl ?_
    refine J_goto (pc := 18) (tgt := 5) D9_power_18 (by decide) ?_
    refine J_lk [(0, .long x), (2, .int (nI n)), (3, .long (pwF x (i + 1))), (5, .int (nI (i + 1)))] rfl ?_
    exact ih (i + 1) (by omega)
theorem c9_power {d n : Nat} {x : Int64} (hn : n < 100) : TR d m9_power [.long x, .int (nI n)] [] (.long (pwF x n)) := by
  refine Tr.intro (by decide) rfl ?_
  refine J_lconst (pc := 0) (v := 1) D9_power_0 (by decide) ?_
  refine J_lstore_n (pc := 1) D9_power_1 rfl ?_
  refine J_iconst (pc := 2) (v := (nI 0)) D9_power_2 (by decide) ?_
  refine J_istore (pc := 3) D9_power_3 rfl ?_
  refine J_lk [(0, .long x), (2, .int (nI n)), (3, .long (pwF x 0)), (5, .int (nI 0))] rfl ?_
  exact L9_power hn n 0 (by omega)
def coL : Nat → Int64 → Int64 → Int64
  | 0, x, _ => x
  | g + 1, x, y => if y = 0 then x else coL g y (x - x / y * y)
theorem L9_common {d : Nat} : ∀ (g i : Nat) (x y : Int64), i + g = 100 → J m9_commonPart d 0 0 0 3 [(0, .long x), (2, .long y), (4, .int (nI i))] [] [] 0 0 (fun r w' => w' = [] ∧ r = some (.long (coL g x y))) := by
  intro g
  induction g with
  | zero =>
    intro i x y hi
    refine J_iload (pc := 3) D9_commonPart_3 rfl ?_
    refine J_bipush (pc := 5) (v := (nI 100)) D9_commonPart_5 (by decide) ?_
    refine J_icmp_ge (pc := 7) (tgt := 32) D9_commonPart_7 (by decide) (fun h7 => ?_) (fun h7 => absurd (nI_le (by omega) (by omega)) h7)
    refine J_lload_n (pc := 32) D9_commonPart_32 rfl ?_
    refine J_lret (pc := 33) D9_commonPart_33 rfl ?_
    exact ⟨rfl, rfl⟩
  | succ g ih =>
    intro i x y hi
    refine J_iload (pc := 3) D9_commonPart_3 rfl ?_
    refine J_bipush (pc := 5) (v := (nI 100)) D9_commonPart_5 (by decide) ?_
    refine J_icmp_ge (pc := 7) (tgt := 32) D9_commonPart_7 (by decide) (fun h7 => absurd h7 (nI_ge (by omega) (by omega))) (fun h7 => ?_)
    refine J_lload_n (pc := 10) D9_commonPart_10 rfl ?_
    refine J_lconst (pc := 11) (v := 0) D9_commonPart_11 (by decide) ?_
    refine J_lcmp (pc := 12) D9_commonPart_12 ?_
    refine J_if_eq (pc := 13) (tgt := 32) D9_commonPart_13 (by decide) (fun h13 => ?_) (fun h13 => ?_)
    · replace h13 := (lg_cmp_eq _ _).mp h13
      have h13' := eq_true h13
      refine J_lload_n (pc := 32) D9_commonPart_32 rfl ?_
      refine J_lret (pc := 33) D9_commonPart_33 rfl ?_
      exact ⟨rfl, by rw [coL, if_pos h13]⟩
    · replace h13 := mt (lg_cmp_eq _ _).mpr h13
      refine J_lload_n (pc := 16) D9_commonPart_16 rfl ?_
      refine J_lload_n (pc := 17) D9_commonPart_17 rfl ?_
      refine J_lrem (pc := 18) D9_commonPart_18 h13 ?_
      refine J_lstore (pc := 19) D9_commonPart_19 rfl ?_
      refine J_lload_n (pc := 21) D9_commonPart_21 rfl ?_
      refine J_lstore_n (pc := 22) D9_commonPart_22 rfl ?_
      refine J_lload (pc := 23) D9_commonPart_23 rfl ?_
      refine J_lstore_n (pc := 25) D9_commonPart_25 rfl ?_
      refine J_iinc (pc := 26) D9_commonPart_26 rfl (nI_inc _) rfl ?_
      refine J_goto (pc := 29) (tgt := 3) D9_commonPart_29 (by decide) ?_
      rw [coL, if_neg h13]
      refine J_lk [(0, .long y), (2, .long (x - x / y * y)), (4, .int (nI (i + 1)))] rfl ?_
      exact ih (i + 1) _ _ (by omega)
theorem c9_commonPart {d : Nat} {x y : Int64} : TR d m9_commonPart [.long x, .long y] [] (.long (coL 100 x y)) := by
  refine Tr.intro (by decide) rfl ?_
  refine J_iconst (pc := 0) (v := (nI 0)) D9_commonPart_0 (by decide) ?_
  refine J_istore (pc := 1) D9_commonPart_1 rfl ?_
  exact L9_common 100 0 x y (by omega)
def lasL (th ck : Int32) (n : Nat) : Nat → Nat → Int64 → Int64 → Int64
  | 0, _, a, _ => a
  | g + 1, s, a, u => if nI s < ck then lasL th ck n g (s + 1) (a + u * pwF th.toInt64 s * pwF (nI 100 - th).toInt64 (n - s)) (u * (nI (n - s)).toInt64 / (nI (s + 1)).toInt64) else a
def lasA (th ck : Int32) (n : Nat) : Int64 := lasL th ck n (n + 1) 0 0 1
def lasE (a b c : Int64) (w : Int32) : Int64 := if 0 < c then (if w = 0 then a else b) / c else -1
def lasR (th ck : Int32) (n : Nat) (w : Int32) : Int64 := lasE (lasA th ck n) (pwF 100 n) (coL 100 (pwF 100 n) (lasA th ck n)) w
def lasF (T : TV) (V : CV) (nb : Nat) (b n w : Int32) : Int64 := if lyiB V nb b = true ∧ ixB 6 n = true ∧ ixB 2 w = true then lasR (T.1 15) (V.2.2.2 2 b.toNatClampNeg) n.toNatClampNeg w else -1
theorem s1_nz : ∀ s, s < 6 → ¬ (nI (s + 1)).toInt64 = 0 := by decide
theorem L9_lasts121 {d np nb nn : Nat} {tl hi : Int32} {T : TV} {V : CV} (hT : WT T np nb nn) {b n : Nat} {w : Int32} {x0 x1 : Int32} (hn : n ≤ 5) {a u : Int64} : J m9_lasts (d + 3) 0 0 29 121 [(0, .ref 0), (1, .int (nI b)), (2, .int (nI n)), (3, .int w), (4, .long a)] [] (tcA tl hi T V) 0 0 (fun r w' => w' = tcA tl hi T V ∧ r = some (.long (lasE a (pwF 100 n) (coL 100 (pwF 100 n) a) w))) := by
  refine J_ldc2_w (pc := 121) D9_lasts_121 t1038 ?_
  refine J_iload_n (pc := 124) D9_lasts_124 rfl ?_
  refine J_callSR (pc := 125) (ι := []) (ac := [.long _, .int _]) D9_lasts_125 m9_power_s t1035 (c9_power (d := d + 2) (n := n) (by omega)) (by omega) ⟨rfl, rfl⟩ rfl rfl (fun _ => rfl) rfl rfl rfl ?_
  refine J_lstore (pc := 128) D9_lasts_128 rfl ?_
  refine J_lload (pc := 130) D9_lasts_130 rfl ?_
  refine J_lload (pc := 132) D9_lasts_132 rfl ?_
  refine J_callSR (pc := 134) (ι := []) (ac := [.long _, .long _]) D9_lasts_134 m9_commonPart_s t1039 (c9_commonPart (d := d + 2)) (by omega) ⟨rfl, rfl⟩ rfl rfl (fun _ => rfl) rfl rfl rfl ?_
  refine J_lstore (pc := 137) D9_lasts_137 rfl ?_
  refine J_lload (pc := 139) D9_lasts_139 rfl ?_
  refine J_lconst (pc := 141) (v := 0) D9_lasts_141 (by decide) ?_
  refine J_lcmp (pc := 142) D9_lasts_142 ?_
  refine J_if_gt (pc := 143) (tgt := 150) D9_lasts_143 (by decide) (fun h143 => ?_) (fun h143 => ?_)
  · replace h143 := (lg_cmp_gt _ _).mp h143
    have h143' := Int64.not_le.mpr h143
    have hc : ¬ coL 100 (pwF 100 n) a = 0 := fun e => by rw [e] at h143; exact absurd h143 (by decide)
    refine J_iload_n (pc := 150) D9_lasts_150 rfl ?_
    refine J_if_ne (pc := 151) (tgt := 159) D9_lasts_151 (by decide) (fun h151 => ?_) (fun h151 => ?_)
    · refine J_lload (pc := 159) D9_lasts_159 rfl ?_
      refine J_lload (pc := 161) D9_lasts_161 rfl ?_
      refine J_ldiv (pc := 163) D9_lasts_163 hc ?_
      refine J_lret (pc := 164) D9_lasts_164 rfl ?_
      exact ⟨rfl, by rw [lasE, if_pos h143, if_neg h151]⟩
    · have h151' := eq_true h151
      refine J_lload (pc := 154) D9_lasts_154 rfl ?_
      refine J_goto (pc := 156) (tgt := 161) D9_lasts_156 (by decide) ?_
      refine J_lload (pc := 161) D9_lasts_161 rfl ?_
      refine J_ldiv (pc := 163) D9_lasts_163 hc ?_
      refine J_lret (pc := 164) D9_lasts_164 rfl ?_
      exact ⟨rfl, by rw [lasE, if_pos h143, if_pos h151]⟩
  · replace h143 := mt (lg_cmp_gt _ _).mpr h143
    have h143' := Int64.not_lt.mp h143
    refine J_ldc2_w (pc := 146) D9_lasts_146 t1034 ?_
    refine J_lret (pc := 149) D9_lasts_149 rfl ?_
    exact ⟨rfl, by rw [lasE, if_neg h143]⟩
theorem L9_lasts {d np nb nn : Nat} {tl hi : Int32} {T : TV} {V : CV} (hT : WT T np nb nn) {b n : Nat} {w : Int32} (hb : b < 10) (hn : n ≤ 5) : ∀ (g s : Nat) (a u : Int64), s + g = n + 1 → J m9_lasts (d + 3) 0 0 29 39 [(0, .ref 0), (1, .int (nI b)), (2, .int (nI n)), (3, .int w), (4, .long a), (6, .long u), (8, .int (nI s))] [] (tcA tl hi T V) 0 0 (fun r w' => w' = tcA tl hi T V ∧ r = some (.long (lasE (lasL (T.1 15) (V.2.2.2 2 b) n g s a u) (pwF 100 n) (coL 100 (pwF 100 n) (lasL (T.1 15) (V.2.2.2 2 b) n g s a u)) w))) := by
  intro g
  induction g with
  | zero =>
    intro s a u hs
    refine J_iload (pc := 39) D9_lasts_39 rfl ?_
    refine J_iload_n (pc := 41) D9_lasts_41 rfl ?_
    refine J_icmp_gt (pc := 42) (tgt := 121) D9_lasts_42 (by decide) (fun h42 => ?_) (fun h42 => absurd (nI_lt (by omega) (by omega)) h42)
    refine J_lk [(0, .ref 0), (1, .int (nI b)), (2, .int (nI n)), (3, .int w), (4, .long a)] rfl ?_
    exact L9_lasts121 (x0 := 0) (x1 := 0) (u := 0) hT hn
  | succ g ih =>
    intro s a u hs
    refine J_iload (pc := 39) D9_lasts_39 rfl ?_
    refine J_iload_n (pc := 41) D9_lasts_41 rfl ?_
    refine J_icmp_gt (pc := 42) (tgt := 121) D9_lasts_42 (by decide) (fun h42 => absurd h42 (Int32.not_lt.mpr (nI_le (by omega) (by omega)))) (fun h42 => ?_)
    refine J_iload (pc := 45) D9_lasts_45 rfl ?_
    refine J_aload_n (pc := 47) D9_lasts_47 rfl ?_
    refine J_getf (pc := 48) D9_lasts_48 fl9_46 rfl rfl ?_
    refine J_getf (pc := 51) D9_lasts_51 fl9_153 rfl rfl ?_
    refine J_iload_n (pc := 54) D9_lasts_54 rfl ?_
    refine J_iald (pc := 55) D9_lasts_55 rfl rfl (by omega) rfl ?_
    refine J_icmp_ge (pc := 56) (tgt := 121) D9_lasts_56 (by decide) (fun h56 => ?_) (fun h56 => ?_)
    · have h56' := Int32.not_lt.mpr h56
      rw [lasL, if_neg (Int32.not_lt.mpr h56)]
      refine J_lk [(0, .ref 0), (1, .int (nI b)), (2, .int (nI n)), (3, .int w), (4, .long a)] rfl ?_
      exact L9_lasts121 (x0 := 0) (x1 := 0) (u := 0) hT hn
    · have h56' := Int32.not_le.mp h56
      refine J_lload (pc := 59) D9_lasts_59 rfl ?_
      refine J_lload (pc := 61) D9_lasts_61 rfl ?_
      refine J_aload_n (pc := 63) D9_lasts_63 rfl ?_
      refine J_getf (pc := 64) D9_lasts_64 fl9_18 rfl rfl ?_
      refine J_getf (pc := 67) D9_lasts_67 fl9_323 rfl rfl ?_
      refine J_i2l (pc := 70) D9_lasts_70 ?_
      refine J_iload (pc := 71) D9_lasts_71 rfl ?_
      refine J_callSR (pc := 73) (ι := []) (ac := [.long _, .int _]) (rest := [_, _]) D9_lasts_73 m9_power_s t1035 (c9_power (d := d + 2) (n := s) (by omega)) (by omega) ⟨rfl, rfl⟩ rfl rfl (fun _ => rfl) rfl rfl rfl ?_
      refine J_lmul (pc := 76) D9_lasts_76 ?_
      refine J_bipush (pc := 77) (v := (nI 100)) D9_lasts_77 (by decide) ?_
      refine J_aload_n (pc := 79) D9_lasts_79 rfl ?_
      refine J_getf (pc := 80) D9_lasts_80 fl9_18 rfl rfl ?_
      refine J_getf (pc := 83) D9_lasts_83 fl9_323 rfl rfl ?_
      refine J_isub (pc := 86) D9_lasts_86 ?_
      refine J_i2l (pc := 87) D9_lasts_87 ?_
      refine J_iload_n (pc := 88) D9_lasts_88 rfl ?_
      refine J_iload (pc := 89) D9_lasts_89 rfl ?_
      refine J_isub (pc := 91) D9_lasts_91 ?_
      refine J_st [.int (nI (n - s)), .long (nI 100 - T.1 15).toInt64, .long (u * pwF (T.1 15).toInt64 s), .long a] (by rw [← show nI n - nI s = nI (n - s) from pk_sub (by omega)]; try rfl) ?_
      refine J_callSR (pc := 92) (ι := []) (ac := [.long _, .int _]) (rest := [_, _]) D9_lasts_92 m9_power_s t1035 (c9_power (d := d + 2) (n := n - s) (by omega)) (by omega) ⟨rfl, rfl⟩ rfl rfl (fun _ => rfl) rfl rfl rfl ?_
      refine J_lmul (pc := 95) D9_lasts_95 ?_
      refine J_ladd (pc := 96) D9_lasts_96 ?_
      refine J_lstore (pc := 97) D9_lasts_97 rfl ?_
      refine J_lload (pc := 99) D9_lasts_99 rfl ?_
      refine J_iload_n (pc := 101) D9_lasts_101 rfl ?_
      refine J_iload (pc := 102) D9_lasts_102 rfl ?_
      refine J_isub (pc := 104) D9_lasts_104 ?_
      refine J_st [.int (nI (n - s)), .long u] (by rw [← show nI n - nI s = nI (n - s) from pk_sub (by omega)]; try rfl) ?_
      refine J_i2l (pc := 105) D9_lasts_105 ?_
      refine J_lmul (pc := 106) D9_lasts_106 ?_
      refine J_iload (pc := 107) D9_lasts_107 rfl ?_
      refine J_iconst (pc := 109) (v := (nI 1)) D9_lasts_109 (by decide) ?_
      refine J_iadd (pc := 110) D9_lasts_110 ?_
      refine J_st [.int (nI (s + 1)), .long (u * (nI (n - s)).toInt64)] (by rw [← show nI s + nI 1 = nI (s + 1) from nI_1 _]; try rfl) ?_
      refine J_i2l (pc := 111) D9_lasts_111 ?_
      refine J_ldiv (pc := 112) D9_lasts_112 (s1_nz s (by omega)) ?_
      refine J_lstore (pc := 113) D9_lasts_113 rfl ?_
      refine J_iinc (pc := 115) D9_lasts_115 rfl (nI_inc _) rfl ?_
      refine J_goto (pc := 118) (tgt := 39) D9_lasts_118 (by decide) ?_
      rw [lasL, if_pos h56']
      exact ih (s + 1) _ _ (by omega)
theorem c9_lasts {d np nb nn : Nat} {tl hi : Int32} {T : TV} {V : CV} (hT : WT T np nb nn) {x m w : Int32} : TR (d + 4) m9_lasts [.ref 0, .int x, .int m, .int w] (tcA tl hi T V) (.long (lasF T V nb x m w)) := by
  have hnb := hT.2.2.2.2.1
  refine Tr.intro (by decide) rfl ?_
  refine J_aload_n (pc := 0) D9_lasts_0 rfl ?_
  refine J_iload_n (pc := 1) D9_lasts_1 rfl ?_
  refine J_callVTR (pc := 2) (ac := [.int _]) D9_lasts_2 m9_isLyingBottle_v t750 (c9_isLyingBottle (d := d + 1) hT) (by omega) rfl rfl rfl rfl (fun _ => rfl) rfl rfl rfl ?_
  refine J_if_eq (pc := 5) (tgt := 26) D9_lasts_5 (by decide) (fun h5 => ?_) (fun h5 => ?_)
  · have h5' := eq_true h5
    replace h5 := i01_z h5
    refine J_ldc2_w (pc := 26) D9_lasts_26 t1034 ?_
    refine J_lret (pc := 29) D9_lasts_29 rfl ?_
    exact ⟨rfl, by rw [lasF, if_neg (fun q => h5 q.1)]⟩
  · replace h5 := i01_nz h5
    refine J_iload_n (pc := 8) D9_lasts_8 rfl ?_
    refine J_iconst (pc := 9) (v := (nI 0)) D9_lasts_9 (by decide) ?_
    refine J_iconst (pc := 10) (v := (nI 5)) D9_lasts_10 (by decide) ?_
    refine J_callSR (pc := 11) (ι := []) (ac := [.int _, .int _, .int _]) D9_lasts_11 m9_isAmong_s t712 (c9_isAmong (d := d + 3)) (by omega) ⟨rfl, rfl⟩ rfl rfl (fun _ => rfl) rfl rfl rfl ?_
    refine J_st [.int (i01 (ixB 6 m = true))] (by rw [← ixB_m (n := 5) (by decide)]; try rfl) ?_
    refine J_if_eq (pc := 14) (tgt := 26) D9_lasts_14 (by decide) (fun h14 => ?_) (fun h14 => ?_)
    · have h14' := eq_true h14
      replace h14 := i01_z h14
      refine J_ldc2_w (pc := 26) D9_lasts_26 t1034 ?_
      refine J_lret (pc := 29) D9_lasts_29 rfl ?_
      exact ⟨rfl, by rw [lasF, if_neg (fun q => h14 q.2.1)]⟩
    · replace h14 := i01_nz h14
      refine J_iload_n (pc := 17) D9_lasts_17 rfl ?_
      refine J_iconst (pc := 18) (v := (nI 0)) D9_lasts_18 (by decide) ?_
      refine J_iconst (pc := 19) (v := (nI 1)) D9_lasts_19 (by decide) ?_
      refine J_callSR (pc := 20) (ι := []) (ac := [.int _, .int _, .int _]) D9_lasts_20 m9_isAmong_s t712 (c9_isAmong (d := d + 3)) (by omega) ⟨rfl, rfl⟩ rfl rfl (fun _ => rfl) rfl rfl rfl ?_
      refine J_st [.int (i01 (ixB 2 w = true))] (by rw [← ixB_m (n := 1) (by decide)]; try rfl) ?_
      refine J_if_ne (pc := 23) (tgt := 30) D9_lasts_23 (by decide) (fun h23 => ?_) (fun h23 => ?_)
      · replace h23 := i01_nz h23
        refine J_lconst (pc := 30) (v := 0) D9_lasts_30 (by decide) ?_
        refine J_lstore (pc := 31) D9_lasts_31 rfl ?_
        refine J_lconst (pc := 33) (v := 1) D9_lasts_33 (by decide) ?_
        refine J_lstore (pc := 34) D9_lasts_34 rfl ?_
        refine J_iconst (pc := 36) (v := (nI 0)) D9_lasts_36 (by decide) ?_
        refine J_istore (pc := 37) D9_lasts_37 rfl ?_
        rw [lasF, if_pos ⟨h5, h14, h23⟩]
        obtain ⟨b, hb, rfl, -⟩ := lyiB_t h5 hnb
        obtain ⟨n, hn, rfl⟩ := ixB_t h14 (by decide)
        rw [nI_clamp (by omega), nI_clamp (by omega)]
        exact L9_lasts (d := d + 1) hT (by omega) (by omega) (n + 1) 0 _ _ (by omega)
      · have h23' := eq_true h23
        replace h23 := i01_z h23
        refine J_ldc2_w (pc := 26) D9_lasts_26 t1034 ?_
        refine J_lret (pc := 29) D9_lasts_29 rfl ?_
        exact ⟨rfl, by rw [lasF, if_neg (fun q => h23 q.2.2)]⟩
