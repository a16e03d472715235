/-! YEARS: what goes off, needs, a whole year (own; walks by program wk.py) -/
def lvF (a : Nat → Nat → Int32) (b : Nat) (x : Int32) : Nat → Nat → Int32 := upA (upA a 3 (upd (a 3) b x)) 8 (upd (a 8) (a 0 b).toNatClampNeg (a 8 (a 0 b).toNatClampNeg - nI 1))
def lvV (V : CV) (b : Nat) (x : Int32) : CV := (V.1, V.2.1, V.2.2.1, lvF V.2.2.2 b x)
theorem lvF_e {a : Nat → Nat → Int32} {b β : Nat} {x : Int32} (h : a 0 b = nI β) (hβ : β < 6) : lvF a b x = upA (upA a 3 (upd (a 3) b x)) 8 (upd (a 8) β (a 8 β - nI 1)) := by
  unfold lvF
  rw [h, nI_clamp (by omega)]
theorem lvV_V {V : CV} {b nb : Nat} {x : Int32} (h : WV V nb) : WV (lvV V b x) nb := h
/-- a call of Cellar.leave out of Years -/
theorem yl_leave {d nb : Nat} {V : CV} {b : Nat} {x : Int32} (hV : WV V nb) (hb : b < nb) (hnb : nb ≤ 10) : Tr d 0 0 m0_leave [.ref 0, .int (nI b), .int x] (celW V) (fun r w' => r = none ∧ w' = celW (lvV V b x)) := by
  obtain ⟨β, h1, h2⟩ := hV b hb
  have := c0_leave (d := d) (y := V.1) (l := V.2.1) (th := V.2.2.1) (a := V.2.2.2) (x := x) (b := b) (by omega) h2 h1
  rw [← lvF_e h2 h1] at this
  exact this
abbrev GS : Type := CV × (Nat → Int32) × Nat
def goS (T : TV) (bin : Int32) (b : Nat) (S : GS) : GS := if S.1.2.2.2 3 b = 0 ∧ S.1.2.2.2 0 b = bin ∧ S.2.2 < 10 ∧ ¬ burF T S.1 b = 0 then (lvV S.1 b (nI 2), upd S.2.1 S.2.2 (nI b), S.2.2 + 1) else S
def goI (T : TV) (bin : Int32) : Nat → Nat → GS → GS
  | 0, _, S => S
  | g + 1, b, S => goI T bin g (b + 1) (goS T bin b S)
def goO (T : TV) (nb : Nat) : Nat → Nat → GS → GS
  | 0, _, S => S
  | g + 1, x, S => if x < S.2.2 ∧ x < 10 then goO T nb g (x + 1) (goI T (S.1.2.2.2 0 (S.2.1 x).toNatClampNeg) nb 0 S) else S
def goOffF (T : TV) (y : Int32 × Int32 × Int32) (nb : Nat) (V : CV) (b : Nat) : CV := if y.2.1 = 0 then lvV V b (nI 2) else (goO T nb 10 0 (lvV V b (nI 2), upd (fun _ => 0) 0 (nI b), 1)).1
/-- the queue holds bottles -/
def QW (q : Nat → Int32) (n nb : Nat) : Prop := n ≤ 10 ∧ ∀ j, j < n → ∃ b, b < nb ∧ q j = nI b
theorem upd_agree {k κ : Nat → Int32} {h : Nat} {v : Int32} (hk : ∀ j, j < h → k j = κ j) : ∀ j, j < h + 1 → upd k h v j = upd κ h v j := by
  intro j hj
  by_cases e : j = h
  · subst e; rw [pk_us, pk_us]
  · rw [pk_un e, pk_un e]; exact hk j (by omega)
theorem QW.push {q : Nat → Int32} {n nb b : Nat} (h : QW q n nb) (hn : n < 10) (hb : b < nb) : QW (upd q n (nI b)) (n + 1) nb := by
  refine ⟨by omega, fun j hj => ?_⟩
  by_cases e : j = n
  · subst e; exact ⟨b, hb, pk_us⟩
  · obtain ⟨b', h1, h2⟩ := h.2 j (by omega)
    exact ⟨b', h1, by rw [pk_un e]; exact h2⟩
abbrev gX (d : Nat) (y : Int32 × Int32 × Int32) (T : TV) (f : Int32) (x : Nat) (bin : Int32) (pc b : Nat) (S : GS) (q : Nat → Int32) (k : Nat → Int64) (Q : Option Value → List EC → Prop) : Prop := J m8_goOff (d + 4) 0 0 31 pc [(0, .ref 0), (1, .int f), (2, .int (nI S.2.2)), (3, .int (nI x)), (4, .int bin), (5, .int (nI b))] [] (yrsW y q k T S.1) 0 0 Q
theorem L8_goI {d np nb nn : Nat} {y : Int32 × Int32 × Int32} {T : TV} {f bin : Int32} {x : Nat} {Q : Option Value → List EC → Prop} (hT : WT T np nb nn) : ∀ (g b : Nat) (S : GS) (q : Nat → Int32) (k : Nat → Int64), b + g = nb → WV S.1 nb → QW S.2.1 S.2.2 nb → (∀ j, j < S.2.2 → q j = S.2.1 j) →
    (∀ (q' : Nat → Int32) (k' : Nat → Int64), (∀ j, j < (goI T bin g b S).2.2 → q' j = (goI T bin g b S).2.1 j) → QW (goI T bin g b S).2.1 (goI T bin g b S).2.2 nb → WV (goI T bin g b S).1 nb → gX d y T f x bin 139 nb (goI T bin g b S) q' k' Q) → gX d y T f x bin 58 b S q k Q := by
  obtain ⟨-, eb, -, -, hnb, -⟩ := id hT
  intro g
  induction g with
  | zero =>
    intro b S q k hb hV hq hk K
    have hbN : b = nb := by omega
    subst hbN
    refine J_iload (pc := 58) D8_goOff_58 rfl ?_
    refine J_aload_n (pc := 60) D8_goOff_60 rfl ?_
    refine J_getf (pc := 61) D8_goOff_61 fl8_19 rfl rfl ?_
    refine J_getf (pc := 64) D8_goOff_64 fl8_51 rfl rfl ?_
    refine J_icmp_ge (pc := 67) (tgt := 139) D8_goOff_67 (by decide) (fun h67 => ?_) (fun h67 => absurd (by rw [eb]; exact nI_le (by omega) (by omega)) h67)
    exact K q k hk hq hV
  | succ g ih =>
    intro b S q k hb hV hq hk K
    have hw := hq.1
    refine J_iload (pc := 58) D8_goOff_58 rfl ?_
    refine J_aload_n (pc := 60) D8_goOff_60 rfl ?_
    refine J_getf (pc := 61) D8_goOff_61 fl8_19 rfl rfl ?_
    refine J_getf (pc := 64) D8_goOff_64 fl8_51 rfl rfl ?_
    refine J_icmp_ge (pc := 67) (tgt := 139) D8_goOff_67 (by decide) (fun h67 => absurd h67 (by rw [eb]; exact nI_ge (by omega) (by omega))) (fun h67 => ?_)
    refine J_aload_n (pc := 70) D8_goOff_70 rfl ?_
    refine J_getf (pc := 71) D8_goOff_71 fl8_23 rfl rfl ?_
    refine J_iload (pc := 74) D8_goOff_74 rfl ?_
    refine J_callVR (pc := 76) (ι := [21, 22, 23, 24, 25, 26, 27, 28, 29, 30]) (ac := [.int _]) D8_goOff_76 m0_isLying_v t836 (c0_isLying (d := d + 3) (V := S.1) (by omega)) (by omega) rfl rfl ⟨rfl, rfl⟩ rfl rfl (fun _ => rfl) rfl rfl rfl ?_
    refine J_if_eq (pc := 79) (tgt := 133) D8_goOff_79 (by decide) (fun h79 => ?_) (fun h79 => ?_)
    · have h79' := eq_true h79
      replace h79 := i01_z h79
      refine J_iinc (pc := 133) D8_goOff_133 rfl (nI_inc _) rfl ?_
      refine J_goto (pc := 136) (tgt := 58) D8_goOff_136 (by decide) ?_
      have e : goS T bin b S = S := by rw [goS, if_neg]; rintro ⟨q1, q2, q3, q4⟩; exact h79 q1
      refine ih (b + 1) S q k (by omega) hV hq hk (fun q' k' hk' hq' hV' => ?_)
      have z := K q' k'
      rw [goI, e] at z
      exact z hk' hq' hV'
    · replace h79 := i01_nz h79
      refine J_aload_n (pc := 82) D8_goOff_82 rfl ?_
      refine J_getf (pc := 83) D8_goOff_83 fl8_23 rfl rfl ?_
      refine J_getf (pc := 86) D8_goOff_86 fl8_133 rfl rfl ?_
      refine J_iload (pc := 89) D8_goOff_89 rfl ?_
      refine J_iald (pc := 91) D8_goOff_91 rfl rfl (by omega) rfl ?_
      refine J_iload (pc := 92) D8_goOff_92 rfl ?_
      refine J_icmp_ne (pc := 94) (tgt := 133) D8_goOff_94 (by decide) (fun h94 => ?_) (fun h94 => ?_)
      · refine J_iinc (pc := 133) D8_goOff_133 rfl (nI_inc _) rfl ?_
        refine J_goto (pc := 136) (tgt := 58) D8_goOff_136 (by decide) ?_
        have e : goS T bin b S = S := by rw [goS, if_neg]; rintro ⟨q1, q2, q3, q4⟩; exact h94 q2
        refine ih (b + 1) S q k (by omega) hV hq hk (fun q' k' hk' hq' hV' => ?_)
        have z := K q' k'
        rw [goI, e] at z
        exact z hk' hq' hV'
      · have h94' := eq_true h94
        refine J_iload_n (pc := 97) D8_goOff_97 rfl ?_
        refine J_bipush (pc := 98) (v := (nI 10)) D8_goOff_98 (by decide) ?_
        refine J_icmp_ge (pc := 100) (tgt := 133) D8_goOff_100 (by decide) (fun h100 => ?_) (fun h100 => ?_)
        · have h100' := Int32.not_lt.mpr h100
          have hlt := (nI_leI (by omega) (by omega)).mp h100
          refine J_iinc (pc := 133) D8_goOff_133 rfl (nI_inc _) rfl ?_
          refine J_goto (pc := 136) (tgt := 58) D8_goOff_136 (by decide) ?_
          have e : goS T bin b S = S := by rw [goS, if_neg]; rintro ⟨q1, q2, q3, q4⟩; omega
          refine ih (b + 1) S q k (by omega) hV hq hk (fun q' k' hk' hq' hV' => ?_)
          have z := K q' k'
          rw [goI, e] at z
          exact z hk' hq' hV'
        · have h100' := Int32.not_le.mp h100
          have hlt := (nI_ltI (by omega) (by omega)).mp h100'
          refine J_aload_n (pc := 103) D8_goOff_103 rfl ?_
          refine J_iload (pc := 104) D8_goOff_104 rfl ?_
          refine J_callVT (pc := 106) (ac := [.int _]) D8_goOff_106 m8_bursts_v t862 (c8_bursts (d := d) hT hV (b := b) (by omega)) (by omega) rfl rfl rfl rfl rfl rfl rfl (fun r w' hq1 hl => ?_)
          obtain ⟨rfl, k2, rfl⟩ := hq1
          refine J_if_eq (pc := 109) (tgt := 133) D8_goOff_109 (by decide) (fun h109 => ?_) (fun h109 => ?_)
          · have h109' := eq_true h109
            refine J_iinc (pc := 133) D8_goOff_133 rfl (nI_inc _) rfl ?_
            refine J_goto (pc := 136) (tgt := 58) D8_goOff_136 (by decide) ?_
            have e : goS T bin b S = S := by rw [goS, if_neg]; rintro ⟨q1, q2, q3, q4⟩; exact q4 h109
            refine ih (b + 1) S q k2 (by omega) hV hq hk (fun q' k' hk' hq' hV' => ?_)
            have z := K q' k'
            rw [goI, e] at z
            exact z hk' hq' hV'
          · refine J_aload_n (pc := 112) D8_goOff_112 rfl ?_
            refine J_getf (pc := 113) D8_goOff_113 fl8_23 rfl rfl ?_
            refine J_iload (pc := 116) D8_goOff_116 rfl ?_
            refine J_iconst (pc := 118) (v := (nI 2)) D8_goOff_118 (by decide) ?_
            refine J_callV (pc := 119) (ι := [21, 22, 23, 24, 25, 26, 27, 28, 29, 30]) (ac := [.int _, .int _]) D8_goOff_119 m0_leave_v t861 (yl_leave (d := d + 3) (V := S.1) (x := nI 2) hV (by omega) hnb) (by omega) rfl rfl ⟨rfl, rfl⟩ rfl rfl rfl rfl rfl (fun r w' hq1 hl => ?_)
            obtain ⟨rfl, rfl⟩ := hq1
            refine J_w (w2 := yrsW y q k2 T (lvV S.1 b (nI 2))) rfl ?_
            refine J_aload_n (pc := 122) D8_goOff_122 rfl ?_
            refine J_getf (pc := 123) D8_goOff_123 fl8_9 rfl rfl ?_
            refine J_iload_n (pc := 126) D8_goOff_126 rfl ?_
            refine J_iload (pc := 127) D8_goOff_127 rfl ?_
            refine J_iast (pc := 129) D8_goOff_129 rfl rfl (by omega) rfl ?_
            refine J_iinc (pc := 130) D8_goOff_130 rfl (nI_inc _) rfl ?_
            refine J_iinc (pc := 133) D8_goOff_133 rfl (nI_inc _) rfl ?_
            refine J_goto (pc := 136) (tgt := 58) D8_goOff_136 (by decide) ?_
            have e : goS T bin b S = (lvV S.1 b (nI 2), upd S.2.1 S.2.2 (nI b), S.2.2 + 1) := by rw [goS, if_pos ⟨h79, h94, hlt, h109⟩]
            refine J_w (w2 := yrsW y (upd q S.2.2 (nI b)) k2 T (lvV S.1 b (nI 2))) rfl ?_
            refine ih (b + 1) (lvV S.1 b (nI 2), upd S.2.1 S.2.2 (nI b), S.2.2 + 1) (upd q S.2.2 (nI b)) k2 (by omega) (lvV_V hV) (hq.push hlt (by omega)) (upd_agree hk) (fun q' k' hk' hq' hV' => ?_)
            have z := K q' k'
            rw [goI, e] at z
            exact z hk' hq' hV'
theorem L8_goO {d np nb nn : Nat} {y : Int32 × Int32 × Int32} {T : TV} {f : Int32} (hT : WT T np nb nn) : ∀ (g x : Nat) (S : GS) (q : Nat → Int32) (k : Nat → Int64), x + g = 10 → WV S.1 nb → QW S.2.1 S.2.2 nb → (∀ j, j < S.2.2 → q j = S.2.1 j) →
    J m8_goOff (d + 4) 0 0 31 28 [(0, .ref 0), (1, .int f), (2, .int (nI S.2.2)), (3, .int (nI x))] [] (yrsW y q k T S.1) 0 0 (fun r w' => r = none ∧ ∃ q' k', w' = yrsW y q' k' T (goO T nb g x S).1) := by
  obtain ⟨-, eb, -, -, hnb, -⟩ := id hT
  intro g
  induction g with
  | zero =>
    intro x S q k hx hV hq hk
    have hw := hq.1
    refine J_iload_n (pc := 28) D8_goOff_28 rfl ?_
    refine J_iload_n (pc := 29) D8_goOff_29 rfl ?_
    refine J_icmp_ge (pc := 30) (tgt := 145) D8_goOff_30 (by decide) (fun h30 => ?_) (fun h30 => absurd (nI_le (by omega) (by omega)) h30)
    refine J_vret (pc := 145) D8_goOff_145 rfl ?_
    exact ⟨rfl, q, k, rfl⟩
  | succ g ih =>
    intro x S q k hx hV hq hk
    have hw := hq.1
    refine J_iload_n (pc := 28) D8_goOff_28 rfl ?_
    refine J_iload_n (pc := 29) D8_goOff_29 rfl ?_
    refine J_icmp_ge (pc := 30) (tgt := 145) D8_goOff_30 (by decide) (fun h30 => ?_) (fun h30 => ?_)
    · have h30' := Int32.not_lt.mpr h30
      have hlt := (nI_leI (by omega) (by omega)).mp h30
      refine J_vret (pc := 145) D8_goOff_145 rfl ?_
      exact ⟨rfl, q, k, by rw [goO, if_neg (by omega)]⟩
    · have h30' := Int32.not_le.mp h30
      have hlt := (nI_ltI (by omega) (by omega)).mp h30'
      obtain ⟨b1, hb1, e1⟩ := hq.2 x hlt
      refine J_iload_n (pc := 33) D8_goOff_33 rfl ?_
      refine J_bipush (pc := 34) (v := (nI 10)) D8_goOff_34 (by decide) ?_
      refine J_icmp_ge (pc := 36) (tgt := 145) D8_goOff_36 (by decide) (fun h36 => absurd h36 (nI_ge (by omega) (by omega))) (fun h36 => ?_)
      refine J_aload_n (pc := 39) D8_goOff_39 rfl ?_
      refine J_getf (pc := 40) D8_goOff_40 fl8_23 rfl rfl ?_
      refine J_getf (pc := 43) D8_goOff_43 fl8_133 rfl rfl ?_
      refine J_aload_n (pc := 46) D8_goOff_46 rfl ?_
      refine J_getf (pc := 47) D8_goOff_47 fl8_9 rfl rfl ?_
      refine J_iload_n (pc := 50) D8_goOff_50 rfl ?_
      refine J_iald (pc := 51) D8_goOff_51 rfl rfl (by omega) rfl ?_
      refine J_iald (pc := 52) D8_goOff_52 rfl ((hk x hlt).trans e1) (by omega) rfl ?_
      refine J_istore (pc := 53) D8_goOff_53 rfl ?_
      refine J_iconst (pc := 55) (v := (nI 0)) D8_goOff_55 (by decide) ?_
      refine J_istore (pc := 56) D8_goOff_56 rfl ?_
      refine L8_goI hT nb 0 S q k (by omega) hV hq hk (fun q2 k2 hk2 hq2 hV2 => ?_)
      rw [goO, if_pos ⟨hlt, by omega⟩, e1, nI_clamp (by omega)]
      refine J_iinc (pc := 139) D8_goOff_139 rfl (nI_inc _) rfl ?_
      refine J_goto (pc := 142) (tgt := 28) D8_goOff_142 (by decide) ?_
      refine J_lk [(0, .ref 0), (1, .int f), (2, .int (nI (goI T (S.1.2.2.2 0 b1) nb 0 S).2.2)), (3, .int (nI (x + 1)))] rfl ?_
      exact ih (x + 1) _ q2 k2 (by omega) hV2 hq2 hk2
theorem c8_goOff {d np nb nn : Nat} {y : Int32 × Int32 × Int32} {q : Nat → Int32} {k : Nat → Int64} {T : TV} {V : CV} {b : Nat} (hT : WT T np nb nn) (hV : WV V nb) (hb : b < nb) : Tr (d + 4) 0 0 m8_goOff [.ref 0, .int (nI b)] (yrsW y q k T V) (fun r w' => r = none ∧ ∃ q' k', w' = yrsW y q' k' T (goOffF T y nb V b)) := by
  have hnb := hT.2.2.2.2.1
  refine Tr.intro (by decide) rfl ?_
  refine J_aload_n (pc := 0) D8_goOff_0 rfl ?_
  refine J_getf (pc := 1) D8_goOff_1 fl8_23 rfl rfl ?_
  refine J_iload_n (pc := 4) D8_goOff_4 rfl ?_
  refine J_iconst (pc := 5) (v := (nI 2)) D8_goOff_5 (by decide) ?_
  refine J_callV (pc := 6) (ι := [21, 22, 23, 24, 25, 26, 27, 28, 29, 30]) (ac := [.int _, .int _]) D8_goOff_6 m0_leave_v t861 (yl_leave (d := d + 3) (V := V) (x := nI 2) hV hb hnb) (by omega) rfl rfl ⟨rfl, rfl⟩ rfl rfl rfl rfl rfl (fun r w' hq hl => ?_)
  obtain ⟨rfl, rfl⟩ := hq
  refine J_w (w2 := yrsW y q k T (lvV V b (nI 2))) rfl ?_
  refine J_aload_n (pc := 9) D8_goOff_9 rfl ?_
  refine J_getf (pc := 10) D8_goOff_10 fl8_31 rfl rfl ?_
  refine J_if_ne (pc := 13) (tgt := 17) D8_goOff_13 (by decide) (fun h13 => ?_) (fun h13 => ?_)
  · refine J_aload_n (pc := 17) D8_goOff_17 rfl ?_
    refine J_getf (pc := 18) D8_goOff_18 fl8_9 rfl rfl ?_
    refine J_iconst (pc := 21) (v := (nI 0)) D8_goOff_21 (by decide) ?_
    refine J_iload_n (pc := 22) D8_goOff_22 rfl ?_
    refine J_iast (pc := 23) D8_goOff_23 rfl rfl (by omega) rfl ?_
    refine J_iconst (pc := 24) (v := (nI 1)) D8_goOff_24 (by decide) ?_
    refine J_istore_n (pc := 25) D8_goOff_25 rfl ?_
    refine J_iconst (pc := 26) (v := (nI 0)) D8_goOff_26 (by decide) ?_
    refine J_istore_n (pc := 27) D8_goOff_27 rfl ?_
    refine J_w (w2 := yrsW y (upd q 0 (nI b)) k T (lvV V b (nI 2))) rfl ?_
    have z := L8_goO (d := d) (y := y) (f := nI b) hT 10 0 (lvV V b (nI 2), upd (fun _ => 0) 0 (nI b), 1) (upd q 0 (nI b)) k (by omega) (lvV_V hV) ⟨by show 1 ≤ 10; decide, fun j hj => ⟨b, hb, by have : j = 0 := by { have h9 : j < 1 := hj; omega }; subst this; rfl⟩⟩ (fun j hj => by have : j = 0 := by { have h9 : j < 1 := hj; omega }; subst this; rfl)
    rw [goOffF, if_neg h13]
    exact z
  · have h13' := eq_true h13
    refine J_vret (pc := 16) D8_goOff_16 rfl ?_
    exact ⟨rfl, q, k, by rw [goOffF, if_pos h13]⟩
def wkI : Option Nat → Int32
  | none => -1
  | some w => nI w
theorem wkI_n {o : Option Nat} (h : wkI o = -1) (hb : ∀ w, o = some w → w < 10) : o = none := by
  cases o with
  | none => rfl
  | some w =>
    have hw := hb w rfl
    exact absurd (show nI w < 0 by rw [show nI w = -1 from h]; decide) (nI_pos (by omega))
theorem wkI_s {o : Option Nat} (h : ¬ wkI o = -1) : ∃ w, o = some w := by
  cases o with
  | none => exact absurd rfl h
  | some w => exact ⟨w, rfl⟩
def wkS (T : TV) (V : CV) (n : Nat) (ow : Int32) (b : Nat) (ac : Option Nat) : Option Nat :=
  if V.2.2.2 3 b = 0 ∧ i01 (T.2.1 5 b = T.2.1 11 n) = ow ∧ (T.2.1 13 n ≤ V.2.2.2 1 b ∧ V.2.2.2 1 b ≤ T.2.1 14 n) ∧ (∀ w, ac = some w → V.2.2.2 1 b < V.2.2.2 1 w) then some b else ac
def wkL (T : TV) (V : CV) (n : Nat) (ow : Int32) : Nat → Nat → Option Nat → Option Nat
  | 0, _, ac => ac
  | g + 1, b, ac => wkL T V n ow g (b + 1) (wkS T V n ow b ac)

theorem L8_weakest {d np nb nn : Nat} {y : Int32 × Int32 × Int32} {q : Nat → Int32} {k : Nat → Int64} {T : TV} {V : CV} {n : Nat} {ow : Int32} (hT : WT T np nb nn) (hn : n < nn) : ∀ (g b : Nat) (ac : Option Nat), b + g = nb → (∀ w, ac = some w → w < nb) →
    J m8_weakest (d + 1) 0 0 31 5 [(0, .ref 0), (1, .int (nI n)), (2, .int ow), (3, .int (wkI ac)), (4, .int (nI b))] [] (yrsW y q k T V) 0 0 (fun r w' => w' = yrsW y q k T V ∧ r = some (.int (wkI (wkL T V n ow g b ac)))) := by
  obtain ⟨-, eb, -, -, hnb, hnn, -⟩ := id hT
  intro g
  induction g with
  | zero =>
    intro b ac hb hac
    refine J_iload (pc := 5) D8_weakest_5 rfl ?_
    refine J_aload_n (pc := 7) D8_weakest_7 rfl ?_
    refine J_getf (pc := 8) D8_weakest_8 fl8_19 rfl rfl ?_
    refine J_getf (pc := 11) D8_weakest_11 fl8_51 rfl rfl ?_
    refine J_icmp_ge (pc := 14) (tgt := 126) D8_weakest_14 (by decide) (fun h14 => ?_) (fun h14 => absurd (by rw [eb]; exact nI_le (by omega) (by omega)) h14)
    refine J_iload_n (pc := 126) D8_weakest_126 rfl ?_
    refine J_iret (pc := 127) D8_weakest_127 rfl ?_
    exact ⟨rfl, rfl⟩
  | succ g ih =>
    intro b ac hb hac
    refine J_iload (pc := 5) D8_weakest_5 rfl ?_
    refine J_aload_n (pc := 7) D8_weakest_7 rfl ?_
    refine J_getf (pc := 8) D8_weakest_8 fl8_19 rfl rfl ?_
    refine J_getf (pc := 11) D8_weakest_11 fl8_51 rfl rfl ?_
    refine J_icmp_ge (pc := 14) (tgt := 126) D8_weakest_14 (by decide) (fun h14 => absurd h14 (by rw [eb]; exact nI_ge (by omega) (by omega))) (fun h14 => ?_)
    refine J_aload_n (pc := 17) D8_weakest_17 rfl ?_
    refine J_getf (pc := 18) D8_weakest_18 fl8_23 rfl rfl ?_
    refine J_getf (pc := 21) D8_weakest_21 fl8_110 rfl rfl ?_
    refine J_iload (pc := 24) D8_weakest_24 rfl ?_
    refine J_iald (pc := 26) D8_weakest_26 rfl rfl (by omega) rfl ?_
    refine J_istore (pc := 27) D8_weakest_27 rfl ?_
    refine J_aload_n (pc := 29) D8_weakest_29 rfl ?_
    refine J_getf (pc := 30) D8_weakest_30 fl8_23 rfl rfl ?_
    refine J_iload (pc := 33) D8_weakest_33 rfl ?_
    refine J_callVR (pc := 35) (ι := [21, 22, 23, 24, 25, 26, 27, 28, 29, 30]) (ac := [.int _]) D8_weakest_35 m0_isLying_v t836 (c0_isLying (d := d) (V := V) (by omega)) (by omega) rfl rfl ⟨rfl, rfl⟩ rfl rfl (fun _ => rfl) rfl rfl rfl ?_
    refine J_if_eq (pc := 38) (tgt := 120) D8_weakest_38 (by decide) (fun h38 => ?_) (fun h38 => ?_)
    · have h38' := eq_true h38
      replace h38 := i01_z h38
      refine J_iinc (pc := 120) D8_weakest_120 rfl (nI_inc _) rfl ?_
      refine J_goto (pc := 123) (tgt := 5) D8_weakest_123 (by decide) ?_
      refine J_lk [(0, .ref 0), (1, .int (nI n)), (2, .int ow), (3, .int (wkI ac)), (4, .int (nI (b + 1)))] rfl ?_
      have e : wkS T V n ow b ac = ac := by rw [wkS, if_neg]; rintro ⟨q1, q2, q3, q4⟩; exact h38 q1
      rw [wkL, e]
      exact ih (b + 1) ac (by omega) hac
    · replace h38 := i01_nz h38
      refine J_aload_n (pc := 41) D8_weakest_41 rfl ?_
      refine J_getf (pc := 42) D8_weakest_42 fl8_19 rfl rfl ?_
      refine J_getf (pc := 45) D8_weakest_45 fl8_158 rfl rfl ?_
      refine J_iload (pc := 48) D8_weakest_48 rfl ?_
      refine J_iald (pc := 50) D8_weakest_50 rfl rfl (by omega) rfl ?_
      refine J_aload_n (pc := 51) D8_weakest_51 rfl ?_
      refine J_getf (pc := 52) D8_weakest_52 fl8_19 rfl rfl ?_
      refine J_getf (pc := 55) D8_weakest_55 fl8_139 rfl rfl ?_
      refine J_iload_n (pc := 58) D8_weakest_58 rfl ?_
      refine J_iald (pc := 59) D8_weakest_59 rfl rfl (by omega) rfl ?_
      refine J_icmp_ne (pc := 60) (tgt := 67) D8_weakest_60 (by decide) (fun h60 => ?_) (fun h60 => ?_)
      · refine J_iconst (pc := 67) (v := (nI 0)) D8_weakest_67 (by decide) ?_
        refine J_iload_n (pc := 68) D8_weakest_68 rfl ?_
        refine J_icmp_ne (pc := 69) (tgt := 120) D8_weakest_69 (by decide) (fun h69 => ?_) (fun h69 => ?_)
        · refine J_iinc (pc := 120) D8_weakest_120 rfl (nI_inc _) rfl ?_
          refine J_goto (pc := 123) (tgt := 5) D8_weakest_123 (by decide) ?_
          refine J_lk [(0, .ref 0), (1, .int (nI n)), (2, .int ow), (3, .int (wkI ac)), (4, .int (nI (b + 1)))] rfl ?_
          have e : wkS T V n ow b ac = ac := by rw [wkS, if_neg]; rintro ⟨q1, q2, q3, q4⟩; exact h69 (by rw [← q2, i01_f h60]; rfl)
          rw [wkL, e]
          exact ih (b + 1) ac (by omega) hac
        · have h69' := eq_true h69
          refine J_iload (pc := 72) D8_weakest_72 rfl ?_
          refine J_aload_n (pc := 74) D8_weakest_74 rfl ?_
          refine J_getf (pc := 75) D8_weakest_75 fl8_19 rfl rfl ?_
          refine J_getf (pc := 78) D8_weakest_78 fl8_161 rfl rfl ?_
          refine J_iload_n (pc := 81) D8_weakest_81 rfl ?_
          refine J_iald (pc := 82) D8_weakest_82 rfl rfl (by omega) rfl ?_
          refine J_aload_n (pc := 83) D8_weakest_83 rfl ?_
          refine J_getf (pc := 84) D8_weakest_84 fl8_19 rfl rfl ?_
          refine J_getf (pc := 87) D8_weakest_87 fl8_164 rfl rfl ?_
          refine J_iload_n (pc := 90) D8_weakest_90 rfl ?_
          refine J_iald (pc := 91) D8_weakest_91 rfl rfl (by omega) rfl ?_
          refine J_callSNR (pc := 92) (ι := []) (ac := [.int _, .int _, .int _]) (host := "TemperCellar") D8_weakest_92 m9_isAmong_s (by decide) (c9_isAmong (d := d)) (by omega) ⟨rfl, rfl⟩ rfl rfl (fun _ => rfl) rfl rfl rfl ?_
          refine J_if_eq (pc := 95) (tgt := 120) D8_weakest_95 (by decide) (fun h95 => ?_) (fun h95 => ?_)
          · have h95' := eq_true h95
            replace h95 := i01_z h95
            refine J_iinc (pc := 120) D8_weakest_120 rfl (nI_inc _) rfl ?_
            refine J_goto (pc := 123) (tgt := 5) D8_weakest_123 (by decide) ?_
            refine J_lk [(0, .ref 0), (1, .int (nI n)), (2, .int ow), (3, .int (wkI ac)), (4, .int (nI (b + 1)))] rfl ?_
            have e : wkS T V n ow b ac = ac := by rw [wkS, if_neg]; rintro ⟨q1, q2, q3, q4⟩; exact h95 q3
            rw [wkL, e]
            exact ih (b + 1) ac (by omega) hac
          · replace h95 := i01_nz h95
            refine J_iload_n (pc := 98) D8_weakest_98 rfl ?_
            refine J_iconst (pc := 99) (v := (-1)) D8_weakest_99 (by decide) ?_
            refine J_icmp_eq (pc := 100) (tgt := 117) D8_weakest_100 (by decide) (fun h100 => ?_) (fun h100 => ?_)
            · have h100' := eq_true h100
              refine J_iload (pc := 117) D8_weakest_117 rfl ?_
              refine J_istore_n (pc := 119) D8_weakest_119 rfl ?_
              refine J_iinc (pc := 120) D8_weakest_120 rfl (nI_inc _) rfl ?_
              refine J_goto (pc := 123) (tgt := 5) D8_weakest_123 (by decide) ?_
              refine J_lk [(0, .ref 0), (1, .int (nI n)), (2, .int ow), (3, .int (wkI (some b))), (4, .int (nI (b + 1)))] rfl ?_
              have e : wkS T V n ow b ac = some b := by
                rw [wkS, if_pos ⟨h38, (by rw [← h69, i01_f h60]; rfl), h95, fun w hw => nomatch ((wkI_n h100 (fun w hw => by have := hac w hw; omega)).symm.trans hw)⟩]
              rw [wkL, e]
              exact ih (b + 1) (some b) (by omega) (fun w hw => by cases hw; omega)
            · obtain ⟨w, rfl⟩ := wkI_s h100
              have hw9 := hac w rfl
              refine J_iload (pc := 103) D8_weakest_103 rfl ?_
              refine J_aload_n (pc := 105) D8_weakest_105 rfl ?_
              refine J_getf (pc := 106) D8_weakest_106 fl8_23 rfl rfl ?_
              refine J_getf (pc := 109) D8_weakest_109 fl8_110 rfl rfl ?_
              refine J_iload_n (pc := 112) D8_weakest_112 rfl ?_
              refine J_iald (pc := 113) D8_weakest_113 rfl rfl (by omega) rfl ?_
              refine J_icmp_ge (pc := 114) (tgt := 120) D8_weakest_114 (by decide) (fun h114 => ?_) (fun h114 => ?_)
              · have h114' := Int32.not_lt.mpr h114
                refine J_iinc (pc := 120) D8_weakest_120 rfl (nI_inc _) rfl ?_
                refine J_goto (pc := 123) (tgt := 5) D8_weakest_123 (by decide) ?_
                refine J_lk [(0, .ref 0), (1, .int (nI n)), (2, .int ow), (3, .int (wkI (some w))), (4, .int (nI (b + 1)))] rfl ?_
                have e : wkS T V n ow b (some w) = some w := by rw [wkS, if_neg]; rintro ⟨q1, q2, q3, q4⟩; exact h114' (q4 w rfl)
                rw [wkL, e]
                exact ih (b + 1) (some w) (by omega) hac
              · have h114' := Int32.not_le.mp h114
                refine J_iload (pc := 117) D8_weakest_117 rfl ?_
                refine J_istore_n (pc := 119) D8_weakest_119 rfl ?_
                refine J_iinc (pc := 120) D8_weakest_120 rfl (nI_inc _) rfl ?_
                refine J_goto (pc := 123) (tgt := 5) D8_weakest_123 (by decide) ?_
                refine J_lk [(0, .ref 0), (1, .int (nI n)), (2, .int ow), (3, .int (wkI (some b))), (4, .int (nI (b + 1)))] rfl ?_
                have e : wkS T V n ow b (some w) = some b := by
                  rw [wkS, if_pos ⟨h38, (by rw [← h69, i01_f h60]; rfl), h95, fun w1 hw => by cases hw; exact h114'⟩]
                rw [wkL, e]
                exact ih (b + 1) (some b) (by omega) (fun w hw => by cases hw; omega)
      · have h60' := eq_true h60
        refine J_iconst (pc := 63) (v := (nI 1)) D8_weakest_63 (by decide) ?_
        refine J_goto (pc := 64) (tgt := 68) D8_weakest_64 (by decide) ?_
        refine J_iload_n (pc := 68) D8_weakest_68 rfl ?_
        refine J_icmp_ne (pc := 69) (tgt := 120) D8_weakest_69 (by decide) (fun h69 => ?_) (fun h69 => ?_)
        · refine J_iinc (pc := 120) D8_weakest_120 rfl (nI_inc _) rfl ?_
          refine J_goto (pc := 123) (tgt := 5) D8_weakest_123 (by decide) ?_
          refine J_lk [(0, .ref 0), (1, .int (nI n)), (2, .int ow), (3, .int (wkI ac)), (4, .int (nI (b + 1)))] rfl ?_
          have e : wkS T V n ow b ac = ac := by rw [wkS, if_neg]; rintro ⟨q1, q2, q3, q4⟩; exact h69 (by rw [← q2, i01_t h60]; rfl)
          rw [wkL, e]
          exact ih (b + 1) ac (by omega) hac
        · have h69' := eq_true h69
          refine J_iload (pc := 72) D8_weakest_72 rfl ?_
          refine J_aload_n (pc := 74) D8_weakest_74 rfl ?_
          refine J_getf (pc := 75) D8_weakest_75 fl8_19 rfl rfl ?_
          refine J_getf (pc := 78) D8_weakest_78 fl8_161 rfl rfl ?_
          refine J_iload_n (pc := 81) D8_weakest_81 rfl ?_
          refine J_iald (pc := 82) D8_weakest_82 rfl rfl (by omega) rfl ?_
          refine J_aload_n (pc := 83) D8_weakest_83 rfl ?_
          refine J_getf (pc := 84) D8_weakest_84 fl8_19 rfl rfl ?_
          refine J_getf (pc := 87) D8_weakest_87 fl8_164 rfl rfl ?_
          refine J_iload_n (pc := 90) D8_weakest_90 rfl ?_
          refine J_iald (pc := 91) D8_weakest_91 rfl rfl (by omega) rfl ?_
          refine J_callSNR (pc := 92) (ι := []) (ac := [.int _, .int _, .int _]) (host := "TemperCellar") D8_weakest_92 m9_isAmong_s (by decide) (c9_isAmong (d := d)) (by omega) ⟨rfl, rfl⟩ rfl rfl (fun _ => rfl) rfl rfl rfl ?_
          refine J_if_eq (pc := 95) (tgt := 120) D8_weakest_95 (by decide) (fun h95 => ?_) (fun h95 => ?_)
          · have h95' := eq_true h95
            replace h95 := i01_z h95
            refine J_iinc (pc := 120) D8_weakest_120 rfl (nI_inc _) rfl ?_
            refine J_goto (pc := 123) (tgt := 5) D8_weakest_123 (by decide) ?_
            refine J_lk [(0, .ref 0), (1, .int (nI n)), (2, .int ow), (3, .int (wkI ac)), (4, .int (nI (b + 1)))] rfl ?_
            have e : wkS T V n ow b ac = ac := by rw [wkS, if_neg]; rintro ⟨q1, q2, q3, q4⟩; exact h95 q3
            rw [wkL, e]
            exact ih (b + 1) ac (by omega) hac
          · replace h95 := i01_nz h95
            refine J_iload_n (pc := 98) D8_weakest_98 rfl ?_
            refine J_iconst (pc := 99) (v := (-1)) D8_weakest_99 (by decide) ?_
            refine J_icmp_eq (pc := 100) (tgt := 117) D8_weakest_100 (by decide) (fun h100 => ?_) (fun h100 => ?_)
            · have h100' := eq_true h100
              refine J_iload (pc := 117) D8_weakest_117 rfl ?_
              refine J_istore_n (pc := 119) D8_weakest_119 rfl ?_
              refine J_iinc (pc := 120) D8_weakest_120 rfl (nI_inc _) rfl ?_
              refine J_goto (pc := 123) (tgt := 5) D8_weakest_123 (by decide) ?_
              refine J_lk [(0, .ref 0), (1, .int (nI n)), (2, .int ow), (3, .int (wkI (some b))), (4, .int (nI (b + 1)))] rfl ?_
              have e : wkS T V n ow b ac = some b := by
                rw [wkS, if_pos ⟨h38, (by rw [← h69, i01_t h60]; rfl), h95, fun w hw => nomatch ((wkI_n h100 (fun w hw => by have := hac w hw; omega)).symm.trans hw)⟩]
              rw [wkL, e]
              exact ih (b + 1) (some b) (by omega) (fun w hw => by cases hw; omega)
            · obtain ⟨w, rfl⟩ := wkI_s h100
              have hw9 := hac w rfl
              refine J_iload (pc := 103) D8_weakest_103 rfl ?_
              refine J_aload_n (pc := 105) D8_weakest_105 rfl ?_
              refine J_getf (pc := 106) D8_weakest_106 fl8_23 rfl rfl ?_
              refine J_getf (pc := 109) D8_weakest_109 fl8_110 rfl rfl ?_
              refine J_iload_n (pc := 112) D8_weakest_112 rfl ?_
              refine J_iald (pc := 113) D8_weakest_113 rfl rfl (by omega) rfl ?_
              refine J_icmp_ge (pc := 114) (tgt := 120) D8_weakest_114 (by decide) (fun h114 => ?_) (fun h114 => ?_)
              · have h114' := Int32.not_lt.mpr h114
                refine J_iinc (pc := 120) D8_weakest_120 rfl (nI_inc _) rfl ?_
                refine J_goto (pc := 123) (tgt := 5) D8_weakest_123 (by decide) ?_
                refine J_lk [(0, .ref 0), (1, .int (nI n)), (2, .int ow), (3, .int (wkI (some w))), (4, .int (nI (b + 1)))] rfl ?_
                have e : wkS T V n ow b (some w) = some w := by rw [wkS, if_neg]; rintro ⟨q1, q2, q3, q4⟩; exact h114' (q4 w rfl)
                rw [wkL, e]
                exact ih (b + 1) (some w) (by omega) hac
              · have h114' := Int32.not_le.mp h114
                refine J_iload (pc := 117) D8_weakest_117 rfl ?_
                refine J_istore_n (pc := 119) D8_weakest_119 rfl ?_
                refine J_iinc (pc := 120) D8_weakest_120 rfl (nI_inc _) rfl ?_
                refine J_goto (pc := 123) (tgt := 5) D8_weakest_123 (by decide) ?_
                refine J_lk [(0, .ref 0), (1, .int (nI n)), (2, .int ow), (3, .int (wkI (some b))), (4, .int (nI (b + 1)))] rfl ?_
                have e : wkS T V n ow b (some w) = some b := by
                  rw [wkS, if_pos ⟨h38, (by rw [← h69, i01_t h60]; rfl), h95, fun w1 hw => by cases hw; exact h114'⟩]
                rw [wkL, e]
                exact ih (b + 1) (some b) (by omega) (fun w hw => by cases hw; omega)
def weF (T : TV) (nb : Nat) (V : CV) (n : Nat) (ow : Int32) : Option Nat := wkL T V n ow nb 0 none
theorem c8_weakest {d np nb nn : Nat} {y : Int32 × Int32 × Int32} {q : Nat → Int32} {k : Nat → Int64} {T : TV} {V : CV} {n : Nat} {ow : Int32} (hT : WT T np nb nn) (hn : n < nn) : TR (d + 1) m8_weakest [.ref 0, .int (nI n), .int ow] (yrsW y q k T V) (.int (wkI (weF T nb V n ow))) := by
  refine Tr.intro (by decide) rfl ?_
  refine J_iconst (pc := 0) (v := (-1)) D8_weakest_0 (by decide) ?_
  refine J_istore_n (pc := 1) D8_weakest_1 rfl ?_
  refine J_iconst (pc := 2) (v := (nI 0)) D8_weakest_2 (by decide) ?_
  refine J_istore (pc := 3) D8_weakest_3 rfl ?_
  exact L8_weakest hT hn nb 0 none (by omega) (fun w hw => by cases hw)
