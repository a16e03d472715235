/-! YEARS: what goes off, needs, a whole year (own; walks by program wk.py) -/
def lvF (a : Nat → Nat → Int32) (b : Nat) (x : Int32) : Nat → Nat → Int32 := upA (upA a 3 (upd (a 3) b x)) 8 (upd (a 8) (a 0 b).toNatClampNeg (a 8 (a 0 b).toNatClampNeg - nI 1))
def lvV (V : CV) (b : Nat) (x : Int32) : CV := (V.1, V.2.1, V.2.2.1, lvF V.2.2.2 b x)
theorem lvF_e {a : Nat → Nat → Int32} {b β : Nat} {x : Int32} (h : a 0 b = nI β) (hβ : β < 6) : lvF a b x = upA (upA a 3 (upd (a 3) b x)) 8 (upd (a 8) β (a 8 β - nI 1)) := by
  unfold lvF
  rw [h, nI_clamp (by omega)]
theorem lvV_V {V : CV} {b nb : Nat} {x : Int32} (h : WV V nb) : WV (lvV V b x) nb := h
/-- a call of Cellar.leave out of Years -/
theorem yl_leave {d nb : Nat} {V : CV} {b : Nat} {x : Int32} (hV : WV V nb) (hb : b < nb) (hnb : nb ≤ 10) : Tr d 0 0 m0_leave [.ref 0, .int (nI b), .int x] (celW V) (fun r w' => r = none ∧ w' = celW (lvV V b x)) := by
  obtain ⟨β, h1, h2⟩ := hV b hb
  have := c0_leave (d := d) (y := V.1) (l := V.2.1) (th := V.2.2.1) (a := V.2.2.2) (x := x) (b := b) (by omega) h2 h1
  rw [← lvF_e h2 h1] at this
  exact this
abbrev GS : Type := CV × (Nat → Int32) × Nat
def goS (T : TV) (bin : Int32) (b : Nat) (S : GS) : GS := if S.1.2.2.2 3 b = 0 ∧ S.1.2.2.2 0 b = bin ∧ S.2.2 < 10 ∧ ¬ burF T S.1 b = 0 then (lvV S.1 b (nI 2), upd S.2.1 S.2.2 (nI b), S.2.2 + 1) else S
def goI (T : TV) (bin : Int32) : Nat → Nat → GS → GS
  | 0, _, S => S
  | g + 1, b, S => goI T bin g (b + 1) (goS T bin b S)
def goO (T : TV) (nb : Nat) : Nat → Nat → GS → GS
  | 0, _, S => S
  | g + 1, x, S => if x < S.2.2 ∧ x < 10 then goO T nb g (x + 1) (goI T (S.1.2.2.2 0 (S.2.1 x).toNatClampNeg) nb 0 S) else S
def goOffF (T : TV) (y : Int32 × Int32 × Int32) (nb : Nat) (V : CV) (b : Nat) : CV := if y.2.1 = 0 then lvV V b (nI 2) else (goO T nb 10 0 (lvV V b (nI 2), upd (fun _ => 0) 0 (nI b), 1)).1
/-- the queue holds bottles -/
def QW (q : Nat → Int32) (n nb : Nat) : Prop := n ≤ 10 ∧ ∀ j, j < n → ∃ b, b < nb ∧ q j = nI b
theorem upd_agree {k κ : Nat → Int32} {h : Nat} {v : Int32} (hk : ∀ j, j < h → k j = κ j) : ∀ j, j < h + 1 → upd k h v j = upd κ h v j := by
  intro j hj
  by_cases e : j = h
  · subst e; rw [pk_us, pk_us]
  · rw [pk_un e, pk_un e]; exact hk j (by omega)
theorem QW.push {q : Nat → Int32} {n nb b : Nat} (h : QW q n nb) (hn : n < 10) (hb : b < nb) : QW (upd q n (nI b)) (n + 1) nb := by
  refine ⟨by omega, fun j hj => ?_⟩
  by_cases e : j = n
  · subst e; exact ⟨b, hb, pk_us⟩
  · obtain ⟨b', h1, h2⟩ := h.2 j (by omega)
    exact ⟨b', h1, by rw [pk_un e]; exact h2⟩
abbrev gX (d : Nat) (y : Int32 × Int32 × Int32) (T : TV) (f : Int32) (x : Nat) (bin : Int32) (pc b : Nat) (S : GS) (q : Nat → Int32) (k : Nat → Int64) (Q : Option Value → List EC → Prop) : Prop := J m8_goOff (d + 4) 0 0 31 pc [(0, .ref 0), (1, .int f), (2, .int (nI S.2.2)), (3, .int (nI x)), (4, .int bin), (5, .int (nI b))] [] (yrsW y q k T S.1) 0 0 Q
theorem L8_goI {d np nb nn : Nat} {y : Int32 × Int32 × Int32} {T : TV} {f bin : Int32} {x : Nat} {Q : Option Value → List EC → Prop} (hT : WT T np nb nn) : ∀ (g b : Nat) (S : GS) (q : Nat → Int32) (k : Nat → Int64), b + g = nb → WV S.1 nb → QW S.2.1 S.2.2 nb → (∀ j, j < S.2.2 → q j = S.2.1 j) →
    (∀ (q' : Nat → Int32) (k' : Nat → Int64), (∀ j, j < (goI T bin g b S).2.2 → q' j = (goI T bin g b S).2.1 j) → QW (goI T bin g b S).2.1 (goI T bin g b S).2.2 nb → WV (goI T bin g b S).1 nb → gX d y T f x bin 139 nb (goI T bin g b S) q' k' Q) → gX d y T f x bin 58 b S q k Q := by
  obtain ⟨-, eb, -, -, hnb, -⟩ := id hT
  intro g
  induction g with
  | zero =>
    intro b S q k hb hV hq hk K
    have hbN : b = nb := by omega
    subst hbN
    refine J_iload (pc := 58) D8_goOff_58 rfl ?_
    refine J_aload_n (pc := 60) D8_goOff_60 rfl ?_
    refine J_getf (pc := 61) D8_goOff_61 fl8_19 rfl rfl ?_
    refine J_getf (pc := 64) D8_goOff_64 fl8_51 rfl rfl ?_
    refine J_icmp_ge (pc := 67) (tgt := 139) D8_goOff_67 (by decide) (fun h67 => ?_) (fun h67 => absurd (by rw [eb]; exact nI_le (by omega) (by omega)) h67)
    exact K q k hk hq hV
  | succ g ih =>
    intro b S q k hb hV hq hk K
    have hw := hq.1
    refine J_iload (pc := 58) D8_goOff_58 rfl ?_
    refine J_aload_n (pc := 60) D8_goOff_60 rfl ?_
    refine J_getf (pc := 61) D8_goOff_61 fl8_19 rfl rfl ?_
    refine J_getf (pc := 64) D8_goOff_64 fl8_51 rfl rfl ?_
    refine J_icmp_ge (pc := 67) (tgt := 139) D8_goOff_67 (by decide) (fun h67 => absurd h67 (by rw [eb]; exact nI_ge (by omega) (by omega))) (fun h67 => ?_)
    refine J_aload_n (pc := 70) D8_goOff_70 rfl ?_
    refine J_getf (pc := 71) D8_goOff_71 fl8_23 rfl rfl ?_
    refine J_iload (pc := 74) D8_goOff_74 rfl ?_
    refine J_callVR (pc := 76) (ι := [21, 22, 23, 24, 25, 26, 27, 28, 29, 30]) (ac := [.int _]) D8_goOff_76 m0_isLying_v t836 (c0_isLying (d := d + 3) (V := S.1) (by omega)) (by omega) rfl rfl ⟨rfl, rfl⟩ rfl rfl (fun _ => rfl) rfl rfl rfl ?_
    refine J_if_eq (pc := 79) (tgt := 133) D8_goOff_79 (by decide) (fun h79 => ?_) (fun h79 => ?_)
    · have h79' := eq_true h79
      replace h79 := i01_z h79
      refine J_iinc (pc := 133) D8_goOff_133 rfl (nI_inc _) rfl ?_
      refine J_goto (pc := 136) (tgt := 58) D8_goOff_136 (by decide) ?_
      have e : goS T bin b S = S := by rw [goS, if_neg]; rintro ⟨q1, q2, q3, q4⟩; exact h79 q1
      refine ih (b + 1) S q k (by omega) hV hq hk (fun q' k' hk' hq' hV' => ?_)
      have z := K q' k'
      rw [goI, e] at z
      exact z hk' hq' hV'
    · replace h79 := i01_nz h79
      refine J_aload_n (pc := 82) D8_goOff_82 rfl ?_
      refine J_getf (pc := 83) D8_goOff_83 fl8_23 rfl rfl ?_
      refine J_getf (pc := 86) D8_goOff_86 fl8_133 rfl rfl ?_
      refine J_iload (pc := 89) D8_goOff_89 rfl ?_
      refine J_iald (pc := 91) D8_goOff_91 rfl rfl (by omega) rfl ?_
      refine J_iload (pc := 92) D8_goOff_92 rfl ?_
      refine J_icmp_ne (pc := 94) (tgt := 133) D8_goOff_94 (by decide) (fun h94 => ?_) (fun h94 => ?_)
      · refine J_iinc (pc := 133) D8_goOff_133 rfl (nI_inc _) rfl ?_
        refine J_goto (pc := 136) (tgt := 58) D8_goOff_136 (by decide) ?_
        have e : goS T bin b S = S := by rw [goS, if_neg]; rintro ⟨q1, q2, q3, q4⟩; exact h94 q2
        refine ih (b + 1) S q k (by omega) hV hq hk (fun q' k' hk' hq' hV' => ?_)
        have z := K q' k'
        rw [goI, e] at z
        exact z hk' hq' hV'
      · have h94' := eq_true h94
        refine J_iload_n (pc := 97) D8_goOff_97 rfl ?_
        refine J_bipush (pc := 98) (v := (nI 10)) D8_goOff_98 (by decide) ?_
        refine J_icmp_ge (pc := 100) (tgt := 133) D8_goOff_100 (by decide) (fun h100 => ?_) (fun h100 => ?_)
        · have h100' := Int32.not_lt.mpr h100
          have hlt := (nI_leI (by omega) (by omega)).mp h100
          refine J_iinc (pc := 133) D8_goOff_133 rfl (nI_inc _) rfl ?_
          refine J_goto (pc := 136) (tgt := 58) D8_goOff_136 (by decide) ?_
          have e : goS T bin b S = S := by rw [goS, if_neg]; rintro ⟨q1, q2, q3, q4⟩; omega
          refine ih (b + 1) S q k (by omega) hV hq hk (fun q' k' hk' hq' hV' => ?_)
          have z := K q' k'
          rw [goI, e] at z
          exact z hk' hq' hV'
        · have h100' := Int32.not_le.mp h100
          have hlt := (nI_ltI (by omega) (by omega)).mp h100'
          refine J_aload_n (pc := 103) D8_goOff_103 rfl ?_
          refine J_iload (pc := 104) D8_goOff_104 rfl ?_
          refine J_callVT (pc := 106) (ac := [.int _]) D8_goOff_106 m8_bursts_v t862 (c8_bursts (d := d) hT hV (b := b) (by omega)) (by omega) rfl rfl rfl rfl rfl rfl rfl (fun r w' hq1 hl => ?_)
          obtain ⟨rfl, k2, rfl⟩ := hq1
          refine J_if_eq (pc := 109) (tgt := 133) D8_goOff_109 (by decide) (fun h109 => ?_) (fun h109 => ?_)
          · have h109' := eq_true h109
            refine J_iinc (pc := 133) D8_goOff_133 rfl (nI_inc _) rfl ?_
            refine J_goto (pc := 136) (tgt := 58) D8_goOff_136 (by decide) ?_
            have e : goS T bin b S = S := by rw [goS, if_neg]; rintro ⟨q1, q2, q3, q4⟩; exact q4 h109
            refine ih (b + 1) S q k2 (by omega) hV hq hk (fun q' k' hk' hq' hV' => ?_)
            have z := K q' k'
            rw [goI, e] at z
            exact z hk' hq' hV'
          · refine J_aload_n (pc := 112) D8_goOff_112 rfl ?_
            refine J_getf (pc := 113) D8_goOff_113 fl8_23 rfl rfl ?_
            refine J_iload (pc := 116) D8_goOff_116 rfl ?_
            refine J_iconst (pc := 118) (v := (nI 2)) D8_goOff_118 (by decide) ?_
            refine J_callV (pc := 119) (ι := [21, 22, 23, 24, 25, 26, 27, 28, 29, 30]) (ac := [.int _, .int _]) D8_goOff_119 m0_leave_v t861 (yl_leave (d := d + 3) (V := S.1) (x := nI 2) hV (by omega) hnb) (by omega) rfl rfl ⟨rfl, rfl⟩ rfl rfl rfl rfl rfl (fun r w' hq1 hl => ?_)
            obtain ⟨rfl, rfl⟩ := hq1
            refine J_w (w2 := yrsW y q k2 T (lvV S.1 b (nI 2))) rfl ?_
            refine J_aload_n (pc := 122) D8_goOff_122 rfl ?_
            refine J_getf (pc := 123) D8_goOff_123 fl8_9 rfl rfl ?_
            refine J_iload_n (pc := 126) D8_goOff_126 rfl ?_
            refine J_iload (pc := 127) D8_goOff_127 rfl ?_
            refine J_iast (pc := 129) D8_goOff_129 rfl rfl (by omega) rfl ?_
            refine J_iinc (pc := 130) D8_goOff_130 rfl (nI_inc _) rfl ?_
            refine J_iinc (pc := 133) D8_goOff_133 rfl (nI_inc _) rfl ?_
            refine J_goto (pc := 136) (tgt := 58) D8_goOff_136 (by decide) ?_
            have e : goS T bin b S = (lvV S.1 b (nI 2), upd S.2.1 S.2.2 (nI b), S.2.2 + 1) := by rw [goS, if_pos ⟨h79, h94, hlt, h109⟩]
            refine J_w (w2 := yrsW y (upd q S.2.2 (nI b)) k2 T (lvV S.1 b (nI 2))) rfl ?_
            refine ih (b + 1) (lvV S.1 b (nI 2), upd S.2.1 S.2.2 (nI b), S.2.2 + 1) (upd q S.2.2 (nI b)) k2 (by omega) (lvV_V hV) (hq.push hlt (by omega)) (upd_agree hk) (fun q' k' hk' hq' hV' => ?_)
            have z := K q' k'
            rw [goI, e] at z
            exact z hk' hq' hV'
