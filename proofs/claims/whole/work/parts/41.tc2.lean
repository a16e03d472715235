/-! TEMPERCELLAR: rings, rests, pours, dowries (own; walks by program wk.py) -/
def cbN (T : TV) (V : CV) (nb : Nat) (x : Int32) : Int32 := match stO T V x nb with
  | none => -1
  | some b => T.2.1 6 b
def cbF (T : TV) (V : CV) (nb : Nat) (p : Int32) : Nat → Int32 → Bool
  | 0, _ => false
  | g + 1, x => bif decide (x = -1) then false else bif decide (cbN T V nb x = p) then true else cbF T V nb p g (cbN T V nb x)
theorem L9_comesBack {d np nb nn : Nat} {tl hi : Int32} {T : TV} {V : CV} (hT : WT T np nb nn) {p : Int32} : ∀ (g s : Nat) (x : Int32), s + g = 5 → J m9_comesBack (d + 2) 0 0 29 4 [(0, .ref 0), (1, .int p), (2, .int x), (3, .int (nI s))] [] (tcA tl hi T V) 0 0 (fun r w' => w' = tcA tl hi T V ∧ r = some (.int (i01 (cbF T V nb p g x = true)))) := by
  have hnb := hT.2.2.2.2.1
  intro g
  induction g with
  | zero =>
    intro s x hs
    refine J_iload_n (pc := 4) D9_comesBack_4 rfl ?_
    refine J_iconst (pc := 5) (v := (nI 5)) D9_comesBack_5 (by decide) ?_
    refine J_icmp_ge (pc := 6) (tgt := 55) D9_comesBack_6 (by decide) (fun h6 => ?_) (fun h6 => absurd (nI_le (by omega) (by omega)) h6)
    refine J_iconst (pc := 55) (v := (nI 0)) D9_comesBack_55 (by decide) ?_
    refine J_zret (pc := 56) D9_comesBack_56 rfl (by decide) ?_
    exact ⟨rfl, rfl⟩
  | succ g ih =>
    intro s x hs
    refine J_iload_n (pc := 4) D9_comesBack_4 rfl ?_
    refine J_iconst (pc := 5) (v := (nI 5)) D9_comesBack_5 (by decide) ?_
    refine J_icmp_ge (pc := 6) (tgt := 55) D9_comesBack_6 (by decide) (fun h6 => absurd h6 (nI_ge (by omega) (by omega))) (fun h6 => ?_)
    refine J_iload_n (pc := 9) D9_comesBack_9 rfl ?_
    refine J_iconst (pc := 10) (v := (-1)) D9_comesBack_10 (by decide) ?_
    refine J_icmp_eq (pc := 11) (tgt := 55) D9_comesBack_11 (by decide) (fun h11 => ?_) (fun h11 => ?_)
    · have h11' := eq_true h11
      refine J_iconst (pc := 55) (v := (nI 0)) D9_comesBack_55 (by decide) ?_
      refine J_zret (pc := 56) D9_comesBack_56 rfl (by decide) ?_
      exact ⟨rfl, by rw [cbF, decide_eq_true h11]; rfl⟩
    · refine J_aload_n (pc := 14) D9_comesBack_14 rfl ?_
      refine J_iload_n (pc := 15) D9_comesBack_15 rfl ?_
      refine J_callVTR (pc := 16) (ac := [.int _]) D9_comesBack_16 m9_strongestOf_v t1007 (c9_strongestOf (d := d) hT) (by omega) rfl rfl rfl rfl (fun _ => rfl) rfl rfl rfl ?_
      refine J_istore (pc := 19) D9_comesBack_19 rfl ?_
      refine J_iload (pc := 21) D9_comesBack_21 rfl ?_
      refine J_iconst (pc := 23) (v := (-1)) D9_comesBack_23 (by decide) ?_
      refine J_icmp_ne (pc := 24) (tgt := 31) D9_comesBack_24 (by decide) (fun h24 => ?_) (fun h24 => ?_)
      · obtain ⟨w, eo⟩ := wkI_some h24
        have hwb := stO_lt nb w eo
        have eN : cbN T V nb x = T.2.1 6 w := by rw [cbN, eo]
        refine J_aload_n (pc := 31) D9_comesBack_31 rfl ?_
        refine J_getf (pc := 32) D9_comesBack_32 fl9_18 rfl rfl ?_
        refine J_getf (pc := 35) D9_comesBack_35 fl9_144 rfl rfl ?_
        refine J_iload (pc := 38) D9_comesBack_38 rfl ?_
        refine J_st [.int (nI w), .ref 6] (by rw [eo]; try rfl) ?_
        refine J_iald (pc := 40) D9_comesBack_40 rfl rfl (by omega) rfl ?_
        refine J_istore_n (pc := 41) D9_comesBack_41 rfl ?_
        refine J_iload_n (pc := 42) D9_comesBack_42 rfl ?_
        refine J_iload_n (pc := 43) D9_comesBack_43 rfl ?_
        refine J_icmp_ne (pc := 44) (tgt := 49) D9_comesBack_44 (by decide) (fun h44 => ?_) (fun h44 => ?_)
        · refine J_iinc (pc := 49) D9_comesBack_49 rfl (nI_inc _) rfl ?_
          refine J_goto (pc := 52) (tgt := 4) D9_comesBack_52 (by decide) ?_
          rw [cbF, decide_eq_false h11, cond_false, eN, decide_eq_false h44, cond_false]
          refine J_lk [(0, .ref 0), (1, .int p), (2, .int (T.2.1 6 w)), (3, .int (nI (s + 1)))] rfl ?_
          exact ih (s + 1) _ (by omega)
        · have h44' := eq_true h44
          refine J_iconst (pc := 47) (v := (nI 1)) D9_comesBack_47 (by decide) ?_
          refine J_zret (pc := 48) D9_comesBack_48 rfl (by decide) ?_
          exact ⟨rfl, by rw [cbF, decide_eq_false h11, cond_false, eN, decide_eq_true h44]; rfl⟩
      · have h24' := eq_true h24
        have eo := wkI_nn (n := nb) (fun w hw => stO_lt nb w hw) (by omega) h24
        have eN : cbN T V nb x = -1 := by rw [cbN, eo]
        refine J_iconst (pc := 27) (v := (-1)) D9_comesBack_27 (by decide) ?_
        refine J_goto (pc := 28) (tgt := 41) D9_comesBack_28 (by decide) ?_
        refine J_istore_n (pc := 41) D9_comesBack_41 rfl ?_
        refine J_iload_n (pc := 42) D9_comesBack_42 rfl ?_
        refine J_iload_n (pc := 43) D9_comesBack_43 rfl ?_
        refine J_icmp_ne (pc := 44) (tgt := 49) D9_comesBack_44 (by decide) (fun h44 => ?_) (fun h44 => ?_)
        · refine J_iinc (pc := 49) D9_comesBack_49 rfl (nI_inc _) rfl ?_
          refine J_goto (pc := 52) (tgt := 4) D9_comesBack_52 (by decide) ?_
          rw [cbF, decide_eq_false h11, cond_false, eN, decide_eq_false h44, cond_false]
          refine J_lk [(0, .ref 0), (1, .int p), (2, .int (-1)), (3, .int (nI (s + 1)))] rfl ?_
          exact ih (s + 1) _ (by omega)
        · have h44' := eq_true h44
          refine J_iconst (pc := 47) (v := (nI 1)) D9_comesBack_47 (by decide) ?_
          refine J_zret (pc := 48) D9_comesBack_48 rfl (by decide) ?_
          exact ⟨rfl, by rw [cbF, decide_eq_false h11, cond_false, eN, decide_eq_true h44]; rfl⟩
theorem c9_comesBack {d np nb nn : Nat} {tl hi : Int32} {T : TV} {V : CV} (hT : WT T np nb nn) {p : Int32} : TR (d + 2) m9_comesBack [.ref 0, .int p] (tcA tl hi T V) (.int (i01 (cbF T V nb p 5 p = true))) := by
  refine Tr.intro (by decide) rfl ?_
  refine J_iload_n (pc := 0) D9_comesBack_0 rfl ?_
  refine J_istore_n (pc := 1) D9_comesBack_1 rfl ?_
  refine J_iconst (pc := 2) (v := (nI 0)) D9_comesBack_2 (by decide) ?_
  refine J_istore_n (pc := 3) D9_comesBack_3 rfl ?_
  exact L9_comesBack hT 5 0 p (by omega)
def riB (T : TV) (V : CV) (nb : Nat) : Nat → Int32
  | 0 => nI 0
  | n + 1 => if cbF T V nb (nI n) 5 (nI n) = true then riB T V nb n ||| bitN n else riB T V nb n
theorem L9_ring {d np nb nn : Nat} {tl hi : Int32} {T : TV} {V : CV} (hT : WT T np nb nn) : ∀ (g b : Nat), b + g = np → J m9_ring (d + 3) 0 0 29 4 [(0, .ref 0), (1, .int (riB T V nb b)), (2, .int (nI b))] [] (tcA tl hi T V) 0 0 (fun r w' => w' = tcA tl hi T V ∧ r = some (.int (riB T V nb np))) := by
  have hnp := hT.2.2.2.1
  intro g
  induction g with
  | zero =>
    intro b hb
    have e : b = np := by omega
    refine J_iload_n (pc := 4) D9_ring_4 rfl ?_
    refine J_aload_n (pc := 5) D9_ring_5 rfl ?_
    refine J_getf (pc := 6) D9_ring_6 fl9_18 rfl rfl ?_
    refine J_getf (pc := 9) D9_ring_9 fl9_302 rfl rfl ?_
    refine J_st [.int (nI np), .int (nI b)] (by rw [← hT.1]; try rfl) ?_
    refine J_icmp_ge (pc := 12) (tgt := 35) D9_ring_12 (by decide) (fun h12 => ?_) (fun h12 => absurd (nI_le (by omega) (by omega)) h12)
    refine J_iload_n (pc := 35) D9_ring_35 rfl ?_
    refine J_iret (pc := 36) D9_ring_36 rfl ?_
    exact ⟨rfl, by rw [e]⟩
  | succ g ih =>
    intro b hb
    refine J_iload_n (pc := 4) D9_ring_4 rfl ?_
    refine J_aload_n (pc := 5) D9_ring_5 rfl ?_
    refine J_getf (pc := 6) D9_ring_6 fl9_18 rfl rfl ?_
    refine J_getf (pc := 9) D9_ring_9 fl9_302 rfl rfl ?_
    refine J_st [.int (nI np), .int (nI b)] (by rw [← hT.1]; try rfl) ?_
    refine J_icmp_ge (pc := 12) (tgt := 35) D9_ring_12 (by decide) (fun h12 => absurd h12 (nI_ge (by omega) (by omega))) (fun h12 => ?_)
    refine J_aload_n (pc := 15) D9_ring_15 rfl ?_
    refine J_iload_n (pc := 16) D9_ring_16 rfl ?_
    refine J_callVTR (pc := 17) (ac := [.int _]) D9_ring_17 m9_comesBack_v t1003 (c9_comesBack (d := d) hT) (by omega) rfl rfl rfl rfl (fun _ => rfl) rfl rfl rfl ?_
    refine J_if_eq (pc := 20) (tgt := 29) D9_ring_20 (by decide) (fun h20 => ?_) (fun h20 => ?_)
    · have h20' := eq_true h20
      replace h20 := i01_z h20
      refine J_iinc (pc := 29) D9_ring_29 rfl (nI_inc _) rfl ?_
      refine J_goto (pc := 32) (tgt := 4) D9_ring_32 (by decide) ?_
      refine J_lk [(0, .ref 0), (1, .int (riB T V nb (b + 1))), (2, .int (nI (b + 1)))] (by rw [riB, if_neg h20]; try rfl) ?_
      exact ih (b + 1) (by omega)
    · replace h20 := i01_nz h20
      refine J_iload_n (pc := 23) D9_ring_23 rfl ?_
      refine J_iconst (pc := 24) (v := (nI 1)) D9_ring_24 (by decide) ?_
      refine J_iload_n (pc := 25) D9_ring_25 rfl ?_
      refine J_ishl (pc := 26) D9_ring_26 ?_
      refine J_ior (pc := 27) D9_ring_27 ?_
      refine J_istore_n (pc := 28) D9_ring_28 rfl ?_
      refine J_iinc (pc := 29) D9_ring_29 rfl (nI_inc _) rfl ?_
      refine J_goto (pc := 32) (tgt := 4) D9_ring_32 (by decide) ?_
      refine J_lk [(0, .ref 0), (1, .int (riB T V nb (b + 1))), (2, .int (nI (b + 1)))] (by rw [riB, if_pos h20]; try rfl) ?_
      exact ih (b + 1) (by omega)
theorem c9_ring {d np nb nn : Nat} {tl hi : Int32} {T : TV} {V : CV} (hT : WT T np nb nn) : TR (d + 3) m9_ring [.ref 0] (tcA tl hi T V) (.int (riB T V nb np)) := by
  refine Tr.intro (by decide) rfl ?_
  refine J_iconst (pc := 0) (v := (nI 0)) D9_ring_0 (by decide) ?_
  refine J_istore_n (pc := 1) D9_ring_1 rfl ?_
  refine J_iconst (pc := 2) (v := (nI 0)) D9_ring_2 (by decide) ?_
  refine J_istore_n (pc := 3) D9_ring_3 rfl ?_
  exact L9_ring hT np 0 (by omega)
def gaW (own a : Int32) : Int32 := if a = 0 then own / nI 4 else own
def gaF (own oth a b : Int32) : Int32 := if b = 0 then gaW own a else gaW own a - oth / nI 2
theorem c9_gain {d : Nat} {own oth a b : Int32} : TR d m9_gain [.int own, .int oth, .int a, .int b] [] (.int (gaF own oth a b)) := by
  refine Tr.intro (by decide) rfl ?_
  refine J_iload_n (pc := 0) D9_gain_0 rfl ?_
  refine J_if_eq (pc := 1) (tgt := 8) D9_gain_1 (by decide) (fun h1 => ?_) (fun h1 => ?_)
  · have h1' := eq_true h1
    refine J_iload_n (pc := 8) D9_gain_8 rfl ?_
    refine J_iconst (pc := 9) (v := (nI 4)) D9_gain_9 (by decide) ?_
    refine J_idiv (pc := 10) D9_gain_10 (by decide) ?_
    refine J_istore (pc := 11) D9_gain_11 rfl ?_
    refine J_iload_n (pc := 13) D9_gain_13 rfl ?_
    refine J_if_eq (pc := 14) (tgt := 26) D9_gain_14 (by decide) (fun h14 => ?_) (fun h14 => ?_)
    · have h14' := eq_true h14
      refine J_iload (pc := 26) D9_gain_26 rfl ?_
      refine J_iret (pc := 28) D9_gain_28 rfl ?_
      exact ⟨rfl, by rw [gaF, gaW, if_pos h1, if_pos h14]⟩
    · refine J_iload (pc := 17) D9_gain_17 rfl ?_
      refine J_iload_n (pc := 19) D9_gain_19 rfl ?_
      refine J_iconst (pc := 20) (v := (nI 2)) D9_gain_20 (by decide) ?_
      refine J_idiv (pc := 21) D9_gain_21 (by decide) ?_
      refine J_isub (pc := 22) D9_gain_22 ?_
      refine J_goto (pc := 23) (tgt := 28) D9_gain_23 (by decide) ?_
      refine J_iret (pc := 28) D9_gain_28 rfl ?_
      exact ⟨rfl, by rw [gaF, gaW, if_pos h1, if_neg h14]⟩
  · refine J_iload_n (pc := 4) D9_gain_4 rfl ?_
    refine J_goto (pc := 5) (tgt := 11) D9_gain_5 (by decide) ?_
    refine J_istore (pc := 11) D9_gain_11 rfl ?_
    refine J_iload_n (pc := 13) D9_gain_13 rfl ?_
    refine J_if_eq (pc := 14) (tgt := 26) D9_gain_14 (by decide) (fun h14 => ?_) (fun h14 => ?_)
    · have h14' := eq_true h14
      refine J_iload (pc := 26) D9_gain_26 rfl ?_
      refine J_iret (pc := 28) D9_gain_28 rfl ?_
      exact ⟨rfl, by rw [gaF, gaW, if_neg h1, if_pos h14]⟩
    · refine J_iload (pc := 17) D9_gain_17 rfl ?_
      refine J_iload_n (pc := 19) D9_gain_19 rfl ?_
      refine J_iconst (pc := 20) (v := (nI 2)) D9_gain_20 (by decide) ?_
      refine J_idiv (pc := 21) D9_gain_21 (by decide) ?_
      refine J_isub (pc := 22) D9_gain_22 ?_
      refine J_goto (pc := 23) (tgt := 28) D9_gain_23 (by decide) ?_
      refine J_iret (pc := 28) D9_gain_28 rfl ?_
      exact ⟨rfl, by rw [gaF, gaW, if_neg h1, if_neg h14]⟩
def irX (x y a na b nb : Int32) : Bool := decide (gaF x y na b ≤ gaF x y a b) && decide (gaF y x nb a ≤ gaF y x b a)
def irF (T : TV) (V : CV) (n : Nat) (one oth w : Int32) : Bool := irX (hiF T V n one) (hiF T V n oth) (i01 (¬ w &&& nI 2 = 0)) (i01 (w &&& nI 2 = 0)) (i01 (¬ w &&& nI 1 = 0)) (i01 (w &&& nI 1 = 0))
theorem c9_isRest {d np nb nn : Nat} {tl hi : Int32} {T : TV} {V : CV} (hT : WT T np nb nn) {one oth w : Int32} : TR (d + 3) m9_isRest [.ref 0, .int one, .int oth, .int w] (tcA tl hi T V) (.int (i01 (irF T V nb one oth w = true))) := by
  refine Tr.intro (by decide) rfl ?_
  refine J_aload_n (pc := 0) D9_isRest_0 rfl ?_
  refine J_iload_n (pc := 1) D9_isRest_1 rfl ?_
  refine J_callVTR (pc := 2) (ac := [.int _]) D9_isRest_2 m9_highestForceOf_v t1019 (c9_highestForceOf (d := d) hT) (by omega) rfl rfl rfl rfl (fun _ => rfl) rfl rfl rfl ?_
  refine J_istore (pc := 5) D9_isRest_5 rfl ?_
  refine J_aload_n (pc := 7) D9_isRest_7 rfl ?_
  refine J_iload_n (pc := 8) D9_isRest_8 rfl ?_
  refine J_callVTR (pc := 9) (ac := [.int _]) D9_isRest_9 m9_highestForceOf_v t1019 (c9_highestForceOf (d := d) hT) (by omega) rfl rfl rfl rfl (fun _ => rfl) rfl rfl rfl ?_
  refine J_istore (pc := 12) D9_isRest_12 rfl ?_
  refine J_iload_n (pc := 14) D9_isRest_14 rfl ?_
  refine J_iconst (pc := 15) (v := (nI 2)) D9_isRest_15 (by decide) ?_
  refine J_iand (pc := 16) D9_isRest_16 ?_
  refine J_if_eq (pc := 17) (tgt := 24) D9_isRest_17 (by decide) (fun h17 => ?_) (fun h17 => ?_)
  · have h17' := eq_true h17
    have ea : i01 (¬ w &&& nI 2 = 0) = nI 0 := i01_f (fun q => q h17)
    have ena : i01 (w &&& nI 2 = 0) = nI 1 := i01_t h17
    refine J_iconst (pc := 24) (v := (nI 0)) D9_isRest_24 (by decide) ?_
    refine J_istore (pc := 25) D9_isRest_25 rfl ?_
    refine J_iload_n (pc := 27) D9_isRest_27 rfl ?_
    refine J_iconst (pc := 28) (v := (nI 1)) D9_isRest_28 (by decide) ?_
    refine J_iand (pc := 29) D9_isRest_29 ?_
    refine J_if_eq (pc := 30) (tgt := 37) D9_isRest_30 (by decide) (fun h30 => ?_) (fun h30 => ?_)
    · have h30' := eq_true h30
      have eb : i01 (¬ w &&& nI 1 = 0) = nI 0 := i01_f (fun q => q h30)
      have enb : i01 (w &&& nI 1 = 0) = nI 1 := i01_t h30
      refine J_iconst (pc := 37) (v := (nI 0)) D9_isRest_37 (by decide) ?_
      refine J_istore (pc := 38) D9_isRest_38 rfl ?_
      refine J_iload (pc := 40) D9_isRest_40 rfl ?_
      refine J_iload (pc := 42) D9_isRest_42 rfl ?_
      refine J_iload (pc := 44) D9_isRest_44 rfl ?_
      refine J_iload (pc := 46) D9_isRest_46 rfl ?_
      refine J_callSR (pc := 48) (ι := []) (ac := [.int _, .int _, .int _, .int _]) D9_isRest_48 m9_gain_s t1023 (c9_gain (d := d + 2)) (by omega) ⟨rfl, rfl⟩ rfl rfl (fun _ => rfl) rfl rfl rfl ?_
      refine J_iload (pc := 51) D9_isRest_51 rfl ?_
      refine J_iload (pc := 53) D9_isRest_53 rfl ?_
      refine J_iload (pc := 55) D9_isRest_55 rfl ?_
      refine J_if_ne (pc := 57) (tgt := 64) D9_isRest_57 (by decide) (fun h57 => absurd rfl h57) (fun h57 => ?_)
      refine J_iconst (pc := 60) (v := (nI 1)) D9_isRest_60 (by decide) ?_
      refine J_goto (pc := 61) (tgt := 65) D9_isRest_61 (by decide) ?_
      refine J_iload (pc := 65) D9_isRest_65 rfl ?_
      refine J_callSR (pc := 67) (ι := []) (ac := [.int _, .int _, .int _, .int _]) D9_isRest_67 m9_gain_s t1023 (c9_gain (d := d + 2)) (by omega) ⟨rfl, rfl⟩ rfl rfl (fun _ => rfl) rfl rfl rfl ?_
      refine J_icmp_lt (pc := 70) (tgt := 110) D9_isRest_70 (by decide) (fun h70 => ?_) (fun h70 => ?_)
      · have h70' := Int32.not_le.mpr h70
        refine J_iconst (pc := 110) (v := (nI 0)) D9_isRest_110 (by decide) ?_
        refine J_zret (pc := 111) D9_isRest_111 rfl (by decide) ?_
        exact ⟨rfl, by rw [irF, ea, ena, eb, enb, irX, decide_eq_false (Int32.not_le.mpr h70)]; rfl⟩
      · have h70' := Int32.not_lt.mp h70
        refine J_iload (pc := 73) D9_isRest_73 rfl ?_
        refine J_iload (pc := 75) D9_isRest_75 rfl ?_
        refine J_iload (pc := 77) D9_isRest_77 rfl ?_
        refine J_iload (pc := 79) D9_isRest_79 rfl ?_
        refine J_callSR (pc := 81) (ι := []) (ac := [.int _, .int _, .int _, .int _]) D9_isRest_81 m9_gain_s t1023 (c9_gain (d := d + 2)) (by omega) ⟨rfl, rfl⟩ rfl rfl (fun _ => rfl) rfl rfl rfl ?_
        refine J_iload (pc := 84) D9_isRest_84 rfl ?_
        refine J_iload (pc := 86) D9_isRest_86 rfl ?_
        refine J_iload (pc := 88) D9_isRest_88 rfl ?_
        refine J_if_ne (pc := 90) (tgt := 97) D9_isRest_90 (by decide) (fun h90 => absurd rfl h90) (fun h90 => ?_)
        refine J_iconst (pc := 93) (v := (nI 1)) D9_isRest_93 (by decide) ?_
        refine J_goto (pc := 94) (tgt := 98) D9_isRest_94 (by decide) ?_
        refine J_iload (pc := 98) D9_isRest_98 rfl ?_
        refine J_callSR (pc := 100) (ι := []) (ac := [.int _, .int _, .int _, .int _]) D9_isRest_100 m9_gain_s t1023 (c9_gain (d := d + 2)) (by omega) ⟨rfl, rfl⟩ rfl rfl (fun _ => rfl) rfl rfl rfl ?_
        refine J_icmp_lt (pc := 103) (tgt := 110) D9_isRest_103 (by decide) (fun h103 => ?_) (fun h103 => ?_)
        · have h103' := Int32.not_le.mpr h103
          refine J_iconst (pc := 110) (v := (nI 0)) D9_isRest_110 (by decide) ?_
          refine J_zret (pc := 111) D9_isRest_111 rfl (by decide) ?_
          exact ⟨rfl, by rw [irF, ea, ena, eb, enb, irX, decide_eq_true h70', decide_eq_false (Int32.not_le.mpr h103)]; rfl⟩
        · have h103' := Int32.not_lt.mp h103
          refine J_iconst (pc := 106) (v := (nI 1)) D9_isRest_106 (by decide) ?_
          refine J_goto (pc := 107) (tgt := 111) D9_isRest_107 (by decide) ?_
          refine J_zret (pc := 111) D9_isRest_111 rfl (by decide) ?_
          exact ⟨rfl, by rw [irF, ea, ena, eb, enb, irX, decide_eq_true h70', decide_eq_true h103']; rfl⟩
    · have eb : i01 (¬ w &&& nI 1 = 0) = nI 1 := i01_t h30
      have enb : i01 (w &&& nI 1 = 0) = nI 0 := i01_f h30
      refine J_iconst (pc := 33) (v := (nI 1)) D9_isRest_33 (by decide) ?_
      refine J_goto (pc := 34) (tgt := 38) D9_isRest_34 (by decide) ?_
      refine J_istore (pc := 38) D9_isRest_38 rfl ?_
      refine J_iload (pc := 40) D9_isRest_40 rfl ?_
      refine J_iload (pc := 42) D9_isRest_42 rfl ?_
      refine J_iload (pc := 44) D9_isRest_44 rfl ?_
      refine J_iload (pc := 46) D9_isRest_46 rfl ?_
      refine J_callSR (pc := 48) (ι := []) (ac := [.int _, .int _, .int _, .int _]) D9_isRest_48 m9_gain_s t1023 (c9_gain (d := d + 2)) (by omega) ⟨rfl, rfl⟩ rfl rfl (fun _ => rfl) rfl rfl rfl ?_
      refine J_iload (pc := 51) D9_isRest_51 rfl ?_
      refine J_iload (pc := 53) D9_isRest_53 rfl ?_
      refine J_iload (pc := 55) D9_isRest_55 rfl ?_
      refine J_if_ne (pc := 57) (tgt := 64) D9_isRest_57 (by decide) (fun h57 => absurd rfl h57) (fun h57 => ?_)
      refine J_iconst (pc := 60) (v := (nI 1)) D9_isRest_60 (by decide) ?_
      refine J_goto (pc := 61) (tgt := 65) D9_isRest_61 (by decide) ?_
      refine J_iload (pc := 65) D9_isRest_65 rfl ?_
      refine J_callSR (pc := 67) (ι := []) (ac := [.int _, .int _, .int _, .int _]) D9_isRest_67 m9_gain_s t1023 (c9_gain (d := d + 2)) (by omega) ⟨rfl, rfl⟩ rfl rfl (fun _ => rfl) rfl rfl rfl ?_
      refine J_icmp_lt (pc := 70) (tgt := 110) D9_isRest_70 (by decide) (fun h70 => ?_) (fun h70 => ?_)
      · have h70' := Int32.not_le.mpr h70
        refine J_iconst (pc := 110) (v := (nI 0)) D9_isRest_110 (by decide) ?_
        refine J_zret (pc := 111) D9_isRest_111 rfl (by decide) ?_
        exact ⟨rfl, by rw [irF, ea, ena, eb, enb, irX, decide_eq_false (Int32.not_le.mpr h70)]; rfl⟩
      · have h70' := Int32.not_lt.mp h70
        refine J_iload (pc := 73) D9_isRest_73 rfl ?_
        refine J_iload (pc := 75) D9_isRest_75 rfl ?_
        refine J_iload (pc := 77) D9_isRest_77 rfl ?_
        refine J_iload (pc := 79) D9_isRest_79 rfl ?_
        refine J_callSR (pc := 81) (ι := []) (ac := [.int _, .int _, .int _, .int _]) D9_isRest_81 m9_gain_s t1023 (c9_gain (d := d + 2)) (by omega) ⟨rfl, rfl⟩ rfl rfl (fun _ => rfl) rfl rfl rfl ?_
        refine J_iload (pc := 84) D9_isRest_84 rfl ?_
        refine J_iload (pc := 86) D9_isRest_86 rfl ?_
        refine J_iload (pc := 88) D9_isRest_88 rfl ?_
        refine J_if_ne (pc := 90) (tgt := 97) D9_isRest_90 (by decide) (fun h90 => ?_) (fun h90 => absurd h90 (by decide))
        refine J_iconst (pc := 97) (v := (nI 0)) D9_isRest_97 (by decide) ?_
        refine J_iload (pc := 98) D9_isRest_98 rfl ?_
        refine J_callSR (pc := 100) (ι := []) (ac := [.int _, .int _, .int _, .int _]) D9_isRest_100 m9_gain_s t1023 (c9_gain (d := d + 2)) (by omega) ⟨rfl, rfl⟩ rfl rfl (fun _ => rfl) rfl rfl rfl ?_
        refine J_icmp_lt (pc := 103) (tgt := 110) D9_isRest_103 (by decide) (fun h103 => ?_) (fun h103 => ?_)
        · have h103' := Int32.not_le.mpr h103
          refine J_iconst (pc := 110) (v := (nI 0)) D9_isRest_110 (by decide) ?_
          refine J_zret (pc := 111) D9_isRest_111 rfl (by decide) ?_
          exact ⟨rfl, by rw [irF, ea, ena, eb, enb, irX, decide_eq_true h70', decide_eq_false (Int32.not_le.mpr h103)]; rfl⟩
        · have h103' := Int32.not_lt.mp h103
          refine J_iconst (pc := 106) (v := (nI 1)) D9_isRest_106 (by decide) ?_
          refine J_goto (pc := 107) (tgt := 111) D9_isRest_107 (by decide) ?_
          refine J_zret (pc := 111) D9_isRest_111 rfl (by decide) ?_
          exact ⟨rfl, by rw [irF, ea, ena, eb, enb, irX, decide_eq_true h70', decide_eq_true h103']; rfl⟩
  · have ea : i01 (¬ w &&& nI 2 = 0) = nI 1 := i01_t h17
    have ena : i01 (w &&& nI 2 = 0) = nI 0 := i01_f h17
    refine J_iconst (pc := 20) (v := (nI 1)) D9_isRest_20 (by decide) ?_
    refine J_goto (pc := 21) (tgt := 25) D9_isRest_21 (by decide) ?_
    refine J_istore (pc := 25) D9_isRest_25 rfl ?_
    refine J_iload_n (pc := 27) D9_isRest_27 rfl ?_
    refine J_iconst (pc := 28) (v := (nI 1)) D9_isRest_28 (by decide) ?_
    refine J_iand (pc := 29) D9_isRest_29 ?_
    refine J_if_eq (pc := 30) (tgt := 37) D9_isRest_30 (by decide) (fun h30 => ?_) (fun h30 => ?_)
    · have h30' := eq_true h30
      have eb : i01 (¬ w &&& nI 1 = 0) = nI 0 := i01_f (fun q => q h30)
      have enb : i01 (w &&& nI 1 = 0) = nI 1 := i01_t h30
      refine J_iconst (pc := 37) (v := (nI 0)) D9_isRest_37 (by decide) ?_
      refine J_istore (pc := 38) D9_isRest_38 rfl ?_
      refine J_iload (pc := 40) D9_isRest_40 rfl ?_
      refine J_iload (pc := 42) D9_isRest_42 rfl ?_
      refine J_iload (pc := 44) D9_isRest_44 rfl ?_
      refine J_iload (pc := 46) D9_isRest_46 rfl ?_
      refine J_callSR (pc := 48) (ι := []) (ac := [.int _, .int _, .int _, .int _]) D9_isRest_48 m9_gain_s t1023 (c9_gain (d := d + 2)) (by omega) ⟨rfl, rfl⟩ rfl rfl (fun _ => rfl) rfl rfl rfl ?_
      refine J_iload (pc := 51) D9_isRest_51 rfl ?_
      refine J_iload (pc := 53) D9_isRest_53 rfl ?_
      refine J_iload (pc := 55) D9_isRest_55 rfl ?_
      refine J_if_ne (pc := 57) (tgt := 64) D9_isRest_57 (by decide) (fun h57 => ?_) (fun h57 => absurd h57 (by decide))
      refine J_iconst (pc := 64) (v := (nI 0)) D9_isRest_64 (by decide) ?_
      refine J_iload (pc := 65) D9_isRest_65 rfl ?_
      refine J_callSR (pc := 67) (ι := []) (ac := [.int _, .int _, .int _, .int _]) D9_isRest_67 m9_gain_s t1023 (c9_gain (d := d + 2)) (by omega) ⟨rfl, rfl⟩ rfl rfl (fun _ => rfl) rfl rfl rfl ?_
      refine J_icmp_lt (pc := 70) (tgt := 110) D9_isRest_70 (by decide) (fun h70 => ?_) (fun h70 => ?_)
      · have h70' := Int32.not_le.mpr h70
        refine J_iconst (pc := 110) (v := (nI 0)) D9_isRest_110 (by decide) ?_
        refine J_zret (pc := 111) D9_isRest_111 rfl (by decide) ?_
        exact ⟨rfl, by rw [irF, ea, ena, eb, enb, irX, decide_eq_false (Int32.not_le.mpr h70)]; rfl⟩
      · have h70' := Int32.not_lt.mp h70
        refine J_iload (pc := 73) D9_isRest_73 rfl ?_
        refine J_iload (pc := 75) D9_isRest_75 rfl ?_
        refine J_iload (pc := 77) D9_isRest_77 rfl ?_
        refine J_iload (pc := 79) D9_isRest_79 rfl ?_
        refine J_callSR (pc := 81) (ι := []) (ac := [.int _, .int _, .int _, .int _]) D9_isRest_81 m9_gain_s t1023 (c9_gain (d := d + 2)) (by omega) ⟨rfl, rfl⟩ rfl rfl (fun _ => rfl) rfl rfl rfl ?_
        refine J_iload (pc := 84) D9_isRest_84 rfl ?_
        refine J_iload (pc := 86) D9_isRest_86 rfl ?_
        refine J_iload (pc := 88) D9_isRest_88 rfl ?_
        refine J_if_ne (pc := 90) (tgt := 97) D9_isRest_90 (by decide) (fun h90 => absurd rfl h90) (fun h90 => ?_)
        refine J_iconst (pc := 93) (v := (nI 1)) D9_isRest_93 (by decide) ?_
        refine J_goto (pc := 94) (tgt := 98) D9_isRest_94 (by decide) ?_
        refine J_iload (pc := 98) D9_isRest_98 rfl ?_
        refine J_callSR (pc := 100) (ι := []) (ac := [.int _, .int _, .int _, .int _]) D9_isRest_100 m9_gain_s t1023 (c9_gain (d := d + 2)) (by omega) ⟨rfl, rfl⟩ rfl rfl (fun _ => rfl) rfl rfl rfl ?_
        refine J_icmp_lt (pc := 103) (tgt := 110) D9_isRest_103 (by decide) (fun h103 => ?_) (fun h103 => ?_)
        · have h103' := Int32.not_le.mpr h103
          refine J_iconst (pc := 110) (v := (nI 0)) D9_isRest_110 (by decide) ?_
          refine J_zret (pc := 111) D9_isRest_111 rfl (by decide) ?_
          exact ⟨rfl, by rw [irF, ea, ena, eb, enb, irX, decide_eq_true h70', decide_eq_false (Int32.not_le.mpr h103)]; rfl⟩
        · have h103' := Int32.not_lt.mp h103
          refine J_iconst (pc := 106) (v := (nI 1)) D9_isRest_106 (by decide) ?_
          refine J_goto (pc := 107) (tgt := 111) D9_isRest_107 (by decide) ?_
          refine J_zret (pc := 111) D9_isRest_111 rfl (by decide) ?_
          exact ⟨rfl, by rw [irF, ea, ena, eb, enb, irX, decide_eq_true h70', decide_eq_true h103']; rfl⟩
    · have eb : i01 (¬ w &&& nI 1 = 0) = nI 1 := i01_t h30
      have enb : i01 (w &&& nI 1 = 0) = nI 0 := i01_f h30
      refine J_iconst (pc := 33) (v := (nI 1)) D9_isRest_33 (by decide) ?_
      refine J_goto (pc := 34) (tgt := 38) D9_isRest_34 (by decide) ?_
      refine J_istore (pc := 38) D9_isRest_38 rfl ?_
      refine J_iload (pc := 40) D9_isRest_40 rfl ?_
      refine J_iload (pc := 42) D9_isRest_42 rfl ?_
      refine J_iload (pc := 44) D9_isRest_44 rfl ?_
      refine J_iload (pc := 46) D9_isRest_46 rfl ?_
      refine J_callSR (pc := 48) (ι := []) (ac := [.int _, .int _, .int _, .int _]) D9_isRest_48 m9_gain_s t1023 (c9_gain (d := d + 2)) (by omega) ⟨rfl, rfl⟩ rfl rfl (fun _ => rfl) rfl rfl rfl ?_
      refine J_iload (pc := 51) D9_isRest_51 rfl ?_
      refine J_iload (pc := 53) D9_isRest_53 rfl ?_
      refine J_iload (pc := 55) D9_isRest_55 rfl ?_
      refine J_if_ne (pc := 57) (tgt := 64) D9_isRest_57 (by decide) (fun h57 => ?_) (fun h57 => absurd h57 (by decide))
      refine J_iconst (pc := 64) (v := (nI 0)) D9_isRest_64 (by decide) ?_
      refine J_iload (pc := 65) D9_isRest_65 rfl ?_
      refine J_callSR (pc := 67) (ι := []) (ac := [.int _, .int _, .int _, .int _]) D9_isRest_67 m9_gain_s t1023 (c9_gain (d := d + 2)) (by omega) ⟨rfl, rfl⟩ rfl rfl (fun _ => rfl) rfl rfl rfl ?_
      refine J_icmp_lt (pc := 70) (tgt := 110) D9_isRest_70 (by decide) (fun h70 => ?_) (fun h70 => ?_)
      · have h70' := Int32.not_le.mpr h70
        refine J_iconst (pc := 110) (v := (nI 0)) D9_isRest_110 (by decide) ?_
        refine J_zret (pc := 111) D9_isRest_111 rfl (by decide) ?_
        exact ⟨rfl, by rw [irF, ea, ena, eb, enb, irX, decide_eq_false (Int32.not_le.mpr h70)]; rfl⟩
      · have h70' := Int32.not_lt.mp h70
        refine J_iload (pc := 73) D9_isRest_73 rfl ?_
        refine J_iload (pc := 75) D9_isRest_75 rfl ?_
        refine J_iload (pc := 77) D9_isRest_77 rfl ?_
        refine J_iload (pc := 79) D9_isRest_79 rfl ?_
        refine J_callSR (pc := 81) (ι := []) (ac := [.int _, .int _, .int _, .int _]) D9_isRest_81 m9_gain_s t1023 (c9_gain (d := d + 2)) (by omega) ⟨rfl, rfl⟩ rfl rfl (fun _ => rfl) rfl rfl rfl ?_
        refine J_iload (pc := 84) D9_isRest_84 rfl ?_
        refine J_iload (pc := 86) D9_isRest_86 rfl ?_
        refine J_iload (pc := 88) D9_isRest_88 rfl ?_
        refine J_if_ne (pc := 90) (tgt := 97) D9_isRest_90 (by decide) (fun h90 => ?_) (fun h90 => absurd h90 (by decide))
        refine J_iconst (pc := 97) (v := (nI 0)) D9_isRest_97 (by decide) ?_
        refine J_iload (pc := 98) D9_isRest_98 rfl ?_
        refine J_callSR (pc := 100) (ι := []) (ac := [.int _, .int _, .int _, .int _]) D9_isRest_100 m9_gain_s t1023 (c9_gain (d := d + 2)) (by omega) ⟨rfl, rfl⟩ rfl rfl (fun _ => rfl) rfl rfl rfl ?_
        refine J_icmp_lt (pc := 103) (tgt := 110) D9_isRest_103 (by decide) (fun h103 => ?_) (fun h103 => ?_)
        · have h103' := Int32.not_le.mpr h103
          refine J_iconst (pc := 110) (v := (nI 0)) D9_isRest_110 (by decide) ?_
          refine J_zret (pc := 111) D9_isRest_111 rfl (by decide) ?_
          exact ⟨rfl, by rw [irF, ea, ena, eb, enb, irX, decide_eq_true h70', decide_eq_false (Int32.not_le.mpr h103)]; rfl⟩
        · have h103' := Int32.not_lt.mp h103
          refine J_iconst (pc := 106) (v := (nI 1)) D9_isRest_106 (by decide) ?_
          refine J_goto (pc := 107) (tgt := 111) D9_isRest_107 (by decide) ?_
          refine J_zret (pc := 111) D9_isRest_111 rfl (by decide) ?_
          exact ⟨rfl, by rw [irF, ea, ena, eb, enb, irX, decide_eq_true h70', decide_eq_true h103']; rfl⟩
def resN (T : TV) (V : CV) (n : Nat) (one oth : Int32) : Nat → Nat
  | 0 => 0
  | w + 1 => if irF T V n one oth (nI w) = true then resN T V n one oth w + 1 else resN T V n one oth w
theorem resN_le {T : TV} {V : CV} {n : Nat} {one oth : Int32} : ∀ w, resN T V n one oth w ≤ w
  | 0 => Nat.le_refl _
  | w + 1 => by
    have := resN_le w (T := T) (V := V) (n := n) (one := one) (oth := oth)
    unfold resN
    split <;> omega
theorem L9_rests {d np nb nn : Nat} {tl hi : Int32} {T : TV} {V : CV} (hT : WT T np nb nn) {one oth : Int32} : ∀ (g w : Nat), w + g = 4 → J m9_rests (d + 4) 0 0 29 28 [(0, .ref 0), (1, .int one), (2, .int oth), (3, .int (nI (resN T V nb one oth w))), (4, .int (nI w))] [] (tcA tl hi T V) 0 0 (fun r w' => w' = tcA tl hi T V ∧ r = some (.int (nI (resN T V nb one oth 4)))) := by
  intro g
  induction g with
  | zero =>
    intro w hw
    have e : w = 4 := by omega
    refine J_iload (pc := 28) D9_rests_28 rfl ?_
    refine J_iconst (pc := 30) (v := (nI 4)) D9_rests_30 (by decide) ?_
    refine J_icmp_ge (pc := 31) (tgt := 54) D9_rests_31 (by decide) (fun h31 => ?_) (fun h31 => absurd (nI_le (by omega) (by omega)) h31)
    refine J_iload_n (pc := 54) D9_rests_54 rfl ?_
    refine J_iret (pc := 55) D9_rests_55 rfl ?_
    exact ⟨rfl, by rw [e]⟩
  | succ g ih =>
    intro w hw
    refine J_iload (pc := 28) D9_rests_28 rfl ?_
    refine J_iconst (pc := 30) (v := (nI 4)) D9_rests_30 (by decide) ?_
    refine J_icmp_ge (pc := 31) (tgt := 54) D9_rests_31 (by decide) (fun h31 => absurd h31 (nI_ge (by omega) (by omega))) (fun h31 => ?_)
    refine J_aload_n (pc := 34) D9_rests_34 rfl ?_
    refine J_iload_n (pc := 35) D9_rests_35 rfl ?_
    refine J_iload_n (pc := 36) D9_rests_36 rfl ?_
    refine J_iload (pc := 37) D9_rests_37 rfl ?_
    refine J_callVTR (pc := 39) (ac := [.int _, .int _, .int _]) D9_rests_39 m9_isRest_v t1015 (c9_isRest (d := d) hT) (by omega) rfl rfl rfl rfl (fun _ => rfl) rfl rfl rfl ?_
    refine J_if_eq (pc := 42) (tgt := 48) D9_rests_42 (by decide) (fun h42 => ?_) (fun h42 => ?_)
    · have h42' := eq_true h42
      replace h42 := i01_z h42
      refine J_iinc (pc := 48) D9_rests_48 rfl (nI_inc _) rfl ?_
      refine J_goto (pc := 51) (tgt := 28) D9_rests_51 (by decide) ?_
      refine J_lk [(0, .ref 0), (1, .int one), (2, .int oth), (3, .int (nI (resN T V nb one oth (w + 1)))), (4, .int (nI (w + 1)))] (by rw [resN, if_neg h42]; try rfl) ?_
      exact ih (w + 1) (by omega)
    · replace h42 := i01_nz h42
      refine J_iinc (pc := 45) D9_rests_45 rfl (nI_inc _) rfl ?_
      refine J_iinc (pc := 48) D9_rests_48 rfl (nI_inc _) rfl ?_
      refine J_goto (pc := 51) (tgt := 28) D9_rests_51 (by decide) ?_
      refine J_lk [(0, .ref 0), (1, .int one), (2, .int oth), (3, .int (nI (resN T V nb one oth (w + 1)))), (4, .int (nI (w + 1)))] (by rw [resN, if_pos h42]; try rfl) ?_
      exact ih (w + 1) (by omega)
def twoB (np : Nat) (one oth : Int32) : Bool := ixB np one && (ixB np oth && decide (¬ one = oth))
theorem twoB_t {np : Nat} {one oth : Int32} (h : twoB np one oth = true) : ixB np one = true ∧ ixB np oth = true ∧ ¬ one = oth := by
  unfold twoB at h
  have h1 := Bool.and_eq_true_iff.mp h
  have h2 := Bool.and_eq_true_iff.mp h1.2
  exact ⟨h1.1, h2.1, of_decide_eq_true h2.2⟩
def rssF (T : TV) (V : CV) (np nb : Nat) (one oth : Int32) : Int32 := if twoB np one oth = true then nI (resN T V nb one oth 4) else -1
theorem c9_rests {d np nb nn : Nat} {tl hi : Int32} {T : TV} {V : CV} (hT : WT T np nb nn) {one oth : Int32} : TR (d + 4) m9_rests [.ref 0, .int one, .int oth] (tcA tl hi T V) (.int (rssF T V np nb one oth)) := by
  refine Tr.intro (by decide) rfl ?_
  refine J_aload_n (pc := 0) D9_rests_0 rfl ?_
  refine J_iload_n (pc := 1) D9_rests_1 rfl ?_
  refine J_callVTR (pc := 2) (ac := [.int _]) D9_rests_2 m9_isPerson_v t708 (c9_isPerson (d := d + 2) hT) (by omega) rfl rfl rfl rfl (fun _ => rfl) rfl rfl rfl ?_
  refine J_if_eq (pc := 5) (tgt := 21) D9_rests_5 (by decide) (fun h5 => ?_) (fun h5 => ?_)
  · have h5' := eq_true h5
    replace h5 := i01_z h5
    refine J_iconst (pc := 21) (v := (-1)) D9_rests_21 (by decide) ?_
    refine J_iret (pc := 22) D9_rests_22 rfl ?_
    exact ⟨rfl, by rw [rssF, if_neg (fun q : twoB np one oth = true => h5 (twoB_t q).1)]⟩
  · replace h5 := i01_nz h5
    refine J_aload_n (pc := 8) D9_rests_8 rfl ?_
    refine J_iload_n (pc := 9) D9_rests_9 rfl ?_
    refine J_callVTR (pc := 10) (ac := [.int _]) D9_rests_10 m9_isPerson_v t708 (c9_isPerson (d := d + 2) hT) (by omega) rfl rfl rfl rfl (fun _ => rfl) rfl rfl rfl ?_
    refine J_if_eq (pc := 13) (tgt := 21) D9_rests_13 (by decide) (fun h13 => ?_) (fun h13 => ?_)
    · have h13' := eq_true h13
      replace h13 := i01_z h13
      refine J_iconst (pc := 21) (v := (-1)) D9_rests_21 (by decide) ?_
      refine J_iret (pc := 22) D9_rests_22 rfl ?_
      exact ⟨rfl, by rw [rssF, if_neg (fun q : twoB np one oth = true => h13 (twoB_t q).2.1)]⟩
    · replace h13 := i01_nz h13
      refine J_iload_n (pc := 16) D9_rests_16 rfl ?_
      refine J_iload_n (pc := 17) D9_rests_17 rfl ?_
      refine J_icmp_ne (pc := 18) (tgt := 23) D9_rests_18 (by decide) (fun h18 => ?_) (fun h18 => ?_)
      · refine J_iconst (pc := 23) (v := (nI 0)) D9_rests_23 (by decide) ?_
        refine J_istore_n (pc := 24) D9_rests_24 rfl ?_
        refine J_iconst (pc := 25) (v := (nI 0)) D9_rests_25 (by decide) ?_
        refine J_istore (pc := 26) D9_rests_26 rfl ?_
        rw [rssF, if_pos (by rw [twoB, h5, h13, decide_eq_true h18]; rfl)]
        exact L9_rests hT 4 0 (by omega)
      · have h18' := eq_true h18
        refine J_iconst (pc := 21) (v := (-1)) D9_rests_21 (by decide) ?_
        refine J_iret (pc := 22) D9_rests_22 rfl ?_
        exact ⟨rfl, by rw [rssF, if_neg (fun q : twoB np one oth = true => (twoB_t q).2.2 h18)]⟩
def reL (T : TV) (V : CV) (nb : Nat) (one oth k : Int32) : Nat → Nat → Int32
  | 0, _ => -2
  | g + 1, w => if irF T V nb one oth (nI w) = true ∧ nI (resN T V nb one oth w) = k then nI 10 * (nI w >>> (nI 1 &&& 31)) + (nI w &&& nI 1) else reL T V nb one oth k g (w + 1)
theorem L9_rest {d np nb nn : Nat} {tl hi : Int32} {T : TV} {V : CV} (hT : WT T np nb nn) {one oth k : Int32} : ∀ (g w : Nat), w + g = 4 → J m9_rest (d + 4) 0 0 29 33 [(0, .ref 0), (1, .int one), (2, .int oth), (3, .int k), (4, .int (nI (resN T V nb one oth w))), (5, .int (nI w))] [] (tcA tl hi T V) 0 0 (fun r w' => w' = tcA tl hi T V ∧ r = some (.int (reL T V nb one oth k g w))) := by
  intro g
  induction g with
  | zero =>
    intro w hw
    refine J_iload (pc := 33) D9_rest_33 rfl ?_
    refine J_iconst (pc := 35) (v := (nI 4)) D9_rest_35 (by decide) ?_
    refine J_icmp_ge (pc := 36) (tgt := 78) D9_rest_36 (by decide) (fun h36 => ?_) (fun h36 => absurd (nI_le (by omega) (by omega)) h36)
    refine J_bipush (pc := 78) (v := (-2)) D9_rest_78 (by decide) ?_
    refine J_iret (pc := 80) D9_rest_80 rfl ?_
    exact ⟨rfl, rfl⟩
  | succ g ih =>
    intro w hw
    refine J_iload (pc := 33) D9_rest_33 rfl ?_
    refine J_iconst (pc := 35) (v := (nI 4)) D9_rest_35 (by decide) ?_
    refine J_icmp_ge (pc := 36) (tgt := 78) D9_rest_36 (by decide) (fun h36 => absurd h36 (nI_ge (by omega) (by omega))) (fun h36 => ?_)
    refine J_aload_n (pc := 39) D9_rest_39 rfl ?_
    refine J_iload_n (pc := 40) D9_rest_40 rfl ?_
    refine J_iload_n (pc := 41) D9_rest_41 rfl ?_
    refine J_iload (pc := 42) D9_rest_42 rfl ?_
    refine J_callVTR (pc := 44) (ac := [.int _, .int _, .int _]) D9_rest_44 m9_isRest_v t1015 (c9_isRest (d := d) hT) (by omega) rfl rfl rfl rfl (fun _ => rfl) rfl rfl rfl ?_
    refine J_if_eq (pc := 47) (tgt := 72) D9_rest_47 (by decide) (fun h47 => ?_) (fun h47 => ?_)
    · have h47' := eq_true h47
      replace h47 := i01_z h47
      refine J_iinc (pc := 72) D9_rest_72 rfl (nI_inc _) rfl ?_
      refine J_goto (pc := 75) (tgt := 33) D9_rest_75 (by decide) ?_
      rw [reL, if_neg (fun q => h47 q.1)]
      refine J_lk [(0, .ref 0), (1, .int one), (2, .int oth), (3, .int k), (4, .int (nI (resN T V nb one oth (w + 1)))), (5, .int (nI (w + 1)))] (by rw [resN, if_neg h47]; try rfl) ?_
      exact ih (w + 1) (by omega)
    · replace h47 := i01_nz h47
      refine J_iload (pc := 50) D9_rest_50 rfl ?_
      refine J_iload_n (pc := 52) D9_rest_52 rfl ?_
      refine J_icmp_ne (pc := 53) (tgt := 69) D9_rest_53 (by decide) (fun h53 => ?_) (fun h53 => ?_)
      · refine J_iinc (pc := 69) D9_rest_69 rfl (nI_inc _) rfl ?_
        refine J_iinc (pc := 72) D9_rest_72 rfl (nI_inc _) rfl ?_
        refine J_goto (pc := 75) (tgt := 33) D9_rest_75 (by decide) ?_
        rw [reL, if_neg (fun q => h53 q.2)]
        refine J_lk [(0, .ref 0), (1, .int one), (2, .int oth), (3, .int k), (4, .int (nI (resN T V nb one oth (w + 1)))), (5, .int (nI (w + 1)))] (by rw [resN, if_pos h47]; try rfl) ?_
        exact ih (w + 1) (by omega)
      · have h53' := eq_true h53
        refine J_bipush (pc := 56) (v := (nI 10)) D9_rest_56 (by decide) ?_
        refine J_iload (pc := 58) D9_rest_58 rfl ?_
        refine J_iconst (pc := 60) (v := (nI 1)) D9_rest_60 (by decide) ?_
        refine J_ishr (pc := 61) D9_rest_61 ?_
        refine J_imul (pc := 62) D9_rest_62 ?_
        refine J_iload (pc := 63) D9_rest_63 rfl ?_
        refine J_iconst (pc := 65) (v := (nI 1)) D9_rest_65 (by decide) ?_
        refine J_iand (pc := 66) D9_rest_66 ?_
        refine J_iadd (pc := 67) D9_rest_67 ?_
        refine J_iret (pc := 68) D9_rest_68 rfl ?_
        exact ⟨rfl, by rw [reL, if_pos ⟨h47, h53⟩]⟩
def rstF (T : TV) (V : CV) (np nb : Nat) (one oth k : Int32) : Int32 := if twoB np one oth = true ∧ 0 ≤ k then reL T V nb one oth k 4 0 else -1
theorem c9_rest {d np nb nn : Nat} {tl hi : Int32} {T : TV} {V : CV} (hT : WT T np nb nn) {one oth k : Int32} : TR (d + 4) m9_rest [.ref 0, .int one, .int oth, .int k] (tcA tl hi T V) (.int (rstF T V np nb one oth k)) := by
  refine Tr.intro (by decide) rfl ?_
  refine J_aload_n (pc := 0) D9_rest_0 rfl ?_
  refine J_iload_n (pc := 1) D9_rest_1 rfl ?_
  refine J_callVTR (pc := 2) (ac := [.int _]) D9_rest_2 m9_isPerson_v t708 (c9_isPerson (d := d + 2) hT) (by omega) rfl rfl rfl rfl (fun _ => rfl) rfl rfl rfl ?_
  refine J_if_eq (pc := 5) (tgt := 25) D9_rest_5 (by decide) (fun h5 => ?_) (fun h5 => ?_)
  · have h5' := eq_true h5
    replace h5 := i01_z h5
    refine J_iconst (pc := 25) (v := (-1)) D9_rest_25 (by decide) ?_
    refine J_iret (pc := 26) D9_rest_26 rfl ?_
    exact ⟨rfl, by rw [rstF, if_neg (fun q : twoB np one oth = true ∧ 0 ≤ k => h5 (twoB_t q.1).1)]⟩
  · replace h5 := i01_nz h5
    refine J_aload_n (pc := 8) D9_rest_8 rfl ?_
    refine J_iload_n (pc := 9) D9_rest_9 rfl ?_
    refine J_callVTR (pc := 10) (ac := [.int _]) D9_rest_10 m9_isPerson_v t708 (c9_isPerson (d := d + 2) hT) (by omega) rfl rfl rfl rfl (fun _ => rfl) rfl rfl rfl ?_
    refine J_if_eq (pc := 13) (tgt := 25) D9_rest_13 (by decide) (fun h13 => ?_) (fun h13 => ?_)
    · have h13' := eq_true h13
      replace h13 := i01_z h13
      refine J_iconst (pc := 25) (v := (-1)) D9_rest_25 (by decide) ?_
      refine J_iret (pc := 26) D9_rest_26 rfl ?_
      exact ⟨rfl, by rw [rstF, if_neg (fun q : twoB np one oth = true ∧ 0 ≤ k => h13 (twoB_t q.1).2.1)]⟩
    · replace h13 := i01_nz h13
      refine J_iload_n (pc := 16) D9_rest_16 rfl ?_
      refine J_iload_n (pc := 17) D9_rest_17 rfl ?_
      refine J_icmp_eq (pc := 18) (tgt := 25) D9_rest_18 (by decide) (fun h18 => ?_) (fun h18 => ?_)
      · have h18' := eq_true h18
        refine J_iconst (pc := 25) (v := (-1)) D9_rest_25 (by decide) ?_
        refine J_iret (pc := 26) D9_rest_26 rfl ?_
        exact ⟨rfl, by rw [rstF, if_neg (fun q : twoB np one oth = true ∧ 0 ≤ k => (twoB_t q.1).2.2 h18)]⟩
      · refine J_iload_n (pc := 21) D9_rest_21 rfl ?_
        refine J_if_ge (pc := 22) (tgt := 27) D9_rest_22 (by decide) (fun h22 => ?_) (fun h22 => ?_)
        · have h22' := Int32.not_lt.mpr h22
          refine J_iconst (pc := 27) (v := (nI 0)) D9_rest_27 (by decide) ?_
          refine J_istore (pc := 28) D9_rest_28 rfl ?_
          refine J_iconst (pc := 30) (v := (nI 0)) D9_rest_30 (by decide) ?_
          refine J_istore (pc := 31) D9_rest_31 rfl ?_
          rw [rstF, if_pos ⟨by rw [twoB, h5, h13, decide_eq_true h18]; rfl, h22⟩]
          exact L9_rest hT 4 0 (by omega)
        · have h22' := Int32.not_le.mp h22
          refine J_iconst (pc := 25) (v := (-1)) D9_rest_25 (by decide) ?_
          refine J_iret (pc := 26) D9_rest_26 rfl ?_
          exact ⟨rfl, by rw [rstF, if_neg (fun q : twoB np one oth = true ∧ 0 ≤ k => h22 q.2)]⟩
def poC (V : CV) (f t : Int32) (a b : Nat) : Bool := decide (V.2.2.2 3 a = 0) && (decide (V.2.2.2 3 b = 0) && decide (f ≤ (V.2.2.2 1 a + V.2.2.2 1 b) / nI 2 ∧ (V.2.2.2 1 a + V.2.2.2 1 b) / nI 2 ≤ t))
def poI (V : CV) (f t : Int32) (a : Nat) : Nat → Nat → Option Nat
  | 0, _ => none
  | g + 1, b => bif poC V f t a b then some b else poI V f t a g (b + 1)
def poO (V : CV) (f t : Int32) (nb : Nat) : Nat → Nat → Int32
  | 0, _ => -2
  | g + 1, a => match poI V f t a (nb - (a + 1)) (a + 1) with
    | some b => nI 10 * nI a + nI b
    | none => poO V f t nb g (a + 1)
theorem L9_pourI {d np nb nn : Nat} {tl hi : Int32} {T : TV} {V : CV} (hT : WT T np nb nn) {f t : Int32} {a : Nat} (ha : a < nb) {Q : Option Value → List EC → Prop} : ∀ (g b : Nat), b + g = nb → (poI V f t a g b = none → J m9_pour (d + 2) 0 0 29 122 [(0, .ref 0), (1, .int f), (2, .int t), (3, .int (nI a))] [] (tcA tl hi T V) 0 0 Q) → (∀ c, poI V f t a g b = some c → Q (some (.int (nI 10 * nI a + nI c))) (tcA tl hi T V)) → J m9_pour (d + 2) 0 0 29 39 [(0, .ref 0), (1, .int f), (2, .int t), (3, .int (nI a)), (4, .int (nI b))] [] (tcA tl hi T V) 0 0 Q := by
  have hnb := hT.2.2.2.2.1
  intro g
  induction g with
  | zero =>
    intro b hb h1 h2
    refine J_iload (pc := 39) D9_pour_39 rfl ?_
    refine J_aload_n (pc := 41) D9_pour_41 rfl ?_
    refine J_getf (pc := 42) D9_pour_42 fl9_18 rfl rfl ?_
    refine J_getf (pc := 45) D9_pour_45 fl9_208 rfl rfl ?_
    refine J_st [.int (nI nb), .int (nI b)] (by rw [← hT.2.1]; try rfl) ?_
    refine J_icmp_ge (pc := 48) (tgt := 122) D9_pour_48 (by decide) (fun h48 => ?_) (fun h48 => absurd (nI_le (by omega) (by omega)) h48)
    refine J_lk [(0, .ref 0), (1, .int f), (2, .int t), (3, .int (nI a))] rfl ?_
    exact h1 rfl
  | succ g ih =>
    intro b hb h1 h2
    refine J_iload (pc := 39) D9_pour_39 rfl ?_
    refine J_aload_n (pc := 41) D9_pour_41 rfl ?_
    refine J_getf (pc := 42) D9_pour_42 fl9_18 rfl rfl ?_
    refine J_getf (pc := 45) D9_pour_45 fl9_208 rfl rfl ?_
    refine J_st [.int (nI nb), .int (nI b)] (by rw [← hT.2.1]; try rfl) ?_
    refine J_icmp_ge (pc := 48) (tgt := 122) D9_pour_48 (by decide) (fun h48 => absurd h48 (nI_ge (by omega) (by omega))) (fun h48 => ?_)
    refine J_aload_n (pc := 51) D9_pour_51 rfl ?_
    refine J_getf (pc := 52) D9_pour_52 fl9_46 rfl rfl ?_
    refine J_getf (pc := 55) D9_pour_55 fl9_150 rfl rfl ?_
    refine J_iload_n (pc := 58) D9_pour_58 rfl ?_
    refine J_iald (pc := 59) D9_pour_59 rfl rfl (by omega) rfl ?_
    refine J_aload_n (pc := 60) D9_pour_60 rfl ?_
    refine J_getf (pc := 61) D9_pour_61 fl9_46 rfl rfl ?_
    refine J_getf (pc := 64) D9_pour_64 fl9_150 rfl rfl ?_
    refine J_iload (pc := 67) D9_pour_67 rfl ?_
    refine J_iald (pc := 69) D9_pour_69 rfl rfl (by omega) rfl ?_
    refine J_iadd (pc := 70) D9_pour_70 ?_
    refine J_iconst (pc := 71) (v := (nI 2)) D9_pour_71 (by decide) ?_
    refine J_idiv (pc := 72) D9_pour_72 (by decide) ?_
    refine J_istore (pc := 73) D9_pour_73 rfl ?_
    refine J_aload_n (pc := 75) D9_pour_75 rfl ?_
    refine J_getf (pc := 76) D9_pour_76 fl9_46 rfl rfl ?_
    refine J_iload_n (pc := 79) D9_pour_79 rfl ?_
    refine J_callVR (pc := 80) (ι := [19, 20, 21, 22, 23, 24, 25, 26, 27, 28]) (ac := [.int _]) D9_pour_80 m0_isLying_v t717 (c0_isLying (d := d + 1) (V := V) (b := a) (by omega)) (by omega) rfl rfl ⟨rfl, rfl⟩ rfl rfl (fun _ => rfl) rfl rfl rfl ?_
    refine J_if_eq (pc := 83) (tgt := 116) D9_pour_83 (by decide) (fun h83 => ?_) (fun h83 => ?_)
    · have h83' := eq_true h83
      replace h83 := i01_z h83
      refine J_iinc (pc := 116) D9_pour_116 rfl (nI_inc _) rfl ?_
      refine J_goto (pc := 119) (tgt := 39) D9_pour_119 (by decide) ?_
      have e : poC V f t a b = false := by rw [poC, decide_eq_false h83, Bool.false_and]
      refine J_lk [(0, .ref 0), (1, .int f), (2, .int t), (3, .int (nI a)), (4, .int (nI (b + 1)))] rfl ?_
      exact ih (b + 1) (by omega) (fun q => h1 (by rw [poI, e]; exact q)) (fun c q => h2 c (by rw [poI, e]; exact q))
    · replace h83 := i01_nz h83
      refine J_aload_n (pc := 86) D9_pour_86 rfl ?_
      refine J_getf (pc := 87) D9_pour_87 fl9_46 rfl rfl ?_
      refine J_iload (pc := 90) D9_pour_90 rfl ?_
      refine J_callVR (pc := 92) (ι := [19, 20, 21, 22, 23, 24, 25, 26, 27, 28]) (ac := [.int _]) D9_pour_92 m0_isLying_v t717 (c0_isLying (d := d + 1) (V := V) (b := b) (by omega)) (by omega) rfl rfl ⟨rfl, rfl⟩ rfl rfl (fun _ => rfl) rfl rfl rfl ?_
      refine J_if_eq (pc := 95) (tgt := 116) D9_pour_95 (by decide) (fun h95 => ?_) (fun h95 => ?_)
      · have h95' := eq_true h95
        replace h95 := i01_z h95
        refine J_iinc (pc := 116) D9_pour_116 rfl (nI_inc _) rfl ?_
        refine J_goto (pc := 119) (tgt := 39) D9_pour_119 (by decide) ?_
        have e : poC V f t a b = false := by rw [poC, decide_eq_false h95, Bool.false_and, Bool.and_false]
        refine J_lk [(0, .ref 0), (1, .int f), (2, .int t), (3, .int (nI a)), (4, .int (nI (b + 1)))] rfl ?_
        exact ih (b + 1) (by omega) (fun q => h1 (by rw [poI, e]; exact q)) (fun c q => h2 c (by rw [poI, e]; exact q))
      · replace h95 := i01_nz h95
        refine J_iload (pc := 98) D9_pour_98 rfl ?_
        refine J_iload_n (pc := 100) D9_pour_100 rfl ?_
        refine J_iload_n (pc := 101) D9_pour_101 rfl ?_
        refine J_callSR (pc := 102) (ι := []) (ac := [.int _, .int _, .int _]) D9_pour_102 m9_isAmong_s t712 (c9_isAmong (d := d + 1)) (by omega) ⟨rfl, rfl⟩ rfl rfl (fun _ => rfl) rfl rfl rfl ?_
        refine J_if_eq (pc := 105) (tgt := 116) D9_pour_105 (by decide) (fun h105 => ?_) (fun h105 => ?_)
        · have h105' := eq_true h105
          replace h105 := i01_z h105
          refine J_iinc (pc := 116) D9_pour_116 rfl (nI_inc _) rfl ?_
          refine J_goto (pc := 119) (tgt := 39) D9_pour_119 (by decide) ?_
          have e : poC V f t a b = false := by rw [poC, decide_eq_false h105, Bool.and_false, Bool.and_false]
          refine J_lk [(0, .ref 0), (1, .int f), (2, .int t), (3, .int (nI a)), (4, .int (nI (b + 1)))] rfl ?_
          exact ih (b + 1) (by omega) (fun q => h1 (by rw [poI, e]; exact q)) (fun c q => h2 c (by rw [poI, e]; exact q))
        · replace h105 := i01_nz h105
          refine J_bipush (pc := 108) (v := (nI 10)) D9_pour_108 (by decide) ?_
          refine J_iload_n (pc := 110) D9_pour_110 rfl ?_
          refine J_imul (pc := 111) D9_pour_111 ?_
          refine J_iload (pc := 112) D9_pour_112 rfl ?_
          refine J_iadd (pc := 114) D9_pour_114 ?_
          refine J_iret (pc := 115) D9_pour_115 rfl ?_
          exact h2 b (by rw [poI, poC, decide_eq_true h83, decide_eq_true h95, decide_eq_true h105]; rfl)
theorem L9_pour {d np nb nn : Nat} {tl hi : Int32} {T : TV} {V : CV} (hT : WT T np nb nn) {f t : Int32} : ∀ (g a : Nat), a + g = nb → J m9_pour (d + 2) 0 0 29 23 [(0, .ref 0), (1, .int f), (2, .int t), (3, .int (nI a))] [] (tcA tl hi T V) 0 0 (fun r w' => w' = tcA tl hi T V ∧ r = some (.int (poO V f t nb g a))) := by
  have hnb := hT.2.2.2.2.1
  intro g
  induction g with
  | zero =>
    intro a ha
    refine J_iload_n (pc := 23) D9_pour_23 rfl ?_
    refine J_aload_n (pc := 24) D9_pour_24 rfl ?_
    refine J_getf (pc := 25) D9_pour_25 fl9_18 rfl rfl ?_
    refine J_getf (pc := 28) D9_pour_28 fl9_208 rfl rfl ?_
    refine J_st [.int (nI nb), .int (nI a)] (by rw [← hT.2.1]; try rfl) ?_
    refine J_icmp_ge (pc := 31) (tgt := 128) D9_pour_31 (by decide) (fun h31 => ?_) (fun h31 => absurd (nI_le (by omega) (by omega)) h31)
    refine J_bipush (pc := 128) (v := (-2)) D9_pour_128 (by decide) ?_
    refine J_iret (pc := 130) D9_pour_130 rfl ?_
    exact ⟨rfl, rfl⟩
  | succ g ih =>
    intro a ha
    refine J_iload_n (pc := 23) D9_pour_23 rfl ?_
    refine J_aload_n (pc := 24) D9_pour_24 rfl ?_
    refine J_getf (pc := 25) D9_pour_25 fl9_18 rfl rfl ?_
    refine J_getf (pc := 28) D9_pour_28 fl9_208 rfl rfl ?_
    refine J_st [.int (nI nb), .int (nI a)] (by rw [← hT.2.1]; try rfl) ?_
    refine J_icmp_ge (pc := 31) (tgt := 128) D9_pour_31 (by decide) (fun h31 => absurd h31 (nI_ge (by omega) (by omega))) (fun h31 => ?_)
    refine J_iload_n (pc := 34) D9_pour_34 rfl ?_
    refine J_iconst (pc := 35) (v := (nI 1)) D9_pour_35 (by decide) ?_
    refine J_iadd (pc := 36) D9_pour_36 ?_
    refine J_st [.int (nI (a + 1))] (by rw [← show nI a + nI 1 = nI (a + 1) from nI_1 _]; try rfl) ?_
    refine J_istore (pc := 37) D9_pour_37 rfl ?_
    refine L9_pourI hT (by omega) (nb - (a + 1)) (a + 1) (by omega) (fun q => ?_) (fun c q => ⟨rfl, by rw [poO, q]⟩)
    refine J_iinc (pc := 122) D9_pour_122 rfl (nI_inc _) rfl ?_
    refine J_goto (pc := 125) (tgt := 23) D9_pour_125 (by decide) ?_
    rw [poO, q]
    exact ih (a + 1) (by omega)
def pouF (V : CV) (nb : Nat) (f t : Int32) : Int32 := if ixB 200 f = true ∧ ixB 200 t = true ∧ f ≤ t then poO V f t nb nb 0 else -1
theorem c9_pour {d np nb nn : Nat} {tl hi : Int32} {T : TV} {V : CV} (hT : WT T np nb nn) {f t : Int32} : TR (d + 2) m9_pour [.ref 0, .int f, .int t] (tcA tl hi T V) (.int (pouF V nb f t)) := by
  refine Tr.intro (by decide) rfl ?_
  refine J_iload_n (pc := 0) D9_pour_0 rfl ?_
  refine J_callSR (pc := 1) (ι := []) (ac := [.int _]) D9_pour_1 m9_isForce_s t985 (c9_isForce (d := d)) (by omega) ⟨rfl, rfl⟩ rfl rfl (fun _ => rfl) rfl rfl rfl ?_
  refine J_if_eq (pc := 4) (tgt := 19) D9_pour_4 (by decide) (fun h4 => ?_) (fun h4 => ?_)
  · have h4' := eq_true h4
    replace h4 := i01_z h4
    refine J_iconst (pc := 19) (v := (-1)) D9_pour_19 (by decide) ?_
    refine J_iret (pc := 20) D9_pour_20 rfl ?_
    exact ⟨rfl, by rw [pouF, if_neg (fun q => h4 q.1)]⟩
  · replace h4 := i01_nz h4
    refine J_iload_n (pc := 7) D9_pour_7 rfl ?_
    refine J_callSR (pc := 8) (ι := []) (ac := [.int _]) D9_pour_8 m9_isForce_s t985 (c9_isForce (d := d)) (by omega) ⟨rfl, rfl⟩ rfl rfl (fun _ => rfl) rfl rfl rfl ?_
    refine J_if_eq (pc := 11) (tgt := 19) D9_pour_11 (by decide) (fun h11 => ?_) (fun h11 => ?_)
    · have h11' := eq_true h11
      replace h11 := i01_z h11
      refine J_iconst (pc := 19) (v := (-1)) D9_pour_19 (by decide) ?_
      refine J_iret (pc := 20) D9_pour_20 rfl ?_
      exact ⟨rfl, by rw [pouF, if_neg (fun q => h11 q.2.1)]⟩
    · replace h11 := i01_nz h11
      refine J_iload_n (pc := 14) D9_pour_14 rfl ?_
      refine J_iload_n (pc := 15) D9_pour_15 rfl ?_
      refine J_icmp_ge (pc := 16) (tgt := 21) D9_pour_16 (by decide) (fun h16 => ?_) (fun h16 => ?_)
      · have h16' := Int32.not_lt.mpr h16
        refine J_iconst (pc := 21) (v := (nI 0)) D9_pour_21 (by decide) ?_
        refine J_istore_n (pc := 22) D9_pour_22 rfl ?_
        rw [pouF, if_pos ⟨h4, h11, h16⟩]
        exact L9_pour hT nb 0 (by omega)
      · have h16' := Int32.not_le.mp h16
        refine J_iconst (pc := 19) (v := (-1)) D9_pour_19 (by decide) ?_
        refine J_iret (pc := 20) D9_pour_20 rfl ?_
        exact ⟨rfl, by rw [pouF, if_neg (fun q => h16 q.2.2)]⟩
