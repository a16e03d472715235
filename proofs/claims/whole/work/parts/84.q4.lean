/-! THE MODEL: numerals, names (own program mod_q4.py) -/
theorem takC_f {K : TK} {x : Int32} {C : RC} (h : ¬ C.2.1 = 0) : takC K x C = C := if_neg h
theorem takC_y {K : TK} {x : Int32} {C : RC} (h : C.2.1 = 0) (hk : K.2.2.2.1 C.1 = x) : takC K x C = stepC K C := by unfold takC; rw [if_pos h, if_pos hk]
theorem takC_n {K : TK} {x : Int32} {C : RC} (h : C.2.1 = 0) (hk : ¬ K.2.2.2.1 C.1 = x) : takC K x C = refC K (nI 1) C := by unfold takC; rw [if_pos h, if_neg hk]
theorem ref_nz {K : TK} {x : Int32} {C : RC} (h0 : C.2.1 = 0) (hx : ¬ x = 0) : ¬ (refC K x C).2.1 = 0 := by rw [refC_0 h0]; exact hx
theorem numC_f {K : TK} {lo hi : Int32} {C : RC} (h : ¬ C.2.1 = 0) : numC K lo hi C = C := by
  show takC K (nI 29) (numC1 K lo hi C) = _
  rw [show numC1 K lo hi C = C from if_neg (fun q => h q.1), takC_f h]
theorem numC_k {K : TK} {lo hi : Int32} {C : RC} (h : C.2.1 = 0) (hk : ¬ K.2.2.2.1 C.1 = nI 29) : numC K lo hi C = refC K (nI 1) C := by
  show takC K (nI 29) (numC1 K lo hi C) = _
  rw [show numC1 K lo hi C = C from if_neg (fun q => hk q.2.1), takC_n h hk]
theorem numC_b {K : TK} {lo hi : Int32} {C : RC} (h : C.2.1 = 0) (hk : K.2.2.2.1 C.1 = nI 29) (hv : ¬ (lo ≤ K.2.2.2.2.2 C.1 ∧ K.2.2.2.2.2 C.1 ≤ hi)) : numC K lo hi C = refC K (nI 2) C := by
  show takC K (nI 29) (numC1 K lo hi C) = _
  rw [show numC1 K lo hi C = refC K (nI 2) C from if_pos ⟨h, hk, hv⟩, takC_f (ref_nz h (by decide))]
theorem numC_g {K : TK} {lo hi : Int32} {C : RC} (h : C.2.1 = 0) (hk : K.2.2.2.1 C.1 = nI 29) (hv : lo ≤ K.2.2.2.2.2 C.1 ∧ K.2.2.2.2.2 C.1 ≤ hi) : numC K lo hi C = stepC K C := by
  show takC K (nI 29) (numC1 K lo hi C) = _
  rw [show numC1 K lo hi C = C from if_neg (fun q => q.2.2 hv), takC_y h hk]
theorem step_2 {K : TK} {C : RC} : (stepC K C).2 = C.2 := by unfold stepC; split <;> rfl
/-- the end of numeral and its like -/
def nuQ (K : TK) (L cnt : Nat) (s : Nat → Int32) (A : Nat → Nat → Int32) (L0 : LL) (M : Nat → MR) (C : RC) (P : Int32 → Prop) : Option Value → List EC → Prop := fun r w' => ∃ v s', r = some (.int v) ∧ w' = modW s' A L0 M ∧ FS s s' ∧ CRl K L cnt s' C ∧ (C.2.1 = 0 → P v)
theorem nu_cmp {v va : Int32} {a b : Nat} (h : NuV v va) (ha : a ≤ 99999) (hb : b ≤ 99999) : (¬ va < nI a ∧ va ≤ nI b) ↔ (nI a ≤ v ∧ v ≤ nI b) := by
  obtain ⟨x, y, rfl, rfl, h1, h2, h3⟩ := h
  rw [Int32.not_lt, nI_leI (by omega) (by omega), nI_leI (by omega) (by omega), nI_leI (by omega) (by omega), nI_leI (by omega) (by omega)]
  omega
theorem nu_eq {v va : Int32} {b : Nat} (h : NuV v va) (hb : b ≤ 99999) (hv : v ≤ nI b) : va = v := by
  obtain ⟨x, y, rfl, rfl, h1, h2, h3⟩ := h
  rw [nI_leI (by omega) (by omega)] at hv
  rw [show y = x by omega]
theorem c10_numeral {d : Nat} {s : Nat → Int32} {A : Nat → Nat → Int32} {L0 : LL} {M : Nat → MR} {K : TK} {L cnt : Nat} (hK : KT K L cnt) (hTP : TP K.2.2.1 (A 1) L) {C : RC} (h : CRl K L cnt s C) {lo : Int32} {b : Nat} (hlo : C.2.1 = 0 → ∃ a, a ≤ 99999 ∧ lo = nI a) (hb : b ≤ 99999) : Tr (d + 6) 0 0 m10_numeral [.ref 0, .int lo, .int (nI b)] (modW s A L0 M) (nuQ K L cnt s A L0 M (numC K lo (nI b) C) (fun v => v = numV K lo (nI b) C ∧ lo ≤ v ∧ v ≤ nI b)) := by
  have h1 := h.1
  by_cases h0 : C.2.1 = 0
  · obtain ⟨a, ha, rfl⟩ := hlo h0
    have hm := h.2.2 h0
    have kvr := hm.2.2.2.1
    have hnum := kv_num kvr
    refine Tr.intro (by decide) rfl ?_
    refine J_aload_n (pc := 0) D10_numeral_0 rfl ?_
    refine J_getf (pc := 1) D10_numeral_1 fl10_193 rfl rfl ?_
    rw [h1]
    refine J_if_eq (pc := 4) (tgt := 9) D10_numeral_4 (by decide) (fun h4 => ?_) (fun h4 => absurd h0 h4)
    refine J_aload_n (pc := 9) D10_numeral_9 rfl ?_
    refine J_getf (pc := 10) D10_numeral_10 fl10_158 rfl rfl ?_
    refine J_iconst (pc := 13) (v := (nI 2)) D10_numeral_13 (by decide) ?_
    refine J_icmp_eq (pc := 14) (tgt := 25) D10_numeral_14 (by decide) (fun h14 => ?_) (fun h14 => ?_)
    · have h14' := eq_true h14
      have nv := kv_nv kvr (hnum.mp h14)
      have ncm := nu_cmp nv ha hb
      refine J_aload_n (pc := 25) D10_numeral_25 rfl ?_
      refine J_getf (pc := 26) D10_numeral_26 fl10_168 rfl rfl ?_
      refine J_iload_n (pc := 29) D10_numeral_29 rfl ?_
      refine J_icmp_lt (pc := 30) (tgt := 41) D10_numeral_30 (by decide) (fun h30 => ?_) (fun h30 => ?_)
      · have h30' := Int32.not_le.mpr h30
        refine J_aload_n (pc := 41) D10_numeral_41 rfl ?_
        refine J_iconst (pc := 42) (v := (nI 2)) D10_numeral_42 (by decide) ?_
        refine J_callVT (pc := 43) (ac := [.int _]) D10_numeral_43 m10_wrong_v t1469 (c10_wrong (d := d + 5) (C := C) h (by decide)) (by omega) rfl rfl rfl rfl rfl rfl rfl (fun r w' hq hl => ?_)
        obtain ⟨rfl, s2, rfl, a2, b2⟩ := hq
        refine J_aload_n (pc := 46) D10_numeral_46 rfl ?_
        refine J_getf (pc := 47) D10_numeral_47 fl10_193 rfl rfl ?_
        rw [b2.1]
        refine J_if_eq (pc := 50) (tgt := 55) D10_numeral_50 (by decide) (fun h50 => absurd h50 (ref_nz h0 (by decide))) (fun h50 => ?_)
        refine J_iload_n (pc := 53) D10_numeral_53 rfl ?_
        refine J_iret (pc := 54) D10_numeral_54 rfl ?_
        have en := numC_b (lo := nI a) (hi := nI b) h0 (hnum.mp h14) (fun q => (ncm.mpr q).1 h30)
        exact ⟨_, s2, rfl, rfl, a2, by rw [en]; exact b2, fun q => absurd q (by rw [en]; exact ref_nz h0 (by decide))⟩
      · have h30' := Int32.not_lt.mp h30
        refine J_aload_n (pc := 33) D10_numeral_33 rfl ?_
        refine J_getf (pc := 34) D10_numeral_34 fl10_168 rfl rfl ?_
        refine J_iload_n (pc := 37) D10_numeral_37 rfl ?_
        refine J_icmp_le (pc := 38) (tgt := 46) D10_numeral_38 (by decide) (fun h38 => ?_) (fun h38 => ?_)
        · have h38' := Int32.not_lt.mpr h38
          refine J_aload_n (pc := 46) D10_numeral_46 rfl ?_
          refine J_getf (pc := 47) D10_numeral_47 fl10_193 rfl rfl ?_
          rw [h1]
          refine J_if_eq (pc := 50) (tgt := 55) D10_numeral_50 (by decide) (fun h50 => ?_) (fun h50 => absurd h0 h50)
          refine J_aload_n (pc := 55) D10_numeral_55 rfl ?_
          refine J_getf (pc := 56) D10_numeral_56 fl10_168 rfl rfl ?_
          refine J_istore_n (pc := 59) D10_numeral_59 rfl ?_
          refine J_aload_n (pc := 60) D10_numeral_60 rfl ?_
          refine J_callVT (pc := 61) (ac := []) D10_numeral_61 m10_token_v t1435 (tokC_l (d := d) (C := C) hK hTP h h0) (by omega) rfl rfl rfl rfl rfl rfl rfl (fun r w' hq hl => ?_)
          obtain ⟨rfl, s2, rfl, a2, b2⟩ := hq
          refine J_iload_n (pc := 64) D10_numeral_64 rfl ?_
          refine J_iret (pc := 65) D10_numeral_65 rfl ?_
          have hv := ncm.mp ⟨h30, h38⟩
          have en := numC_g (lo := nI a) (hi := nI b) h0 (hnum.mp h14) hv
          have ev := nu_eq nv hb hv.2
          refine ⟨_, s2, rfl, rfl, a2, by rw [en]; exact b2, fun _ => ⟨?_, by rw [ev]; exact hv.1, by rw [ev]; exact hv.2⟩⟩
          unfold numV
          rw [en, step_2, if_pos h0]
          exact ev
        · have h38' := Int32.not_le.mp h38
          refine J_aload_n (pc := 41) D10_numeral_41 rfl ?_
          refine J_iconst (pc := 42) (v := (nI 2)) D10_numeral_42 (by decide) ?_
          refine J_callVT (pc := 43) (ac := [.int _]) D10_numeral_43 m10_wrong_v t1469 (c10_wrong (d := d + 5) (C := C) h (by decide)) (by omega) rfl rfl rfl rfl rfl rfl rfl (fun r w' hq hl => ?_)
          obtain ⟨rfl, s2, rfl, a2, b2⟩ := hq
          refine J_aload_n (pc := 46) D10_numeral_46 rfl ?_
          refine J_getf (pc := 47) D10_numeral_47 fl10_193 rfl rfl ?_
          rw [b2.1]
          refine J_if_eq (pc := 50) (tgt := 55) D10_numeral_50 (by decide) (fun h50 => absurd h50 (ref_nz h0 (by decide))) (fun h50 => ?_)
          refine J_iload_n (pc := 53) D10_numeral_53 rfl ?_
          refine J_iret (pc := 54) D10_numeral_54 rfl ?_
          have en := numC_b (lo := nI a) (hi := nI b) h0 (hnum.mp h14) (fun q => h38 (ncm.mpr q).2)
          exact ⟨_, s2, rfl, rfl, a2, by rw [en]; exact b2, fun q => absurd q (by rw [en]; exact ref_nz h0 (by decide))⟩
    · refine J_aload_n (pc := 17) D10_numeral_17 rfl ?_
      refine J_iconst (pc := 18) (v := (nI 1)) D10_numeral_18 (by decide) ?_
      refine J_callVT (pc := 19) (ac := [.int _]) D10_numeral_19 m10_wrong_v t1469 (c10_wrong (d := d + 5) (C := C) h (by decide)) (by omega) rfl rfl rfl rfl rfl rfl rfl (fun r w' hq hl => ?_)
      obtain ⟨rfl, s2, rfl, a2, b2⟩ := hq
      refine J_goto (pc := 22) (tgt := 46) D10_numeral_22 (by decide) ?_
      refine J_aload_n (pc := 46) D10_numeral_46 rfl ?_
      refine J_getf (pc := 47) D10_numeral_47 fl10_193 rfl rfl ?_
      rw [b2.1]
      refine J_if_eq (pc := 50) (tgt := 55) D10_numeral_50 (by decide) (fun h50 => absurd h50 (ref_nz h0 (by decide))) (fun h50 => ?_)
      refine J_iload_n (pc := 53) D10_numeral_53 rfl ?_
      refine J_iret (pc := 54) D10_numeral_54 rfl ?_
      have en := numC_k (lo := nI a) (hi := nI b) h0 (fun q => h14 (hnum.mpr q))
      exact ⟨_, s2, rfl, rfl, a2, by rw [en]; exact b2, fun q => absurd q (by rw [en]; exact ref_nz h0 (by decide))⟩
  · have en := numC_f (K := K) (lo := lo) (hi := nI b) h0
    refine Tr.intro (by decide) rfl ?_
    refine J_aload_n (pc := 0) D10_numeral_0 rfl ?_
    refine J_getf (pc := 1) D10_numeral_1 fl10_193 rfl rfl ?_
    rw [h1]
    refine J_if_eq (pc := 4) (tgt := 9) D10_numeral_4 (by decide) (fun h4 => absurd h4 h0) (fun h4 => ?_)
    refine J_iload_n (pc := 7) D10_numeral_7 rfl ?_
    refine J_iret (pc := 8) D10_numeral_8 rfl ?_
    exact ⟨_, s, rfl, rfl, FS.rf, by rw [en]; exact h, fun q => absurd (by rw [en] at q; exact q) h0⟩
theorem newC_f {K : TK} {al : Int32} {C : RC} (h : ¬ C.2.1 = 0) : newC K al C = C := by
  show takC K (nI 30) (newC1 K al C) = _
  rw [show newC1 K al C = C from if_neg (fun q => h q.1), takC_f h]
theorem newC_k {K : TK} {al : Int32} {C : RC} (h : C.2.1 = 0) (hk : ¬ K.2.2.2.1 C.1 = nI 30) : newC K al C = refC K (nI 1) C := by
  show takC K (nI 30) (newC1 K al C) = _
  rw [show newC1 K al C = C from if_neg (fun q => hk q.2.1), takC_n h hk]
theorem newC_b {K : TK} {al : Int32} {C : RC} (h : C.2.1 = 0) (hk : K.2.2.2.1 C.1 = nI 30) (hv : ¬ al = -1) : newC K al C = refC K (nI 3) C := by
  show takC K (nI 30) (newC1 K al C) = _
  rw [show newC1 K al C = refC K (nI 3) C from if_pos ⟨h, hk, hv⟩, takC_f (ref_nz h (by decide))]
theorem newC_g {K : TK} {al : Int32} {C : RC} (h : C.2.1 = 0) (hk : K.2.2.2.1 C.1 = nI 30) (hv : al = -1) : newC K al C = stepC K C := by
  show takC K (nI 30) (newC1 K al C) = _
  rw [show newC1 K al C = C from if_neg (fun q => q.2.2 hv), takC_y h hk]
theorem c10_freshM {d : Nat} {s : Nat → Int32} {A : Nat → Nat → Int32} {L0 : LL} {M : Nat → MR} {K : TK} {L cnt : Nat} (hK : KT K L cnt) (hTP : TP K.2.2.1 (A 1) L) {C : RC} (h : CRl K L cnt s C) {n : Nat} (hn : n ≤ 5) {f : Nat → Int32} (hf : ∀ i, i < n → A 4 (5 + i) = f i) : Tr (d + 6) 0 0 m10_fresh [.ref 0, .ref 3, .int (nI 5), .int (nI n)] (modW s A L0 M) (nuQ K L cnt s A L0 M (newC K (wkI (plL f (K.2.2.2.2.2 C.1) n 0)) C) (fun v => v = K.2.2.2.2.2 C.1)) := by
  have h1 := h.1
  by_cases h0 : C.2.1 = 0
  · have hm := h.2.2 h0
    have kvr := hm.2.2.2.1
    have hnam := kv_nam kvr
    refine Tr.intro (by decide) rfl ?_
    refine J_aload_n (pc := 0) D10_fresh_0 rfl ?_
    refine J_getf (pc := 1) D10_fresh_1 fl10_193 rfl rfl ?_
    rw [h1]
    refine J_if_eq (pc := 4) (tgt := 9) D10_fresh_4 (by decide) (fun h4 => ?_) (fun h4 => absurd h0 h4)
    refine J_aload_n (pc := 9) D10_fresh_9 rfl ?_
    refine J_getf (pc := 10) D10_fresh_10 fl10_158 rfl rfl ?_
    refine J_iconst (pc := 13) (v := (nI 1)) D10_fresh_13 (by decide) ?_
    refine J_icmp_eq (pc := 14) (tgt := 25) D10_fresh_14 (by decide) (fun h14 => ?_) (fun h14 => ?_)
    · have h14' := eq_true h14
      refine J_aload_n (pc := 25) D10_fresh_25 rfl ?_
      refine J_iload_n (pc := 26) D10_fresh_26 rfl ?_
      refine J_iload_n (pc := 27) D10_fresh_27 rfl ?_
      refine J_aload_n (pc := 28) D10_fresh_28 rfl ?_
      refine J_getf (pc := 29) D10_fresh_29 fl10_168 rfl rfl ?_
      refine J_callSR (pc := 32) (ι := [3]) (ac := [.ref 0, .int _, .int _, .int _]) D10_fresh_32 m10_found_s t1485 (c10_found (d := d + 5) (N := 10) (fr := 5) (n := n) (f := A 4) rfl (by omega)) (by omega) ⟨rfl, rfl⟩ rfl rfl (fun _ => rfl) rfl rfl rfl ?_
      rw [kv_val kvr (hnam.mp h14), plL_c (f := fun j => A 4 (5 + j)) (g := f) n 0 (fun j _ hj => hf j (by omega))]
      refine J_iconst (pc := 35) (v := (-1)) D10_fresh_35 (by decide) ?_
      refine J_icmp_eq (pc := 36) (tgt := 44) D10_fresh_36 (by decide) (fun h36 => ?_) (fun h36 => ?_)
      · have h36' := eq_true h36
        refine J_aload_n (pc := 44) D10_fresh_44 rfl ?_
        refine J_getf (pc := 45) D10_fresh_45 fl10_193 rfl rfl ?_
        rw [h1]
        refine J_if_eq (pc := 48) (tgt := 53) D10_fresh_48 (by decide) (fun h48 => ?_) (fun h48 => absurd h0 h48)
        refine J_aload_n (pc := 53) D10_fresh_53 rfl ?_
        refine J_getf (pc := 54) D10_fresh_54 fl10_168 rfl rfl ?_
        refine J_istore (pc := 57) D10_fresh_57 rfl ?_
        refine J_aload_n (pc := 59) D10_fresh_59 rfl ?_
        refine J_callVT (pc := 60) (ac := []) D10_fresh_60 m10_token_v t1435 (tokC_l (d := d) (C := C) hK hTP h h0) (by omega) rfl rfl rfl rfl rfl rfl rfl (fun r w' hq hl => ?_)
        obtain ⟨rfl, s2, rfl, a2, b2⟩ := hq
        refine J_iload (pc := 63) D10_fresh_63 rfl ?_
        refine J_iret (pc := 65) D10_fresh_65 rfl ?_
        have en := newC_g h0 (hnam.mp h14) h36
        exact ⟨_, s2, rfl, rfl, a2, by rw [en]; exact b2, fun _ => kv_val kvr (hnam.mp h14)⟩
      · refine J_aload_n (pc := 39) D10_fresh_39 rfl ?_
        refine J_iconst (pc := 40) (v := (nI 3)) D10_fresh_40 (by decide) ?_
        refine J_callVT (pc := 41) (ac := [.int _]) D10_fresh_41 m10_wrong_v t1469 (c10_wrong (d := d + 5) (C := C) h (by decide)) (by omega) rfl rfl rfl rfl rfl rfl rfl (fun r w' hq hl => ?_)
        obtain ⟨rfl, s2, rfl, a2, b2⟩ := hq
        refine J_aload_n (pc := 44) D10_fresh_44 rfl ?_
        refine J_getf (pc := 45) D10_fresh_45 fl10_193 rfl rfl ?_
        rw [b2.1]
        refine J_if_eq (pc := 48) (tgt := 53) D10_fresh_48 (by decide) (fun h48 => absurd h48 (ref_nz h0 (by decide))) (fun h48 => ?_)
        refine J_iconst (pc := 51) (v := (nI 0)) D10_fresh_51 (by decide) ?_
        refine J_iret (pc := 52) D10_fresh_52 rfl ?_
        have en := newC_b h0 (hnam.mp h14) h36
        exact ⟨_, s2, rfl, rfl, a2, by rw [en]; exact b2, fun q => absurd q (by rw [en]; exact ref_nz h0 (by decide))⟩
    · refine J_aload_n (pc := 17) D10_fresh_17 rfl ?_
      refine J_iconst (pc := 18) (v := (nI 1)) D10_fresh_18 (by decide) ?_
      refine J_callVT (pc := 19) (ac := [.int _]) D10_fresh_19 m10_wrong_v t1469 (c10_wrong (d := d + 5) (C := C) h (by decide)) (by omega) rfl rfl rfl rfl rfl rfl rfl (fun r w' hq hl => ?_)
      obtain ⟨rfl, s2, rfl, a2, b2⟩ := hq
      refine J_goto (pc := 22) (tgt := 44) D10_fresh_22 (by decide) ?_
      refine J_aload_n (pc := 44) D10_fresh_44 rfl ?_
      refine J_getf (pc := 45) D10_fresh_45 fl10_193 rfl rfl ?_
      rw [b2.1]
      refine J_if_eq (pc := 48) (tgt := 53) D10_fresh_48 (by decide) (fun h48 => absurd h48 (ref_nz h0 (by decide))) (fun h48 => ?_)
      refine J_iconst (pc := 51) (v := (nI 0)) D10_fresh_51 (by decide) ?_
      refine J_iret (pc := 52) D10_fresh_52 rfl ?_
      have en := newC_k (al := wkI (plL f (K.2.2.2.2.2 C.1) n 0)) h0 (fun q => h14 (hnam.mpr q))
      exact ⟨_, s2, rfl, rfl, a2, by rw [en]; exact b2, fun q => absurd q (by rw [en]; exact ref_nz h0 (by decide))⟩
  · have en := newC_f (K := K) (al := wkI (plL f (K.2.2.2.2.2 C.1) n 0)) h0
    refine Tr.intro (by decide) rfl ?_
    refine J_aload_n (pc := 0) D10_fresh_0 rfl ?_
    refine J_getf (pc := 1) D10_fresh_1 fl10_193 rfl rfl ?_
    rw [h1]
    refine J_if_eq (pc := 4) (tgt := 9) D10_fresh_4 (by decide) (fun h4 => absurd h4 h0) (fun h4 => ?_)
    refine J_iconst (pc := 7) (v := (nI 0)) D10_fresh_7 (by decide) ?_
    refine J_iret (pc := 8) D10_fresh_8 rfl ?_
    exact ⟨_, s, rfl, rfl, FS.rf, by rw [en]; exact h, fun q => absurd (by rw [en] at q; exact q) h0⟩
theorem c10_freshB {d : Nat} {s : Nat → Int32} {A : Nat → Nat → Int32} {L0 : LL} {M : Nat → MR} {K : TK} {L cnt : Nat} (hK : KT K L cnt) (hTP : TP K.2.2.1 (A 1) L) {C : RC} (h : CRl K L cnt s C) {n : Nat} (hn : n ≤ 10) {f : Nat → Int32} (hf : ∀ i, i < n → A 6 (10 + i) = f i) : Tr (d + 6) 0 0 m10_fresh [.ref 0, .ref 5, .int (nI 10), .int (nI n)] (modW s A L0 M) (nuQ K L cnt s A L0 M (newC K (wkI (plL f (K.2.2.2.2.2 C.1) n 0)) C) (fun v => v = K.2.2.2.2.2 C.1)) := by
  have h1 := h.1
  by_cases h0 : C.2.1 = 0
  · have hm := h.2.2 h0
    have kvr := hm.2.2.2.1
    have hnam := kv_nam kvr
    refine Tr.intro (by decide) rfl ?_
    refine J_aload_n (pc := 0) D10_fresh_0 rfl ?_
    refine J_getf (pc := 1) D10_fresh_1 fl10_193 rfl rfl ?_
    rw [h1]
    refine J_if_eq (pc := 4) (tgt := 9) D10_fresh_4 (by decide) (fun h4 => ?_) (fun h4 => absurd h0 h4)
    refine J_aload_n (pc := 9) D10_fresh_9 rfl ?_
    refine J_getf (pc := 10) D10_fresh_10 fl10_158 rfl rfl ?_
    refine J_iconst (pc := 13) (v := (nI 1)) D10_fresh_13 (by decide) ?_
    refine J_icmp_eq (pc := 14) (tgt := 25) D10_fresh_14 (by decide) (fun h14 => ?_) (fun h14 => ?_)
    · have h14' := eq_true h14
      refine J_aload_n (pc := 25) D10_fresh_25 rfl ?_
      refine J_iload_n (pc := 26) D10_fresh_26 rfl ?_
      refine J_iload_n (pc := 27) D10_fresh_27 rfl ?_
      refine J_aload_n (pc := 28) D10_fresh_28 rfl ?_
      refine J_getf (pc := 29) D10_fresh_29 fl10_168 rfl rfl ?_
      refine J_callSR (pc := 32) (ι := [5]) (ac := [.ref 0, .int _, .int _, .int _]) D10_fresh_32 m10_found_s t1485 (c10_found (d := d + 5) (N := 20) (fr := 10) (n := n) (f := A 6) rfl (by omega)) (by omega) ⟨rfl, rfl⟩ rfl rfl (fun _ => rfl) rfl rfl rfl ?_
      rw [kv_val kvr (hnam.mp h14), plL_c (f := fun j => A 6 (10 + j)) (g := f) n 0 (fun j _ hj => hf j (by omega))]
      refine J_iconst (pc := 35) (v := (-1)) D10_fresh_35 (by decide) ?_
      refine J_icmp_eq (pc := 36) (tgt := 44) D10_fresh_36 (by decide) (fun h36 => ?_) (fun h36 => ?_)
      · have h36' := eq_true h36
        refine J_aload_n (pc := 44) D10_fresh_44 rfl ?_
        refine J_getf (pc := 45) D10_fresh_45 fl10_193 rfl rfl ?_
        rw [h1]
        refine J_if_eq (pc := 48) (tgt := 53) D10_fresh_48 (by decide) (fun h48 => ?_) (fun h48 => absurd h0 h48)
        refine J_aload_n (pc := 53) D10_fresh_53 rfl ?_
        refine J_getf (pc := 54) D10_fresh_54 fl10_168 rfl rfl ?_
        refine J_istore (pc := 57) D10_fresh_57 rfl ?_
        refine J_aload_n (pc := 59) D10_fresh_59 rfl ?_
        refine J_callVT (pc := 60) (ac := []) D10_fresh_60 m10_token_v t1435 (tokC_l (d := d) (C := C) hK hTP h h0) (by omega) rfl rfl rfl rfl rfl rfl rfl (fun r w' hq hl => ?_)
        obtain ⟨rfl, s2, rfl, a2, b2⟩ := hq
        refine J_iload (pc := 63) D10_fresh_63 rfl ?_
        refine J_iret (pc := 65) D10_fresh_65 rfl ?_
        have en := newC_g h0 (hnam.mp h14) h36
        exact ⟨_, s2, rfl, rfl, a2, by rw [en]; exact b2, fun _ => kv_val kvr (hnam.mp h14)⟩
      · refine J_aload_n (pc := 39) D10_fresh_39 rfl ?_
        refine J_iconst (pc := 40) (v := (nI 3)) D10_fresh_40 (by decide) ?_
        refine J_callVT (pc := 41) (ac := [.int _]) D10_fresh_41 m10_wrong_v t1469 (c10_wrong (d := d + 5) (C := C) h (by decide)) (by omega) rfl rfl rfl rfl rfl rfl rfl (fun r w' hq hl => ?_)
        obtain ⟨rfl, s2, rfl, a2, b2⟩ := hq
        refine J_aload_n (pc := 44) D10_fresh_44 rfl ?_
        refine J_getf (pc := 45) D10_fresh_45 fl10_193 rfl rfl ?_
        rw [b2.1]
        refine J_if_eq (pc := 48) (tgt := 53) D10_fresh_48 (by decide) (fun h48 => absurd h48 (ref_nz h0 (by decide))) (fun h48 => ?_)
        refine J_iconst (pc := 51) (v := (nI 0)) D10_fresh_51 (by decide) ?_
        refine J_iret (pc := 52) D10_fresh_52 rfl ?_
        have en := newC_b h0 (hnam.mp h14) h36
        exact ⟨_, s2, rfl, rfl, a2, by rw [en]; exact b2, fun q => absurd q (by rw [en]; exact ref_nz h0 (by decide))⟩
    · refine J_aload_n (pc := 17) D10_fresh_17 rfl ?_
      refine J_iconst (pc := 18) (v := (nI 1)) D10_fresh_18 (by decide) ?_
      refine J_callVT (pc := 19) (ac := [.int _]) D10_fresh_19 m10_wrong_v t1469 (c10_wrong (d := d + 5) (C := C) h (by decide)) (by omega) rfl rfl rfl rfl rfl rfl rfl (fun r w' hq hl => ?_)
      obtain ⟨rfl, s2, rfl, a2, b2⟩ := hq
      refine J_goto (pc := 22) (tgt := 44) D10_fresh_22 (by decide) ?_
      refine J_aload_n (pc := 44) D10_fresh_44 rfl ?_
      refine J_getf (pc := 45) D10_fresh_45 fl10_193 rfl rfl ?_
      rw [b2.1]
      refine J_if_eq (pc := 48) (tgt := 53) D10_fresh_48 (by decide) (fun h48 => absurd h48 (ref_nz h0 (by decide))) (fun h48 => ?_)
      refine J_iconst (pc := 51) (v := (nI 0)) D10_fresh_51 (by decide) ?_
      refine J_iret (pc := 52) D10_fresh_52 rfl ?_
      have en := newC_k (al := wkI (plL f (K.2.2.2.2.2 C.1) n 0)) h0 (fun q => h14 (hnam.mpr q))
      exact ⟨_, s2, rfl, rfl, a2, by rw [en]; exact b2, fun q => absurd q (by rw [en]; exact ref_nz h0 (by decide))⟩
  · have en := newC_f (K := K) (al := wkI (plL f (K.2.2.2.2.2 C.1) n 0)) h0
    refine Tr.intro (by decide) rfl ?_
    refine J_aload_n (pc := 0) D10_fresh_0 rfl ?_
    refine J_getf (pc := 1) D10_fresh_1 fl10_193 rfl rfl ?_
    rw [h1]
    refine J_if_eq (pc := 4) (tgt := 9) D10_fresh_4 (by decide) (fun h4 => absurd h4 h0) (fun h4 => ?_)
    refine J_iconst (pc := 7) (v := (nI 0)) D10_fresh_7 (by decide) ?_
    refine J_iret (pc := 8) D10_fresh_8 rfl ?_
    exact ⟨_, s, rfl, rfl, FS.rf, by rw [en]; exact h, fun q => absurd (by rw [en] at q; exact q) h0⟩
/-- the person at hand: nobody, or it stays -/
def hanC (K : TK) (q : Int32) (C : RC) : RC := if C.2.1 = 0 then (if K.2.2.2.1 C.1 = nI 30 then (if q = -1 then refC K (nI 4) C else C) else refC K (nI 1) C) else C
theorem c10_manAtHand {d : Nat} {s : Nat → Int32} {A : Nat → Nat → Int32} {L0 : LL} {M : Nat → MR} {K : TK} {L cnt : Nat} (hK : KT K L cnt) (hTP : TP K.2.2.1 (A 1) L) {C : RC} (h : CRl K L cnt s C) {np : Nat} (hnp : np ≤ 5) (e6 : A 3 6 = nI np) {f : Nat → Int32} (hf : ∀ i, i < np → A 4 (5 + i) = f i) : Tr (d + 6) 0 0 m10_manAtHand [.ref 0] (modW s A L0 M) (nuQ K L cnt s A L0 M (hanC K (wkI (plL f (K.2.2.2.2.2 C.1) np 0)) C) (fun v => v = wkI (plL f (K.2.2.2.2.2 C.1) np 0))) := by
  have h1 := h.1
  by_cases h0 : C.2.1 = 0
  · have hm := h.2.2 h0
    have kvr := hm.2.2.2.1
    have hnam := kv_nam kvr
    refine Tr.intro (by decide) rfl ?_
    refine J_aload_n (pc := 0) D10_manAtHand_0 rfl ?_
    refine J_getf (pc := 1) D10_manAtHand_1 fl10_193 rfl rfl ?_
    rw [h1]
    refine J_if_eq (pc := 4) (tgt := 9) D10_manAtHand_4 (by decide) (fun h4 => ?_) (fun h4 => absurd h0 h4)
    refine J_aload_n (pc := 9) D10_manAtHand_9 rfl ?_
    refine J_getf (pc := 10) D10_manAtHand_10 fl10_158 rfl rfl ?_
    refine J_iconst (pc := 13) (v := (nI 1)) D10_manAtHand_13 (by decide) ?_
    refine J_icmp_eq (pc := 14) (tgt := 25) D10_manAtHand_14 (by decide) (fun h14 => ?_) (fun h14 => ?_)
    · have h14' := eq_true h14
      refine J_aload_n (pc := 25) D10_manAtHand_25 rfl ?_
      refine J_getf (pc := 26) D10_manAtHand_26 fl10_16 rfl rfl ?_
      refine J_iconst (pc := 29) (v := (nI 5)) D10_manAtHand_29 (by decide) ?_
      refine J_aload_n (pc := 30) D10_manAtHand_30 rfl ?_
      refine J_iconst (pc := 31) (v := (nI 0)) D10_manAtHand_31 (by decide) ?_
      refine J_callVTR (pc := 32) (ac := [.int _]) D10_manAtHand_32 m10_fresher_v t1477 (c10_fresher (d := d + 5) (k := 0) (by decide)) (by omega) rfl rfl rfl rfl (fun _ => rfl) rfl rfl rfl ?_
      refine J_aload_n (pc := 35) D10_manAtHand_35 rfl ?_
      refine J_getf (pc := 36) D10_manAtHand_36 fl10_168 rfl rfl ?_
      rw [e6]
      refine J_callSR (pc := 39) (ι := [3]) (ac := [.ref 0, .int _, .int _, .int _]) D10_manAtHand_39 m10_found_s t1485 (c10_found (d := d + 5) (N := 10) (fr := 5) (n := np) (f := A 4) rfl (by omega)) (by omega) ⟨rfl, rfl⟩ rfl rfl (fun _ => rfl) rfl rfl rfl ?_
      rw [kv_val kvr (hnam.mp h14), plL_c (f := fun j => A 4 (5 + j)) (g := f) np 0 (fun j _ hj => hf j (by omega))]
      refine J_iconst (pc := 42) (v := (-1)) D10_manAtHand_42 (by decide) ?_
      refine J_icmp_ne (pc := 43) (tgt := 51) D10_manAtHand_43 (by decide) (fun h43 => ?_) (fun h43 => ?_)
      · refine J_aload_n (pc := 51) D10_manAtHand_51 rfl ?_
        refine J_getf (pc := 52) D10_manAtHand_52 fl10_193 rfl rfl ?_
        rw [h1]
        refine J_if_eq (pc := 55) (tgt := 62) D10_manAtHand_55 (by decide) (fun h55 => ?_) (fun h55 => absurd h0 h55)
        refine J_aload_n (pc := 62) D10_manAtHand_62 rfl ?_
        refine J_getf (pc := 63) D10_manAtHand_63 fl10_16 rfl rfl ?_
        refine J_iconst (pc := 66) (v := (nI 5)) D10_manAtHand_66 (by decide) ?_
        refine J_aload_n (pc := 67) D10_manAtHand_67 rfl ?_
        refine J_iconst (pc := 68) (v := (nI 0)) D10_manAtHand_68 (by decide) ?_
        refine J_callVTR (pc := 69) (ac := [.int _]) D10_manAtHand_69 m10_fresher_v t1477 (c10_fresher (d := d + 5) (k := 0) (by decide)) (by omega) rfl rfl rfl rfl (fun _ => rfl) rfl rfl rfl ?_
        refine J_aload_n (pc := 72) D10_manAtHand_72 rfl ?_
        refine J_getf (pc := 73) D10_manAtHand_73 fl10_168 rfl rfl ?_
        rw [e6]
        refine J_callSR (pc := 76) (ι := [3]) (ac := [.ref 0, .int _, .int _, .int _]) D10_manAtHand_76 m10_found_s t1485 (c10_found (d := d + 5) (N := 10) (fr := 5) (n := np) (f := A 4) rfl (by omega)) (by omega) ⟨rfl, rfl⟩ rfl rfl (fun _ => rfl) rfl rfl rfl ?_
        rw [kv_val kvr (hnam.mp h14), plL_c (f := fun j => A 4 (5 + j)) (g := f) np 0 (fun j _ hj => hf j (by omega))]
        refine J_iret (pc := 79) D10_manAtHand_79 rfl ?_
        have en : hanC K (wkI (plL f (K.2.2.2.2.2 C.1) np 0)) C = C := by unfold hanC; rw [if_pos h0, if_pos (hnam.mp h14), if_neg h43]
        exact ⟨_, s, rfl, rfl, FS.rf, by rw [en]; exact h, fun _ => rfl⟩
      · have h43' := eq_true h43
        refine J_aload_n (pc := 46) D10_manAtHand_46 rfl ?_
        refine J_iconst (pc := 47) (v := (nI 4)) D10_manAtHand_47 (by decide) ?_
        refine J_callVT (pc := 48) (ac := [.int _]) D10_manAtHand_48 m10_wrong_v t1469 (c10_wrong (d := d + 5) (C := C) h (by decide)) (by omega) rfl rfl rfl rfl rfl rfl rfl (fun r w' hq hl => ?_)
        obtain ⟨rfl, s2, rfl, a2, b2⟩ := hq
        refine J_aload_n (pc := 51) D10_manAtHand_51 rfl ?_
        refine J_getf (pc := 52) D10_manAtHand_52 fl10_193 rfl rfl ?_
        rw [b2.1]
        refine J_if_eq (pc := 55) (tgt := 62) D10_manAtHand_55 (by decide) (fun h55 => absurd h55 (ref_nz h0 (by decide))) (fun h55 => ?_)
        refine J_iconst (pc := 58) (v := (nI 0)) D10_manAtHand_58 (by decide) ?_
        refine J_goto (pc := 59) (tgt := 79) D10_manAtHand_59 (by decide) ?_
        refine J_iret (pc := 79) D10_manAtHand_79 rfl ?_
        have en : hanC K (wkI (plL f (K.2.2.2.2.2 C.1) np 0)) C = refC K (nI 4) C := by unfold hanC; rw [if_pos h0, if_pos (hnam.mp h14), if_pos h43]
        exact ⟨_, s2, rfl, rfl, a2, by rw [en]; exact b2, fun q => absurd q (by rw [en]; exact ref_nz h0 (by decide))⟩
    · refine J_aload_n (pc := 17) D10_manAtHand_17 rfl ?_
      refine J_iconst (pc := 18) (v := (nI 1)) D10_manAtHand_18 (by decide) ?_
      refine J_callVT (pc := 19) (ac := [.int _]) D10_manAtHand_19 m10_wrong_v t1469 (c10_wrong (d := d + 5) (C := C) h (by decide)) (by omega) rfl rfl rfl rfl rfl rfl rfl (fun r w' hq hl => ?_)
      obtain ⟨rfl, s2, rfl, a2, b2⟩ := hq
      refine J_goto (pc := 22) (tgt := 51) D10_manAtHand_22 (by decide) ?_
      refine J_aload_n (pc := 51) D10_manAtHand_51 rfl ?_
      refine J_getf (pc := 52) D10_manAtHand_52 fl10_193 rfl rfl ?_
      rw [b2.1]
      refine J_if_eq (pc := 55) (tgt := 62) D10_manAtHand_55 (by decide) (fun h55 => absurd h55 (ref_nz h0 (by decide))) (fun h55 => ?_)
      refine J_iconst (pc := 58) (v := (nI 0)) D10_manAtHand_58 (by decide) ?_
      refine J_goto (pc := 59) (tgt := 79) D10_manAtHand_59 (by decide) ?_
      refine J_iret (pc := 79) D10_manAtHand_79 rfl ?_
      have en : hanC K (wkI (plL f (K.2.2.2.2.2 C.1) np 0)) C = refC K (nI 1) C := by unfold hanC; rw [if_pos h0, if_neg (fun q => h14 (hnam.mpr q))]
      exact ⟨_, s2, rfl, rfl, a2, by rw [en]; exact b2, fun q => absurd q (by rw [en]; exact ref_nz h0 (by decide))⟩
  · have en : hanC K (wkI (plL f (K.2.2.2.2.2 C.1) np 0)) C = C := if_neg h0
    refine Tr.intro (by decide) rfl ?_
    refine J_aload_n (pc := 0) D10_manAtHand_0 rfl ?_
    refine J_getf (pc := 1) D10_manAtHand_1 fl10_193 rfl rfl ?_
    rw [h1]
    refine J_if_eq (pc := 4) (tgt := 9) D10_manAtHand_4 (by decide) (fun h4 => absurd h4 h0) (fun h4 => ?_)
    refine J_iconst (pc := 7) (v := (nI 0)) D10_manAtHand_7 (by decide) ?_
    refine J_iret (pc := 8) D10_manAtHand_8 rfl ?_
    exact ⟨_, s, rfl, rfl, FS.rf, by rw [en]; exact h, fun q => absurd (by rw [en] at q; exact q) h0⟩
theorem perC_e {K : TK} {q oth : Int32} {C : RC} (ho : C.2.1 = 0 → K.2.2.2.1 C.1 = nI 30 → ¬ q = -1 → ¬ q = oth) : perC K q oth C = goC K (hanC K q C) := by
  show takC K (nI 30) (perC2 K q oth (perC1 K q C)) = goC K (hanC K q C)
  by_cases h0 : C.2.1 = 0
  · by_cases hk : K.2.2.2.1 C.1 = nI 30
    · by_cases hq : q = -1
      · rw [show perC1 K q C = refC K (nI 4) C from if_pos ⟨h0, hk, hq⟩, show hanC K q C = refC K (nI 4) C from by unfold hanC; rw [if_pos h0, if_pos hk, if_pos hq]]
        have hz : ¬ (refC K (nI 4) C).2.1 = 0 := ref_nz h0 (by decide)
        rw [show perC2 K q oth (refC K (nI 4) C) = refC K (nI 4) C from if_neg (fun z => hz z.1), takC_f hz]
        exact (if_neg hz).symm
      · rw [show perC1 K q C = C from if_neg (fun z => hq z.2.2), show hanC K q C = C from by unfold hanC; rw [if_pos h0, if_pos hk, if_neg hq], show perC2 K q oth C = C from if_neg (fun z => ho h0 hk hq z.2.2), takC_y h0 hk]
        exact (if_pos h0).symm
    · rw [show perC1 K q C = C from if_neg (fun z => hk z.2.1), show hanC K q C = refC K (nI 1) C from by unfold hanC; rw [if_pos h0, if_neg hk], show perC2 K q oth C = C from if_neg (fun z => hk z.2.1), takC_n h0 hk]
      exact (if_neg (ref_nz h0 (by decide))).symm
  · rw [show perC1 K q C = C from if_neg (fun z => h0 z.1), show hanC K q C = C from if_neg h0, show perC2 K q oth C = C from if_neg (fun z => h0 z.1), takC_f h0]
    exact (if_neg h0).symm
theorem han_0 {K : TK} {q : Int32} {C : RC} (h : (hanC K q C).2.1 = 0) : C.2.1 = 0 ∧ hanC K q C = C ∧ K.2.2.2.1 C.1 = nI 30 ∧ ¬ q = -1 := by
  unfold hanC at h ⊢
  by_cases h0 : C.2.1 = 0
  · rw [if_pos h0] at h ⊢
    by_cases hk : K.2.2.2.1 C.1 = nI 30
    · rw [if_pos hk] at h ⊢
      by_cases hq : q = -1
      · rw [if_pos hq, refC_0 h0] at h; exact absurd h (show ¬ nI 4 = 0 by decide)
      · rw [if_neg hq]; exact ⟨h0, rfl, hk, hq⟩
    · rw [if_neg hk, refC_0 h0] at h; exact absurd h (show ¬ nI 1 = 0 by decide)
  · rw [if_neg h0] at h; exact absurd h h0
theorem goC_f {K : TK} {C : RC} : (goC K C).2 = C.2 := by
  unfold goC
  split
  · exact step_2
  · rfl
theorem c10_manAhead {d : Nat} {s : Nat → Int32} {A : Nat → Nat → Int32} {L0 : LL} {M : Nat → MR} {K : TK} {L cnt : Nat} (hK : KT K L cnt) (hTP : TP K.2.2.1 (A 1) L) {C : RC} (h : CRl K L cnt s C) {np : Nat} (hnp : np ≤ 5) (e6 : A 3 6 = nI np) {f : Nat → Int32} (hf : ∀ i, i < np → A 4 (5 + i) = f i) : Tr (d + 7) 0 0 m10_manAhead [.ref 0] (modW s A L0 M) (nuQ K L cnt s A L0 M (goC K (hanC K (wkI (plL f (K.2.2.2.2.2 C.1) np 0)) C)) (fun v => v = wkI (plL f (K.2.2.2.2.2 C.1) np 0))) := by
  refine Tr.intro (by decide) rfl ?_
  refine J_aload_n (pc := 0) D10_manAhead_0 rfl ?_
  refine J_callVT (pc := 1) (ac := []) D10_manAhead_1 m10_manAtHand_v t1500 (c10_manAtHand (d := d) hK hTP h hnp e6 hf) (by omega) rfl rfl rfl rfl rfl rfl rfl (fun r w' hq hl => ?_)
  obtain ⟨v, s2, rfl, rfl, a2, b2, c2⟩ := hq
  refine J_istore_n (pc := 4) D10_manAhead_4 rfl ?_
  refine J_aload_n (pc := 5) D10_manAhead_5 rfl ?_
  refine J_callVT (pc := 6) (ac := []) D10_manAhead_6 m10_goOn_v t1504 (c10_goOn (d := d) hK hTP b2) (by omega) rfl rfl rfl rfl rfl rfl rfl (fun r w' hq hl => ?_)
  obtain ⟨rfl, s3, rfl, a3, b3⟩ := hq
  refine J_iload_n (pc := 9) D10_manAhead_9 rfl ?_
  refine J_iret (pc := 10) D10_manAhead_10 rfl ?_
  exact ⟨v, s3, rfl, rfl, a2.tr a3, b3, fun q => c2 (by rw [goC_f] at q; exact q)⟩
