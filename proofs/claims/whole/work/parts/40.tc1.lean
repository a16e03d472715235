/-! TEMPERCELLAR: what looks at the told and at now (own; walks by program wk.py) -/
def thC (tl hi : Int32) : EC := .inr (9, [.ref 67, .int tl, .ref 1, .ref 72, .ref 66, .ref 71, .ref 19, .ref 56, .int hi, .ref 29, .ref 39, .ref 42, .ref 46, .ref 53, .ref 55])
def tcA (tl hi : Int32) (T : TV) (V : CV) : List EC := thC tl hi :: (toldC 1 T ++ celC 19 V)
def ixB (n : Nat) (x : Int32) : Bool := decide (0 ≤ x) && decide (x < nI n)
theorem ixB_t {n : Nat} {x : Int32} (h : ixB n x = true) (hn : n < 2 ^ 31) : ∃ b, b < n ∧ x = nI b := by
  unfold ixB at h
  have h1 := of_decide_eq_true (Bool.and_eq_true_iff.mp h).1
  have h2 := of_decide_eq_true (Bool.and_eq_true_iff.mp h).2
  obtain ⟨j, hj, rfl⟩ := nI_of (Int32.not_lt.mpr h1)
  exact ⟨j, (nI_ltI hj hn).mp h2, rfl⟩
theorem ixB_n {n b : Nat} (h : b < n) (hn : n < 2 ^ 31) : ixB n (nI b) = true := by
  unfold ixB
  rw [decide_eq_true (nI_pos' (by omega)), decide_eq_true (nI_lt h hn)]
  rfl
theorem ixB_i {n : Nat} (hn : n < 1000) (x : Int32) : i01 (nI 0 ≤ x ∧ x ≤ nI n - nI 1) = i01 (ixB n x = true) := by
  have key : (nI 0 ≤ x ∧ x ≤ nI n - nI 1) ↔ ixB n x = true := by
    constructor
    · intro h
      cases n with
      | zero => exact absurd (Int32.le_trans h.1 h.2) (by decide)
      | succ m =>
        obtain ⟨j, hj, rfl⟩ := nI_of (Int32.not_lt.mpr h.1)
        have h2 := h.2
        rw [show nI (m + 1) - nI 1 = nI m from nI_pred m] at h2
        have := (nI_leI hj (by omega)).mp h2
        exact ixB_n (by omega) (by omega)
    · intro h
      obtain ⟨b, hb, rfl⟩ := ixB_t h (by omega)
      cases n with
      | zero => omega
      | succ m =>
        rw [show nI (m + 1) - nI 1 = nI m from nI_pred m]
        exact ⟨nI_pos' (by omega), nI_le (by omega) (by omega)⟩
  unfold i01
  by_cases h : ixB n x = true
  · rw [if_pos h, if_pos (key.mpr h)]
  · rw [if_neg h, if_neg (fun q => h (key.mp q))]
theorem ixB_m {n : Nat} (hn : n < 500) (x : Int32) : i01 (nI 0 ≤ x ∧ x ≤ nI n) = i01 (ixB (n + 1) x = true) := by
  rw [← ixB_i (n := n + 1) (by omega) x, show nI (n + 1) - nI 1 = nI n from nI_pred n]
theorem i01_b {c : Prop} [Decidable c] : i01 c = 0 ∨ i01 c = 1 := by
  unfold i01; split
  · exact Or.inr rfl
  · exact Or.inl rfl
theorem i01_nar {c : Prop} [Decidable c] : narrow .boolean (.int (i01 c)) = .int (i01 c) := by rcases i01_b (c := c) with h | h <;> rw [h] <;> rfl
theorem c9_isPerson {d np nb nn : Nat} {tl hi : Int32} {T : TV} {V : CV} (hT : WT T np nb nn) {x : Int32} : TR (d + 1) m9_isPerson [.ref 0, .int x] (tcA tl hi T V) (.int (i01 (ixB np x = true))) := by
  have hnp := hT.2.2.2.1
  have hnb := hT.2.2.2.2.1
  have hnn := hT.2.2.2.2.2.1
  refine Tr.intro (by decide) rfl ?_
  refine J_iload_n (pc := 0) D9_isPerson_0 rfl ?_
  refine J_iconst (pc := 1) (v := (nI 0)) D9_isPerson_1 (by decide) ?_
  refine J_aload_n (pc := 2) D9_isPerson_2 rfl ?_
  refine J_getf (pc := 3) D9_isPerson_3 fl9_18 rfl rfl ?_
  refine J_getf (pc := 6) D9_isPerson_6 fl9_302 rfl rfl ?_
  refine J_iconst (pc := 9) (v := (nI 1)) D9_isPerson_9 (by decide) ?_
  refine J_isub (pc := 10) D9_isPerson_10 ?_
  refine J_st [.int (nI np - nI 1), .int (nI 0), .int x] (by rw [← hT.1]; try rfl) ?_
  refine J_callSR (pc := 11) (ι := []) (ac := [.int _, .int _, .int _]) D9_isPerson_11 m9_isAmong_s t712 (c9_isAmong (d := d)) (by omega) ⟨rfl, rfl⟩ rfl rfl (fun _ => rfl) rfl rfl rfl ?_
  refine J_st [.int (i01 (ixB np x = true))] (by rw [← ixB_i (by omega)]; try rfl) ?_
  refine J_zret (pc := 14) D9_isPerson_14 rfl i01_nar ?_
  exact ⟨rfl, rfl⟩
theorem c9_isBottle {d np nb nn : Nat} {tl hi : Int32} {T : TV} {V : CV} (hT : WT T np nb nn) {x : Int32} : TR (d + 1) m9_isBottle [.ref 0, .int x] (tcA tl hi T V) (.int (i01 (ixB nb x = true))) := by
  have hnp := hT.2.2.2.1
  have hnb := hT.2.2.2.2.1
  have hnn := hT.2.2.2.2.2.1
  refine Tr.intro (by decide) rfl ?_
  refine J_iload_n (pc := 0) D9_isBottle_0 rfl ?_
  refine J_iconst (pc := 1) (v := (nI 0)) D9_isBottle_1 (by decide) ?_
  refine J_aload_n (pc := 2) D9_isBottle_2 rfl ?_
  refine J_getf (pc := 3) D9_isBottle_3 fl9_18 rfl rfl ?_
  refine J_getf (pc := 6) D9_isBottle_6 fl9_208 rfl rfl ?_
  refine J_iconst (pc := 9) (v := (nI 1)) D9_isBottle_9 (by decide) ?_
  refine J_isub (pc := 10) D9_isBottle_10 ?_
  refine J_st [.int (nI nb - nI 1), .int (nI 0), .int x] (by rw [← hT.2.1]; try rfl) ?_
  refine J_callSR (pc := 11) (ι := []) (ac := [.int _, .int _, .int _]) D9_isBottle_11 m9_isAmong_s t712 (c9_isAmong (d := d)) (by omega) ⟨rfl, rfl⟩ rfl rfl (fun _ => rfl) rfl rfl rfl ?_
  refine J_st [.int (i01 (ixB nb x = true))] (by rw [← ixB_i (by omega)]; try rfl) ?_
  refine J_zret (pc := 14) D9_isBottle_14 rfl i01_nar ?_
  exact ⟨rfl, rfl⟩
theorem c9_isNeed {d np nb nn : Nat} {tl hi : Int32} {T : TV} {V : CV} (hT : WT T np nb nn) {x : Int32} : TR (d + 1) m9_isNeed [.ref 0, .int x] (tcA tl hi T V) (.int (i01 (ixB nn x = true))) := by
  have hnp := hT.2.2.2.1
  have hnb := hT.2.2.2.2.1
  have hnn := hT.2.2.2.2.2.1
  refine Tr.intro (by decide) rfl ?_
  refine J_iload_n (pc := 0) D9_isNeed_0 rfl ?_
  refine J_iconst (pc := 1) (v := (nI 0)) D9_isNeed_1 (by decide) ?_
  refine J_aload_n (pc := 2) D9_isNeed_2 rfl ?_
  refine J_getf (pc := 3) D9_isNeed_3 fl9_18 rfl rfl ?_
  refine J_getf (pc := 6) D9_isNeed_6 fl9_385 rfl rfl ?_
  refine J_iconst (pc := 9) (v := (nI 1)) D9_isNeed_9 (by decide) ?_
  refine J_isub (pc := 10) D9_isNeed_10 ?_
  refine J_st [.int (nI nn - nI 1), .int (nI 0), .int x] (by rw [← hT.2.2.1]; try rfl) ?_
  refine J_callSR (pc := 11) (ι := []) (ac := [.int _, .int _, .int _]) D9_isNeed_11 m9_isAmong_s t712 (c9_isAmong (d := d)) (by omega) ⟨rfl, rfl⟩ rfl rfl (fun _ => rfl) rfl rfl rfl ?_
  refine J_st [.int (i01 (ixB nn x = true))] (by rw [← ixB_i (by omega)]; try rfl) ?_
  refine J_zret (pc := 14) D9_isNeed_14 rfl i01_nar ?_
  exact ⟨rfl, rfl⟩
theorem c9_isBin {d : Nat} {x : Int32} : TR (d + 1) m9_isBin [.int x] [] (.int (i01 (ixB 6 x = true))) := by
  refine Tr.intro (by decide) rfl ?_
  refine J_iload_n (pc := 0) D9_isBin_0 rfl ?_
  refine J_iconst (pc := 1) (v := (nI 0)) D9_isBin_1 (by decide) ?_
  refine J_iconst (pc := 2) (v := (nI 5)) D9_isBin_2 (by decide) ?_
  refine J_callSR (pc := 3) (ι := []) (ac := [.int _, .int _, .int _]) D9_isBin_3 m9_isAmong_s t712 (c9_isAmong (d := d)) (by omega) ⟨rfl, rfl⟩ rfl rfl (fun _ => rfl) rfl rfl rfl ?_
  refine J_st [.int (i01 (ixB 6 x = true))] (by rw [← ixB_m (n := 5) (by decide)]; try rfl) ?_
  refine J_zret (pc := 6) D9_isBin_6 rfl i01_nar ?_
  exact ⟨rfl, rfl⟩
theorem c9_isForce {d : Nat} {x : Int32} : TR (d + 1) m9_isForce [.int x] [] (.int (i01 (ixB 200 x = true))) := by
  refine Tr.intro (by decide) rfl ?_
  refine J_iload_n (pc := 0) D9_isForce_0 rfl ?_
  refine J_iconst (pc := 1) (v := (nI 0)) D9_isForce_1 (by decide) ?_
  refine J_sipush (pc := 2) (v := (nI 199)) D9_isForce_2 (by decide) ?_
  refine J_callSR (pc := 5) (ι := []) (ac := [.int _, .int _, .int _]) D9_isForce_5 m9_isAmong_s t712 (c9_isAmong (d := d)) (by omega) ⟨rfl, rfl⟩ rfl rfl (fun _ => rfl) rfl rfl rfl ?_
  refine J_st [.int (i01 (ixB 200 x = true))] (by rw [← ixB_m (n := 199) (by decide)]; try rfl) ?_
  refine J_zret (pc := 8) D9_isForce_8 rfl i01_nar ?_
  exact ⟨rfl, rfl⟩
def lyiB (V : CV) (nb : Nat) (x : Int32) : Bool := ixB nb x && decide (V.2.2.2 3 x.toNatClampNeg = 0)
theorem lyiB_t {V : CV} {nb : Nat} {x : Int32} (h : lyiB V nb x = true) (hn : nb ≤ 10) : ∃ b, b < nb ∧ x = nI b ∧ V.2.2.2 3 b = 0 := by
  unfold lyiB at h
  obtain ⟨b, hb, rfl⟩ := ixB_t (Bool.and_eq_true_iff.mp h).1 (by omega)
  have := of_decide_eq_true (Bool.and_eq_true_iff.mp h).2
  rw [nI_clamp (by omega)] at this
  exact ⟨b, hb, rfl, this⟩
theorem c9_isLyingBottle {d np nb nn : Nat} {tl hi : Int32} {T : TV} {V : CV} (hT : WT T np nb nn) {x : Int32} : TR (d + 2) m9_isLyingBottle [.ref 0, .int x] (tcA tl hi T V) (.int (i01 (lyiB V nb x = true))) := by
  have hnb := hT.2.2.2.2.1
  refine Tr.intro (by decide) rfl ?_
  refine J_aload_n (pc := 0) D9_isLyingBottle_0 rfl ?_
  refine J_iload_n (pc := 1) D9_isLyingBottle_1 rfl ?_
  refine J_callVTR (pc := 2) (ac := [.int _]) D9_isLyingBottle_2 m9_isBottle_v t754 (c9_isBottle (d := d) hT) (by omega) rfl rfl rfl rfl (fun _ => rfl) rfl rfl rfl ?_
  refine J_if_eq (pc := 5) (tgt := 23) D9_isLyingBottle_5 (by decide) (fun h5 => ?_) (fun h5 => ?_)
  · have h5' := eq_true h5
    replace h5 := i01_z h5
    refine J_iconst (pc := 23) (v := (nI 0)) D9_isLyingBottle_23 (by decide) ?_
    refine J_zret (pc := 24) D9_isLyingBottle_24 rfl (by decide) ?_
    exact ⟨rfl, congrArg (fun q => some (Value.int q)) (i01_f (fun q => h5 (Bool.and_eq_true_iff.mp q).1)).symm⟩
  · replace h5 := i01_nz h5
    obtain ⟨b, hb, rfl⟩ := ixB_t h5 (by omega)
    refine J_aload_n (pc := 8) D9_isLyingBottle_8 rfl ?_
    refine J_getf (pc := 9) D9_isLyingBottle_9 fl9_46 rfl rfl ?_
    refine J_iload_n (pc := 12) D9_isLyingBottle_12 rfl ?_
    refine J_callVR (pc := 13) (ι := [19, 20, 21, 22, 23, 24, 25, 26, 27, 28]) (ac := [.int _]) D9_isLyingBottle_13 m0_isLying_v t717 (c0_isLying (d := d) (V := V) (b := b) (by omega)) (by omega) rfl rfl ⟨rfl, rfl⟩ rfl rfl (fun _ => rfl) rfl rfl rfl ?_
    refine J_if_eq (pc := 16) (tgt := 23) D9_isLyingBottle_16 (by decide) (fun h16 => ?_) (fun h16 => ?_)
    · have h16' := eq_true h16
      replace h16 := i01_z h16
      refine J_iconst (pc := 23) (v := (nI 0)) D9_isLyingBottle_23 (by decide) ?_
      refine J_zret (pc := 24) D9_isLyingBottle_24 rfl (by decide) ?_
      exact ⟨rfl, congrArg (fun q => some (Value.int q)) (i01_f (fun q => h16 (by have := of_decide_eq_true (Bool.and_eq_true_iff.mp q).2; rw [nI_clamp (by omega)] at this; exact this))).symm⟩
    · replace h16 := i01_nz h16
      refine J_iconst (pc := 19) (v := (nI 1)) D9_isLyingBottle_19 (by decide) ?_
      refine J_goto (pc := 20) (tgt := 24) D9_isLyingBottle_20 (by decide) ?_
      refine J_zret (pc := 24) D9_isLyingBottle_24 rfl (by decide) ?_
      exact ⟨rfl, congrArg (fun q => some (Value.int q)) (i01_t (by unfold lyiB; rw [h5, nI_clamp (by omega), decide_eq_true h16]; rfl)).symm⟩
def bitN (b : Nat) : Int32 := nI 1 <<< (nI b &&& 31)
def lyB (T : TV) (V : CV) (p : Int32) : Nat → Int32
  | 0 => nI 0
  | n + 1 => if V.2.2.2 3 n = 0 ∧ T.2.1 5 n = p then lyB T V p n ||| bitN n else lyB T V p n
def biB (V : CV) (x : Int32) : Nat → Int32
  | 0 => nI 0
  | n + 1 => if V.2.2.2 3 n = 0 ∧ V.2.2.2 0 n = x then biB V x n ||| bitN n else biB V x n
def foS (V : CV) (x : Int32) : Nat → Int32
  | 0 => nI 0
  | n + 1 => if (x >>> (nI n &&& 31)) &&& nI 1 = 0 then foS V x n else foS V x n + V.2.2.2 1 n
def stO (T : TV) (V : CV) (p : Int32) : Nat → Option Nat
  | 0 => none
  | n + 1 => if V.2.2.2 3 n = 0 ∧ T.2.1 5 n = p ∧ (∀ w, stO T V p n = some w → V.2.2.2 1 w < V.2.2.2 1 n) then some n else stO T V p n
theorem stO_lt {T : TV} {V : CV} {p : Int32} : ∀ (n w : Nat), stO T V p n = some w → w < n
  | 0, _, h => by cases h
  | n + 1, w, h => by
    unfold stO at h
    split at h
    · cases h; omega
    · have := stO_lt n w h; omega
theorem L9_lyingOf {d np nb nn : Nat} {tl hi : Int32} {T : TV} {V : CV} (hT : WT T np nb nn) {p : Int32} : ∀ (g b : Nat), b + g = nb → J m9_lyingOf (d + 1) 0 0 29 4 [(0, .ref 0), (1, .int p), (2, .int (lyB T V p b)), (3, .int (nI b))] [] (tcA tl hi T V) 0 0 (fun r w' => w' = tcA tl hi T V ∧ r = some (.int (lyB T V p nb))) := by
  have hnb := hT.2.2.2.2.1
  intro g
  induction g with
  | zero =>
    intro b hb
    have e : b = nb := by omega
    refine J_iload_n (pc := 4) D9_lyingOf_4 rfl ?_
    refine J_aload_n (pc := 5) D9_lyingOf_5 rfl ?_
    refine J_getf (pc := 6) D9_lyingOf_6 fl9_18 rfl rfl ?_
    refine J_getf (pc := 9) D9_lyingOf_9 fl9_208 rfl rfl ?_
    refine J_st [.int (nI nb), .int (nI b)] (by rw [← hT.2.1]; try rfl) ?_
    refine J_icmp_ge (pc := 12) (tgt := 51) D9_lyingOf_12 (by decide) (fun h12 => ?_) (fun h12 => absurd (nI_le (by omega) (by omega)) h12)
    refine J_iload_n (pc := 51) D9_lyingOf_51 rfl ?_
    refine J_iret (pc := 52) D9_lyingOf_52 rfl ?_
    exact ⟨rfl, by rw [e]⟩
  | succ g ih =>
    intro b hb
    refine J_iload_n (pc := 4) D9_lyingOf_4 rfl ?_
    refine J_aload_n (pc := 5) D9_lyingOf_5 rfl ?_
    refine J_getf (pc := 6) D9_lyingOf_6 fl9_18 rfl rfl ?_
    refine J_getf (pc := 9) D9_lyingOf_9 fl9_208 rfl rfl ?_
    refine J_st [.int (nI nb), .int (nI b)] (by rw [← hT.2.1]; try rfl) ?_
    refine J_icmp_ge (pc := 12) (tgt := 51) D9_lyingOf_12 (by decide) (fun h12 => absurd h12 (nI_ge (by omega) (by omega))) (fun h12 => ?_)
    refine J_aload_n (pc := 15) D9_lyingOf_15 rfl ?_
    refine J_getf (pc := 16) D9_lyingOf_16 fl9_46 rfl rfl ?_
    refine J_iload_n (pc := 19) D9_lyingOf_19 rfl ?_
    refine J_callVR (pc := 20) (ι := [19, 20, 21, 22, 23, 24, 25, 26, 27, 28]) (ac := [.int _]) D9_lyingOf_20 m0_isLying_v t717 (c0_isLying (d := d) (V := V) (b := b) (by omega)) (by omega) rfl rfl ⟨rfl, rfl⟩ rfl rfl (fun _ => rfl) rfl rfl rfl ?_
    refine J_if_eq (pc := 23) (tgt := 45) D9_lyingOf_23 (by decide) (fun h23 => ?_) (fun h23 => ?_)
    · have h23' := eq_true h23
      replace h23 := i01_z h23
      refine J_iinc (pc := 45) D9_lyingOf_45 rfl (nI_inc _) rfl ?_
      refine J_goto (pc := 48) (tgt := 4) D9_lyingOf_48 (by decide) ?_
      refine J_lk [(0, .ref 0), (1, .int p), (2, .int (lyB T V p (b + 1))), (3, .int (nI (b + 1)))] (by rw [lyB, if_neg (fun q => h23 q.1)]; try rfl) ?_
      exact ih (b + 1) (by omega)
    · replace h23 := i01_nz h23
      refine J_aload_n (pc := 26) D9_lyingOf_26 rfl ?_
      refine J_getf (pc := 27) D9_lyingOf_27 fl9_18 rfl rfl ?_
      refine J_getf (pc := 30) D9_lyingOf_30 fl9_141 rfl rfl ?_
      refine J_iload_n (pc := 33) D9_lyingOf_33 rfl ?_
      refine J_iald (pc := 34) D9_lyingOf_34 rfl rfl (by omega) rfl ?_
      refine J_iload_n (pc := 35) D9_lyingOf_35 rfl ?_
      refine J_icmp_ne (pc := 36) (tgt := 45) D9_lyingOf_36 (by decide) (fun h36 => ?_) (fun h36 => ?_)
      · refine J_iinc (pc := 45) D9_lyingOf_45 rfl (nI_inc _) rfl ?_
        refine J_goto (pc := 48) (tgt := 4) D9_lyingOf_48 (by decide) ?_
        refine J_lk [(0, .ref 0), (1, .int p), (2, .int (lyB T V p (b + 1))), (3, .int (nI (b + 1)))] (by rw [lyB, if_neg (fun q => h36 q.2)]; try rfl) ?_
        exact ih (b + 1) (by omega)
      · have h36' := eq_true h36
        refine J_iload_n (pc := 39) D9_lyingOf_39 rfl ?_
        refine J_iconst (pc := 40) (v := (nI 1)) D9_lyingOf_40 (by decide) ?_
        refine J_iload_n (pc := 41) D9_lyingOf_41 rfl ?_
        refine J_ishl (pc := 42) D9_lyingOf_42 ?_
        refine J_ior (pc := 43) D9_lyingOf_43 ?_
        refine J_istore_n (pc := 44) D9_lyingOf_44 rfl ?_
        refine J_iinc (pc := 45) D9_lyingOf_45 rfl (nI_inc _) rfl ?_
        refine J_goto (pc := 48) (tgt := 4) D9_lyingOf_48 (by decide) ?_
        refine J_lk [(0, .ref 0), (1, .int p), (2, .int (lyB T V p (b + 1))), (3, .int (nI (b + 1)))] (by rw [lyB, if_pos ⟨h23, h36⟩]; try rfl) ?_
        exact ih (b + 1) (by omega)
theorem c9_lyingOf {d np nb nn : Nat} {tl hi : Int32} {T : TV} {V : CV} (hT : WT T np nb nn) {p : Int32} : TR (d + 1) m9_lyingOf [.ref 0, .int p] (tcA tl hi T V) (.int (lyB T V p nb)) := by
  refine Tr.intro (by decide) rfl ?_
  refine J_iconst (pc := 0) (v := (nI 0)) D9_lyingOf_0 (by decide) ?_
  refine J_istore_n (pc := 1) D9_lyingOf_1 rfl ?_
  refine J_iconst (pc := 2) (v := (nI 0)) D9_lyingOf_2 (by decide) ?_
  refine J_istore_n (pc := 3) D9_lyingOf_3 rfl ?_
  exact L9_lyingOf hT nb 0 (by omega)
theorem L9_bin {d np nb nn : Nat} {tl hi : Int32} {T : TV} {V : CV} (hT : WT T np nb nn) {x : Int32} : ∀ (g b : Nat), b + g = nb → J m9_bin (d + 1) 0 0 29 13 [(0, .ref 0), (1, .int x), (2, .int (biB V x b)), (3, .int (nI b))] [] (tcA tl hi T V) 0 0 (fun r w' => w' = tcA tl hi T V ∧ r = some (.int (biB V x nb))) := by
  have hnb := hT.2.2.2.2.1
  intro g
  induction g with
  | zero =>
    intro b hb
    have e : b = nb := by omega
    refine J_iload_n (pc := 13) D9_bin_13 rfl ?_
    refine J_aload_n (pc := 14) D9_bin_14 rfl ?_
    refine J_getf (pc := 15) D9_bin_15 fl9_18 rfl rfl ?_
    refine J_getf (pc := 18) D9_bin_18 fl9_208 rfl rfl ?_
    refine J_st [.int (nI nb), .int (nI b)] (by rw [← hT.2.1]; try rfl) ?_
    refine J_icmp_ge (pc := 21) (tgt := 60) D9_bin_21 (by decide) (fun h21 => ?_) (fun h21 => absurd (nI_le (by omega) (by omega)) h21)
    refine J_iload_n (pc := 60) D9_bin_60 rfl ?_
    refine J_iret (pc := 61) D9_bin_61 rfl ?_
    exact ⟨rfl, by rw [e]⟩
  | succ g ih =>
    intro b hb
    refine J_iload_n (pc := 13) D9_bin_13 rfl ?_
    refine J_aload_n (pc := 14) D9_bin_14 rfl ?_
    refine J_getf (pc := 15) D9_bin_15 fl9_18 rfl rfl ?_
    refine J_getf (pc := 18) D9_bin_18 fl9_208 rfl rfl ?_
    refine J_st [.int (nI nb), .int (nI b)] (by rw [← hT.2.1]; try rfl) ?_
    refine J_icmp_ge (pc := 21) (tgt := 60) D9_bin_21 (by decide) (fun h21 => absurd h21 (nI_ge (by omega) (by omega))) (fun h21 => ?_)
    refine J_aload_n (pc := 24) D9_bin_24 rfl ?_
    refine J_getf (pc := 25) D9_bin_25 fl9_46 rfl rfl ?_
    refine J_iload_n (pc := 28) D9_bin_28 rfl ?_
    refine J_callVR (pc := 29) (ι := [19, 20, 21, 22, 23, 24, 25, 26, 27, 28]) (ac := [.int _]) D9_bin_29 m0_isLying_v t717 (c0_isLying (d := d) (V := V) (b := b) (by omega)) (by omega) rfl rfl ⟨rfl, rfl⟩ rfl rfl (fun _ => rfl) rfl rfl rfl ?_
    refine J_if_eq (pc := 32) (tgt := 54) D9_bin_32 (by decide) (fun h32 => ?_) (fun h32 => ?_)
    · have h32' := eq_true h32
      replace h32 := i01_z h32
      refine J_iinc (pc := 54) D9_bin_54 rfl (nI_inc _) rfl ?_
      refine J_goto (pc := 57) (tgt := 13) D9_bin_57 (by decide) ?_
      refine J_lk [(0, .ref 0), (1, .int x), (2, .int (biB V x (b + 1))), (3, .int (nI (b + 1)))] (by rw [biB, if_neg (fun q => h32 q.1)]; try rfl) ?_
      exact ih (b + 1) (by omega)
    · replace h32 := i01_nz h32
      refine J_aload_n (pc := 35) D9_bin_35 rfl ?_
      refine J_getf (pc := 36) D9_bin_36 fl9_46 rfl rfl ?_
      refine J_getf (pc := 39) D9_bin_39 fl9_147 rfl rfl ?_
      refine J_iload_n (pc := 42) D9_bin_42 rfl ?_
      refine J_iald (pc := 43) D9_bin_43 rfl rfl (by omega) rfl ?_
      refine J_iload_n (pc := 44) D9_bin_44 rfl ?_
      refine J_icmp_ne (pc := 45) (tgt := 54) D9_bin_45 (by decide) (fun h45 => ?_) (fun h45 => ?_)
      · refine J_iinc (pc := 54) D9_bin_54 rfl (nI_inc _) rfl ?_
        refine J_goto (pc := 57) (tgt := 13) D9_bin_57 (by decide) ?_
        refine J_lk [(0, .ref 0), (1, .int x), (2, .int (biB V x (b + 1))), (3, .int (nI (b + 1)))] (by rw [biB, if_neg (fun q => h45 q.2)]; try rfl) ?_
        exact ih (b + 1) (by omega)
      · have h45' := eq_true h45
        refine J_iload_n (pc := 48) D9_bin_48 rfl ?_
        refine J_iconst (pc := 49) (v := (nI 1)) D9_bin_49 (by decide) ?_
        refine J_iload_n (pc := 50) D9_bin_50 rfl ?_
        refine J_ishl (pc := 51) D9_bin_51 ?_
        refine J_ior (pc := 52) D9_bin_52 ?_
        refine J_istore_n (pc := 53) D9_bin_53 rfl ?_
        refine J_iinc (pc := 54) D9_bin_54 rfl (nI_inc _) rfl ?_
        refine J_goto (pc := 57) (tgt := 13) D9_bin_57 (by decide) ?_
        refine J_lk [(0, .ref 0), (1, .int x), (2, .int (biB V x (b + 1))), (3, .int (nI (b + 1)))] (by rw [biB, if_pos ⟨h32, h45⟩]; try rfl) ?_
        exact ih (b + 1) (by omega)
def binF (V : CV) (nb : Nat) (x : Int32) : Int32 := if ixB 6 x = true then biB V x nb else -1
theorem c9_bin {d np nb nn : Nat} {tl hi : Int32} {T : TV} {V : CV} (hT : WT T np nb nn) {x : Int32} : TR (d + 2) m9_bin [.ref 0, .int x] (tcA tl hi T V) (.int (binF V nb x)) := by
  refine Tr.intro (by decide) rfl ?_
  refine J_iload_n (pc := 0) D9_bin_0 rfl ?_
  refine J_callSR (pc := 1) (ι := []) (ac := [.int _]) D9_bin_1 m9_isBin_s t743 (c9_isBin (d := d)) (by omega) ⟨rfl, rfl⟩ rfl rfl (fun _ => rfl) rfl rfl rfl ?_
  refine J_if_ne (pc := 4) (tgt := 9) D9_bin_4 (by decide) (fun h4 => ?_) (fun h4 => ?_)
  · replace h4 := i01_nz h4
    refine J_iconst (pc := 9) (v := (nI 0)) D9_bin_9 (by decide) ?_
    refine J_istore_n (pc := 10) D9_bin_10 rfl ?_
    refine J_iconst (pc := 11) (v := (nI 0)) D9_bin_11 (by decide) ?_
    refine J_istore_n (pc := 12) D9_bin_12 rfl ?_
    rw [binF, if_pos h4]
    exact L9_bin (d := d + 1) hT nb 0 (by omega)
  · have h4' := eq_true h4
    replace h4 := i01_z h4
    refine J_iconst (pc := 7) (v := (-1)) D9_bin_7 (by decide) ?_
    refine J_iret (pc := 8) D9_bin_8 rfl ?_
    exact ⟨rfl, by rw [binF, if_neg h4]⟩
theorem L9_forceOf {d np nb nn : Nat} {tl hi : Int32} {T : TV} {V : CV} (hT : WT T np nb nn) {x : Int32} : ∀ (g b : Nat), b + g = nb → J m9_forceOf d 0 0 29 4 [(0, .ref 0), (1, .int x), (2, .int (foS V x b)), (3, .int (nI b))] [] (tcA tl hi T V) 0 0 (fun r w' => w' = tcA tl hi T V ∧ r = some (.int (foS V x nb))) := by
  have hnb := hT.2.2.2.2.1
  intro g
  induction g with
  | zero =>
    intro b hb
    have e : b = nb := by omega
    refine J_iload_n (pc := 4) D9_forceOf_4 rfl ?_
    refine J_aload_n (pc := 5) D9_forceOf_5 rfl ?_
    refine J_getf (pc := 6) D9_forceOf_6 fl9_18 rfl rfl ?_
    refine J_getf (pc := 9) D9_forceOf_9 fl9_208 rfl rfl ?_
    refine J_st [.int (nI nb), .int (nI b)] (by rw [← hT.2.1]; try rfl) ?_
    refine J_icmp_ge (pc := 12) (tgt := 41) D9_forceOf_12 (by decide) (fun h12 => ?_) (fun h12 => absurd (nI_le (by omega) (by omega)) h12)
    refine J_iload_n (pc := 41) D9_forceOf_41 rfl ?_
    refine J_iret (pc := 42) D9_forceOf_42 rfl ?_
    exact ⟨rfl, by rw [e]⟩
  | succ g ih =>
    intro b hb
    refine J_iload_n (pc := 4) D9_forceOf_4 rfl ?_
    refine J_aload_n (pc := 5) D9_forceOf_5 rfl ?_
    refine J_getf (pc := 6) D9_forceOf_6 fl9_18 rfl rfl ?_
    refine J_getf (pc := 9) D9_forceOf_9 fl9_208 rfl rfl ?_
    refine J_st [.int (nI nb), .int (nI b)] (by rw [← hT.2.1]; try rfl) ?_
    refine J_icmp_ge (pc := 12) (tgt := 41) D9_forceOf_12 (by decide) (fun h12 => absurd h12 (nI_ge (by omega) (by omega))) (fun h12 => ?_)
    refine J_iload_n (pc := 15) D9_forceOf_15 rfl ?_
    refine J_iload_n (pc := 16) D9_forceOf_16 rfl ?_
    refine J_ishr (pc := 17) D9_forceOf_17 ?_
    refine J_iconst (pc := 18) (v := (nI 1)) D9_forceOf_18 (by decide) ?_
    refine J_iand (pc := 19) D9_forceOf_19 ?_
    refine J_if_eq (pc := 20) (tgt := 35) D9_forceOf_20 (by decide) (fun h20 => ?_) (fun h20 => ?_)
    · have h20' := eq_true h20
      refine J_iinc (pc := 35) D9_forceOf_35 rfl (nI_inc _) rfl ?_
      refine J_goto (pc := 38) (tgt := 4) D9_forceOf_38 (by decide) ?_
      refine J_lk [(0, .ref 0), (1, .int x), (2, .int (foS V x (b + 1))), (3, .int (nI (b + 1)))] (by rw [foS, if_pos h20]; try rfl) ?_
      exact ih (b + 1) (by omega)
    · refine J_iload_n (pc := 23) D9_forceOf_23 rfl ?_
      refine J_aload_n (pc := 24) D9_forceOf_24 rfl ?_
      refine J_getf (pc := 25) D9_forceOf_25 fl9_46 rfl rfl ?_
      refine J_getf (pc := 28) D9_forceOf_28 fl9_150 rfl rfl ?_
      refine J_iload_n (pc := 31) D9_forceOf_31 rfl ?_
      refine J_iald (pc := 32) D9_forceOf_32 rfl rfl (by omega) rfl ?_
      refine J_iadd (pc := 33) D9_forceOf_33 ?_
      refine J_istore_n (pc := 34) D9_forceOf_34 rfl ?_
      refine J_iinc (pc := 35) D9_forceOf_35 rfl (nI_inc _) rfl ?_
      refine J_goto (pc := 38) (tgt := 4) D9_forceOf_38 (by decide) ?_
      refine J_lk [(0, .ref 0), (1, .int x), (2, .int (foS V x (b + 1))), (3, .int (nI (b + 1)))] (by rw [foS, if_neg h20]; try rfl) ?_
      exact ih (b + 1) (by omega)
theorem c9_forceOf {d np nb nn : Nat} {tl hi : Int32} {T : TV} {V : CV} (hT : WT T np nb nn) {x : Int32} : TR d m9_forceOf [.ref 0, .int x] (tcA tl hi T V) (.int (foS V x nb)) := by
  refine Tr.intro (by decide) rfl ?_
  refine J_iconst (pc := 0) (v := (nI 0)) D9_forceOf_0 (by decide) ?_
  refine J_istore_n (pc := 1) D9_forceOf_1 rfl ?_
  refine J_iconst (pc := 2) (v := (nI 0)) D9_forceOf_2 (by decide) ?_
  refine J_istore_n (pc := 3) D9_forceOf_3 rfl ?_
  exact L9_forceOf hT nb 0 (by omega)
theorem wkI_nn {o : Option Nat} {n : Nat} (h : ∀ w, o = some w → w < n) (hn : n ≤ 10) (e : wkI o = -1) : o = none := by
  cases o with
  | none => rfl
  | some w => exact absurd e (nI_ne1 (by have := h w rfl; omega))
theorem wkI_some {o : Option Nat} (h : ¬ wkI o = -1) : ∃ w, o = some w := by
  cases o with
  | none => exact absurd rfl h
  | some w => exact ⟨w, rfl⟩
theorem L9_strongestOf {d np nb nn : Nat} {tl hi : Int32} {T : TV} {V : CV} (hT : WT T np nb nn) {p : Int32} : ∀ (g b : Nat), b + g = nb → J m9_strongestOf (d + 1) 0 0 29 4 [(0, .ref 0), (1, .int p), (2, .int (wkI (stO T V p b))), (3, .int (nI b))] [] (tcA tl hi T V) 0 0 (fun r w' => w' = tcA tl hi T V ∧ r = some (.int (wkI (stO T V p nb)))) := by
  have hnb := hT.2.2.2.2.1
  intro g
  induction g with
  | zero =>
    intro b hb
    have e : b = nb := by omega
    refine J_iload_n (pc := 4) D9_strongestOf_4 rfl ?_
    refine J_aload_n (pc := 5) D9_strongestOf_5 rfl ?_
    refine J_getf (pc := 6) D9_strongestOf_6 fl9_18 rfl rfl ?_
    refine J_getf (pc := 9) D9_strongestOf_9 fl9_208 rfl rfl ?_
    refine J_st [.int (nI nb), .int (nI b)] (by rw [← hT.2.1]; try rfl) ?_
    refine J_icmp_ge (pc := 12) (tgt := 73) D9_strongestOf_12 (by decide) (fun h12 => ?_) (fun h12 => absurd (nI_le (by omega) (by omega)) h12)
    refine J_iload_n (pc := 73) D9_strongestOf_73 rfl ?_
    refine J_iret (pc := 74) D9_strongestOf_74 rfl ?_
    exact ⟨rfl, by rw [e]⟩
  | succ g ih =>
    intro b hb
    refine J_iload_n (pc := 4) D9_strongestOf_4 rfl ?_
    refine J_aload_n (pc := 5) D9_strongestOf_5 rfl ?_
    refine J_getf (pc := 6) D9_strongestOf_6 fl9_18 rfl rfl ?_
    refine J_getf (pc := 9) D9_strongestOf_9 fl9_208 rfl rfl ?_
    refine J_st [.int (nI nb), .int (nI b)] (by rw [← hT.2.1]; try rfl) ?_
    refine J_icmp_ge (pc := 12) (tgt := 73) D9_strongestOf_12 (by decide) (fun h12 => absurd h12 (nI_ge (by omega) (by omega))) (fun h12 => ?_)
    refine J_aload_n (pc := 15) D9_strongestOf_15 rfl ?_
    refine J_getf (pc := 16) D9_strongestOf_16 fl9_46 rfl rfl ?_
    refine J_iload_n (pc := 19) D9_strongestOf_19 rfl ?_
    refine J_callVR (pc := 20) (ι := [19, 20, 21, 22, 23, 24, 25, 26, 27, 28]) (ac := [.int _]) D9_strongestOf_20 m0_isLying_v t717 (c0_isLying (d := d) (V := V) (b := b) (by omega)) (by omega) rfl rfl ⟨rfl, rfl⟩ rfl rfl (fun _ => rfl) rfl rfl rfl ?_
    refine J_if_eq (pc := 23) (tgt := 67) D9_strongestOf_23 (by decide) (fun h23 => ?_) (fun h23 => ?_)
    · have h23' := eq_true h23
      replace h23 := i01_z h23
      refine J_iinc (pc := 67) D9_strongestOf_67 rfl (nI_inc _) rfl ?_
      refine J_goto (pc := 70) (tgt := 4) D9_strongestOf_70 (by decide) ?_
      refine J_lk [(0, .ref 0), (1, .int p), (2, .int (wkI (stO T V p (b + 1)))), (3, .int (nI (b + 1)))] (by rw [stO, if_neg (fun q => h23 q.1)]; try rfl) ?_
      exact ih (b + 1) (by omega)
    · replace h23 := i01_nz h23
      refine J_aload_n (pc := 26) D9_strongestOf_26 rfl ?_
      refine J_getf (pc := 27) D9_strongestOf_27 fl9_18 rfl rfl ?_
      refine J_getf (pc := 30) D9_strongestOf_30 fl9_141 rfl rfl ?_
      refine J_iload_n (pc := 33) D9_strongestOf_33 rfl ?_
      refine J_iald (pc := 34) D9_strongestOf_34 rfl rfl (by omega) rfl ?_
      refine J_iload_n (pc := 35) D9_strongestOf_35 rfl ?_
      refine J_icmp_ne (pc := 36) (tgt := 67) D9_strongestOf_36 (by decide) (fun h36 => ?_) (fun h36 => ?_)
      · refine J_iinc (pc := 67) D9_strongestOf_67 rfl (nI_inc _) rfl ?_
        refine J_goto (pc := 70) (tgt := 4) D9_strongestOf_70 (by decide) ?_
        refine J_lk [(0, .ref 0), (1, .int p), (2, .int (wkI (stO T V p (b + 1)))), (3, .int (nI (b + 1)))] (by rw [stO, if_neg (fun q => h36 q.2.1)]; try rfl) ?_
        exact ih (b + 1) (by omega)
      · have h36' := eq_true h36
        refine J_iload_n (pc := 39) D9_strongestOf_39 rfl ?_
        refine J_iconst (pc := 40) (v := (-1)) D9_strongestOf_40 (by decide) ?_
        refine J_icmp_eq (pc := 41) (tgt := 65) D9_strongestOf_41 (by decide) (fun h41 => ?_) (fun h41 => ?_)
        · have h41' := eq_true h41
          have eo := wkI_nn (n := b) (fun w hw => stO_lt b w hw) (by omega) h41
          refine J_iload_n (pc := 65) D9_strongestOf_65 rfl ?_
          refine J_istore_n (pc := 66) D9_strongestOf_66 rfl ?_
          refine J_iinc (pc := 67) D9_strongestOf_67 rfl (nI_inc _) rfl ?_
          refine J_goto (pc := 70) (tgt := 4) D9_strongestOf_70 (by decide) ?_
          refine J_lk [(0, .ref 0), (1, .int p), (2, .int (wkI (stO T V p (b + 1)))), (3, .int (nI (b + 1)))] (by rw [stO, if_pos ⟨h23, h36, fun w hw => by rw [eo] at hw; cases hw⟩]; try rfl) ?_
          exact ih (b + 1) (by omega)
        · obtain ⟨w, eo⟩ := wkI_some h41
          have hwb := stO_lt b w eo
          refine J_aload_n (pc := 44) D9_strongestOf_44 rfl ?_
          refine J_getf (pc := 45) D9_strongestOf_45 fl9_46 rfl rfl ?_
          refine J_getf (pc := 48) D9_strongestOf_48 fl9_150 rfl rfl ?_
          refine J_iload_n (pc := 51) D9_strongestOf_51 rfl ?_
          refine J_iald (pc := 52) D9_strongestOf_52 rfl rfl (by omega) rfl ?_
          refine J_aload_n (pc := 53) D9_strongestOf_53 rfl ?_
          refine J_getf (pc := 54) D9_strongestOf_54 fl9_46 rfl rfl ?_
          refine J_getf (pc := 57) D9_strongestOf_57 fl9_150 rfl rfl ?_
          refine J_iload_n (pc := 60) D9_strongestOf_60 rfl ?_
          refine J_st [.int (nI w), .ref 21, .int (V.2.2.2 1 b)] (by rw [eo]; try rfl) ?_
          refine J_iald (pc := 61) D9_strongestOf_61 rfl rfl (by omega) rfl ?_
          refine J_icmp_le (pc := 62) (tgt := 67) D9_strongestOf_62 (by decide) (fun h62 => ?_) (fun h62 => ?_)
          · have h62' := Int32.not_lt.mpr h62
            replace h62' := Int32.not_lt.mpr h62
            refine J_iinc (pc := 67) D9_strongestOf_67 rfl (nI_inc _) rfl ?_
            refine J_goto (pc := 70) (tgt := 4) D9_strongestOf_70 (by decide) ?_
            refine J_lk [(0, .ref 0), (1, .int p), (2, .int (wkI (stO T V p (b + 1)))), (3, .int (nI (b + 1)))] (by rw [stO, if_neg (fun q => h62' (q.2.2 w eo))]; try rfl) ?_
            exact ih (b + 1) (by omega)
          · have h62' := Int32.not_le.mp h62
            refine J_iload_n (pc := 65) D9_strongestOf_65 rfl ?_
            refine J_istore_n (pc := 66) D9_strongestOf_66 rfl ?_
            refine J_iinc (pc := 67) D9_strongestOf_67 rfl (nI_inc _) rfl ?_
            refine J_goto (pc := 70) (tgt := 4) D9_strongestOf_70 (by decide) ?_
            refine J_lk [(0, .ref 0), (1, .int p), (2, .int (wkI (stO T V p (b + 1)))), (3, .int (nI (b + 1)))] (by rw [stO, if_pos ⟨h23, h36, fun w1 hw => by rw [eo] at hw; cases hw; exact h62'⟩]; try rfl) ?_
            exact ih (b + 1) (by omega)
theorem c9_strongestOf {d np nb nn : Nat} {tl hi : Int32} {T : TV} {V : CV} (hT : WT T np nb nn) {p : Int32} : TR (d + 1) m9_strongestOf [.ref 0, .int p] (tcA tl hi T V) (.int (wkI (stO T V p nb))) := by
  refine Tr.intro (by decide) rfl ?_
  refine J_iconst (pc := 0) (v := (-1)) D9_strongestOf_0 (by decide) ?_
  refine J_istore_n (pc := 1) D9_strongestOf_1 rfl ?_
  refine J_iconst (pc := 2) (v := (nI 0)) D9_strongestOf_2 (by decide) ?_
  refine J_istore_n (pc := 3) D9_strongestOf_3 rfl ?_
  exact L9_strongestOf hT nb 0 (by omega)
def hiF (T : TV) (V : CV) (nb : Nat) (p : Int32) : Int32 := match stO T V p nb with
  | none => nI 0
  | some b => V.2.2.2 1 b
theorem c9_highestForceOf {d np nb nn : Nat} {tl hi : Int32} {T : TV} {V : CV} (hT : WT T np nb nn) {p : Int32} : TR (d + 2) m9_highestForceOf [.ref 0, .int p] (tcA tl hi T V) (.int (hiF T V nb p)) := by
  have hnb := hT.2.2.2.2.1
  refine Tr.intro (by decide) rfl ?_
  refine J_aload_n (pc := 0) D9_highestForceOf_0 rfl ?_
  refine J_iload_n (pc := 1) D9_highestForceOf_1 rfl ?_
  refine J_callVTR (pc := 2) (ac := [.int _]) D9_highestForceOf_2 m9_strongestOf_v t1007 (c9_strongestOf (d := d) hT) (by omega) rfl rfl rfl rfl (fun _ => rfl) rfl rfl rfl ?_
  refine J_istore_n (pc := 5) D9_highestForceOf_5 rfl ?_
  refine J_iload_n (pc := 6) D9_highestForceOf_6 rfl ?_
  refine J_iconst (pc := 7) (v := (-1)) D9_highestForceOf_7 (by decide) ?_
  refine J_icmp_ne (pc := 8) (tgt := 15) D9_highestForceOf_8 (by decide) (fun h8 => ?_) (fun h8 => ?_)
  · obtain ⟨w, eo⟩ := wkI_some h8
    have hwb := stO_lt nb w eo
    refine J_aload_n (pc := 15) D9_highestForceOf_15 rfl ?_
    refine J_getf (pc := 16) D9_highestForceOf_16 fl9_46 rfl rfl ?_
    refine J_getf (pc := 19) D9_highestForceOf_19 fl9_150 rfl rfl ?_
    refine J_iload_n (pc := 22) D9_highestForceOf_22 rfl ?_
    refine J_st [.int (nI w), .ref 21] (by rw [eo]; try rfl) ?_
    refine J_iald (pc := 23) D9_highestForceOf_23 rfl rfl (by omega) rfl ?_
    refine J_iret (pc := 24) D9_highestForceOf_24 rfl ?_
    exact ⟨rfl, by rw [hiF, eo]⟩
  · have h8' := eq_true h8
    have eo := wkI_nn (n := nb) (fun w hw => stO_lt nb w hw) (by omega) h8
    refine J_iconst (pc := 11) (v := (nI 0)) D9_highestForceOf_11 (by decide) ?_
    refine J_goto (pc := 12) (tgt := 24) D9_highestForceOf_12 (by decide) ?_
    refine J_iret (pc := 24) D9_highestForceOf_24 rfl ?_
    exact ⟨rfl, by rw [hiF, eo]⟩
def manF (T : TV) (V : CV) (np nb : Nat) (x w : Int32) : Int32 := if ixB np x = true then
    (if w = nI 0 then T.2.1 2 x.toNatClampNeg else if w = nI 1 then bcnt (lyB T V x nb) else if w = nI 2 then foS V (lyB T V x nb) nb else if w = nI 3 then V.2.2.2 6 x.toNatClampNeg else -1) else -1
theorem c9_man {d np nb nn : Nat} {tl hi : Int32} {T : TV} {V : CV} (hT : WT T np nb nn) {x w : Int32} : TR (d + 2) m9_man [.ref 0, .int x, .int w] (tcA tl hi T V) (.int (manF T V np nb x w)) := by
  have hnp := hT.2.2.2.1
  refine Tr.intro (by decide) rfl ?_
  refine J_aload_n (pc := 0) D9_man_0 rfl ?_
  refine J_iload_n (pc := 1) D9_man_1 rfl ?_
  refine J_callVTR (pc := 2) (ac := [.int _]) D9_man_2 m9_isPerson_v t708 (c9_isPerson (d := d) hT) (by omega) rfl rfl rfl rfl (fun _ => rfl) rfl rfl rfl ?_
  refine J_if_ne (pc := 5) (tgt := 10) D9_man_5 (by decide) (fun h5 => ?_) (fun h5 => ?_)
  · replace h5 := i01_nz h5
    obtain ⟨p, hp, rfl⟩ := ixB_t h5 (by omega)
    refine J_iload_n (pc := 10) D9_man_10 rfl ?_
    refine J_tsw (pc := 11) 0 [40, 50, 59, 69] 79 D9_man_11 (by decide) (by decide) rfl (by decide) (by decide) (fun j hj h11 => ?_) (fun h11 => ?_)
    · have hj11 : j = 0 ∨ j = 1 ∨ j = 2 ∨ j = 3 := by have hj2 : j < 4 := hj; omega
      clear hj
      rcases hj11 with rfl | rfl | rfl | rfl
      · refine J_aload_n (pc := 40) D9_man_40 rfl ?_
        refine J_getf (pc := 41) D9_man_41 fl9_18 rfl rfl ?_
        refine J_getf (pc := 44) D9_man_44 fl9_170 rfl rfl ?_
        refine J_iload_n (pc := 47) D9_man_47 rfl ?_
        refine J_iald (pc := 48) D9_man_48 rfl rfl (by omega) rfl ?_
        refine J_iret (pc := 49) D9_man_49 rfl ?_
        exact ⟨rfl, by rw [manF, if_pos h5, if_pos h11, nI_clamp (by omega)]; try rfl⟩
      · refine J_aload_n (pc := 50) D9_man_50 rfl ?_
        refine J_iload_n (pc := 51) D9_man_51 rfl ?_
        refine J_callVTR (pc := 52) (ac := [.int _]) D9_man_52 m9_lyingOf_v t713 (c9_lyingOf (d := d) hT) (by omega) rfl rfl rfl rfl (fun _ => rfl) rfl rfl rfl ?_
        refine J_callSR (pc := 55) (ι := []) (ac := [.int _]) D9_man_55 mJ_bitCount_s t721 (cJ_bitCount (d := d + 1)) (by omega) ⟨rfl, rfl⟩ rfl rfl (fun _ => rfl) rfl rfl rfl ?_
        refine J_iret (pc := 58) D9_man_58 rfl ?_
        exact ⟨rfl, by rw [manF, if_pos h5, if_neg (by rw [h11]; decide), if_pos h11]⟩
      · refine J_aload_n (pc := 59) D9_man_59 rfl ?_
        refine J_aload_n (pc := 60) D9_man_60 rfl ?_
        refine J_iload_n (pc := 61) D9_man_61 rfl ?_
        refine J_callVTR (pc := 62) (ac := [.int _]) D9_man_62 m9_lyingOf_v t713 (c9_lyingOf (d := d) hT) (by omega) rfl rfl rfl rfl (fun _ => rfl) rfl rfl rfl ?_
        refine J_callVTR (pc := 65) (ac := [.int _]) D9_man_65 m9_forceOf_v t727 (c9_forceOf (d := d + 1) hT) (by omega) rfl rfl rfl rfl (fun _ => rfl) rfl rfl rfl ?_
        refine J_iret (pc := 68) D9_man_68 rfl ?_
        exact ⟨rfl, by rw [manF, if_pos h5, if_neg (by rw [h11]; decide), if_neg (by rw [h11]; decide), if_pos h11]⟩
      · refine J_aload_n (pc := 69) D9_man_69 rfl ?_
        refine J_getf (pc := 70) D9_man_70 fl9_46 rfl rfl ?_
        refine J_getf (pc := 73) D9_man_73 fl9_184 rfl rfl ?_
        refine J_iload_n (pc := 76) D9_man_76 rfl ?_
        refine J_iald (pc := 77) D9_man_77 rfl rfl (by omega) rfl ?_
        refine J_iret (pc := 78) D9_man_78 rfl ?_
        exact ⟨rfl, by rw [manF, if_pos h5, if_neg (by rw [h11]; decide), if_neg (by rw [h11]; decide), if_neg (by rw [h11]; decide), if_pos h11, nI_clamp (by omega)]; try rfl⟩
    · refine J_iconst (pc := 79) (v := (-1)) D9_man_79 (by decide) ?_
      refine J_iret (pc := 80) D9_man_80 rfl ?_
      exact ⟨rfl, by rw [manF, if_pos h5, if_neg (h11 0 (by decide)), if_neg (h11 1 (by decide)), if_neg (h11 2 (by decide)), if_neg (h11 3 (by decide))]⟩
  · have h5' := eq_true h5
    replace h5 := i01_z h5
    refine J_iconst (pc := 8) (v := (-1)) D9_man_8 (by decide) ?_
    refine J_iret (pc := 9) D9_man_9 rfl ?_
    exact ⟨rfl, by rw [manF, if_neg h5]⟩
def nedF (T : TV) (V : CV) (nn : Nat) (x w : Int32) : Int32 := if ixB nn x = true then
    (if w = nI 0 then T.2.1 11 x.toNatClampNeg else if w = nI 1 then T.2.1 12 x.toNatClampNeg else if w = nI 2 then T.2.1 13 x.toNatClampNeg else if w = nI 3 then T.2.1 14 x.toNatClampNeg else if w = nI 4 then V.2.2.2 5 x.toNatClampNeg else -1) else -1
theorem c9_need {d np nb nn : Nat} {tl hi : Int32} {T : TV} {V : CV} (hT : WT T np nb nn) {x w : Int32} : TR (d + 2) m9_need [.ref 0, .int x, .int w] (tcA tl hi T V) (.int (nedF T V nn x w)) := by
  have hnn := hT.2.2.2.2.2.1
  refine Tr.intro (by decide) rfl ?_
  refine J_aload_n (pc := 0) D9_need_0 rfl ?_
  refine J_iload_n (pc := 1) D9_need_1 rfl ?_
  refine J_callVTR (pc := 2) (ac := [.int _]) D9_need_2 m9_isNeed_v t735 (c9_isNeed (d := d) hT) (by omega) rfl rfl rfl rfl (fun _ => rfl) rfl rfl rfl ?_
  refine J_if_ne (pc := 5) (tgt := 10) D9_need_5 (by decide) (fun h5 => ?_) (fun h5 => ?_)
  · replace h5 := i01_nz h5
    obtain ⟨p, hp, rfl⟩ := ixB_t h5 (by omega)
    refine J_iload_n (pc := 10) D9_need_10 rfl ?_
    refine J_tsw (pc := 11) 0 [44, 54, 64, 74, 84] 94 D9_need_11 (by decide) (by decide) rfl (by decide) (by decide) (fun j hj h11 => ?_) (fun h11 => ?_)
    · have hj11 : j = 0 ∨ j = 1 ∨ j = 2 ∨ j = 3 ∨ j = 4 := by have hj2 : j < 5 := hj; omega
      clear hj
      rcases hj11 with rfl | rfl | rfl | rfl | rfl
      · refine J_aload_n (pc := 44) D9_need_44 rfl ?_
        refine J_getf (pc := 45) D9_need_45 fl9_18 rfl rfl ?_
        refine J_getf (pc := 48) D9_need_48 fl9_190 rfl rfl ?_
        refine J_iload_n (pc := 51) D9_need_51 rfl ?_
        refine J_iald (pc := 52) D9_need_52 rfl rfl (by omega) rfl ?_
        refine J_iret (pc := 53) D9_need_53 rfl ?_
        exact ⟨rfl, by rw [nedF, if_pos h5, if_pos h11, nI_clamp (by omega)]; try rfl⟩
      · refine J_aload_n (pc := 54) D9_need_54 rfl ?_
        refine J_getf (pc := 55) D9_need_55 fl9_18 rfl rfl ?_
        refine J_getf (pc := 58) D9_need_58 fl9_193 rfl rfl ?_
        refine J_iload_n (pc := 61) D9_need_61 rfl ?_
        refine J_iald (pc := 62) D9_need_62 rfl rfl (by omega) rfl ?_
        refine J_iret (pc := 63) D9_need_63 rfl ?_
        exact ⟨rfl, by rw [nedF, if_pos h5, if_neg (by rw [h11]; decide), if_pos h11, nI_clamp (by omega)]; try rfl⟩
      · refine J_aload_n (pc := 64) D9_need_64 rfl ?_
        refine J_getf (pc := 65) D9_need_65 fl9_18 rfl rfl ?_
        refine J_getf (pc := 68) D9_need_68 fl9_196 rfl rfl ?_
        refine J_iload_n (pc := 71) D9_need_71 rfl ?_
        refine J_iald (pc := 72) D9_need_72 rfl rfl (by omega) rfl ?_
        refine J_iret (pc := 73) D9_need_73 rfl ?_
        exact ⟨rfl, by rw [nedF, if_pos h5, if_neg (by rw [h11]; decide), if_neg (by rw [h11]; decide), if_pos h11, nI_clamp (by omega)]; try rfl⟩
      · refine J_aload_n (pc := 74) D9_need_74 rfl ?_
        refine J_getf (pc := 75) D9_need_75 fl9_18 rfl rfl ?_
        refine J_getf (pc := 78) D9_need_78 fl9_199 rfl rfl ?_
        refine J_iload_n (pc := 81) D9_need_81 rfl ?_
        refine J_iald (pc := 82) D9_need_82 rfl rfl (by omega) rfl ?_
        refine J_iret (pc := 83) D9_need_83 rfl ?_
        exact ⟨rfl, by rw [nedF, if_pos h5, if_neg (by rw [h11]; decide), if_neg (by rw [h11]; decide), if_neg (by rw [h11]; decide), if_pos h11, nI_clamp (by omega)]; try rfl⟩
      · refine J_aload_n (pc := 84) D9_need_84 rfl ?_
        refine J_getf (pc := 85) D9_need_85 fl9_46 rfl rfl ?_
        refine J_getf (pc := 88) D9_need_88 fl9_202 rfl rfl ?_
        refine J_iload_n (pc := 91) D9_need_91 rfl ?_
        refine J_iald (pc := 92) D9_need_92 rfl rfl (by omega) rfl ?_
        refine J_iret (pc := 93) D9_need_93 rfl ?_
        exact ⟨rfl, by rw [nedF, if_pos h5, if_neg (by rw [h11]; decide), if_neg (by rw [h11]; decide), if_neg (by rw [h11]; decide), if_neg (by rw [h11]; decide), if_pos h11, nI_clamp (by omega)]; try rfl⟩
    · refine J_iconst (pc := 94) (v := (-1)) D9_need_94 (by decide) ?_
      refine J_iret (pc := 95) D9_need_95 rfl ?_
      exact ⟨rfl, by rw [nedF, if_pos h5, if_neg (h11 0 (by decide)), if_neg (h11 1 (by decide)), if_neg (h11 2 (by decide)), if_neg (h11 3 (by decide)), if_neg (h11 4 (by decide))]⟩
  · have h5' := eq_true h5
    replace h5 := i01_z h5
    refine J_iconst (pc := 8) (v := (-1)) D9_need_8 (by decide) ?_
    refine J_iret (pc := 9) D9_need_9 rfl ?_
    exact ⟨rfl, by rw [nedF, if_neg h5]⟩
def namF (T : TV) (np nb : Nat) (w x : Int32) : Int32 := if w = 0 then wkI (plL (T.2.1 1) x np 0) else if w = nI 1 then wkI (plL (T.2.1 4) x nb 0) else -1
theorem c9_named {d np nb nn : Nat} {tl hi : Int32} {T : TV} {V : CV} (hT : WT T np nb nn) {w x : Int32} : TR (d + 2) m9_named [.ref 0, .int w, .int x] (tcA tl hi T V) (.int (namF T np nb w x)) := by
  refine Tr.intro (by decide) rfl ?_
  refine J_iload_n (pc := 0) D9_named_0 rfl ?_
  refine J_if_ne (pc := 1) (tgt := 13) D9_named_1 (by decide) (fun h1 => ?_) (fun h1 => ?_)
  · refine J_iload_n (pc := 13) D9_named_13 rfl ?_
    refine J_iconst (pc := 14) (v := (nI 1)) D9_named_14 (by decide) ?_
    refine J_icmp_ne (pc := 15) (tgt := 29) D9_named_15 (by decide) (fun h15 => ?_) (fun h15 => ?_)
    · refine J_iconst (pc := 29) (v := (-1)) D9_named_29 (by decide) ?_
      refine J_iret (pc := 30) D9_named_30 rfl ?_
      exact ⟨rfl, by rw [namF, if_neg h1, if_neg h15]⟩
    · have h15' := eq_true h15
      refine J_aload_n (pc := 18) D9_named_18 rfl ?_
      refine J_getf (pc := 19) D9_named_19 fl9_18 rfl rfl ?_
      refine J_iload_n (pc := 22) D9_named_22 rfl ?_
      refine J_callVR (pc := 23) (ι := [1, 2, 3, 4, 5, 6, 7, 8, 9, 10, 11, 12, 13, 14, 15, 16, 17, 18]) (ac := [.int _]) D9_named_23 m6_bottleNamed_v t703 (c6_bottleNamed (d := d) (T := T) hT.2.1 hT.2.2.2.2.1) (by omega) rfl rfl ⟨rfl, rfl⟩ rfl rfl (fun _ => rfl) rfl rfl rfl ?_
      refine J_goto (pc := 26) (tgt := 30) D9_named_26 (by decide) ?_
      refine J_iret (pc := 30) D9_named_30 rfl ?_
      exact ⟨rfl, by rw [namF, if_neg h1, if_pos h15]⟩
  · have h1' := eq_true h1
    refine J_aload_n (pc := 4) D9_named_4 rfl ?_
    refine J_getf (pc := 5) D9_named_5 fl9_18 rfl rfl ?_
    refine J_iload_n (pc := 8) D9_named_8 rfl ?_
    refine J_callVR (pc := 9) (ι := [1, 2, 3, 4, 5, 6, 7, 8, 9, 10, 11, 12, 13, 14, 15, 16, 17, 18]) (ac := [.int _]) D9_named_9 m6_personNamed_v t702 (c6_personNamed (d := d) (T := T) hT.1 hT.2.2.2.1) (by omega) rfl rfl ⟨rfl, rfl⟩ rfl rfl (fun _ => rfl) rfl rfl rfl ?_
    refine J_iret (pc := 12) D9_named_12 rfl ?_
    exact ⟨rfl, by rw [namF, if_pos h1]⟩
