/-! THE MODEL: deeds (own program mod_o4.py) -/
theorem EqR.rf {m : MR} : EqR m m := ⟨rfl, rfl, rfl, fun _ _ _ _ => rfl, fun _ _ => rfl, fun _ _ => rfl⟩
theorem L10_kn11 {d : Nat} {s : Nat → Int32} {A : Nat → Nat → Int32} {L : LL} {M : Nat → MR} {Q : Option Value → List EC → Prop} : ∀ (g k : Nat) (M' : Nat → MR), k + g = 20 → 1 ≤ k → (∀ i, i < 3 → M' i = M i) → (∀ j, j + 1 < k → EqR (M' (3 + j)) (M (4 + j))) → (∀ j, k ≤ j + 1 → j < 20 → M' (3 + j) = M (3 + j)) →
    (∀ M', (∀ i, i < 3 → M' i = M i) → (∀ j, j < 19 → EqR (M' (3 + j)) (M (4 + j))) → J m10_keepNow (d + 1) 0 0 40 35 [(0, .ref 0)] [] (modW s A L M') 0 0 Q) → J m10_keepNow (d + 1) 0 0 40 11 [(0, .ref 0), (1, .int (nI k))] [] (modW s A L M') 0 0 Q := by
  intro g
  induction g with
  | zero =>
    intro k M' hk h1 hM hE hJ K
    refine J_iload_n (pc := 11) D10_keepNow_11 rfl ?_
    refine J_bipush (pc := 12) (v := (nI 20)) D10_keepNow_12 (by decide) ?_
    refine J_icmp_ge (pc := 14) (tgt := 35) D10_keepNow_14 (by decide) (fun h14 => ?_) (fun h14 => absurd (nI_le (by omega) (by omega)) h14)
    refine J_lk [(0, .ref 0)] rfl ?_
    exact K M' hM (fun j hj => hE j (by omega))
  | succ g ih =>
    intro k M' hk h1 hM hE hJ K
    have e1 : nI 3 + nI k - nI 1 = nI (2 + k) := by rw [nI_add, show 3 + k = (2 + k) + 1 by omega]; exact nI_pred (2 + k)
    refine J_iload_n (pc := 11) D10_keepNow_11 rfl ?_
    refine J_bipush (pc := 12) (v := (nI 20)) D10_keepNow_12 (by decide) ?_
    refine J_icmp_ge (pc := 14) (tgt := 35) D10_keepNow_14 (by decide) (fun h14 => absurd h14 (nI_ge (by omega) (by omega))) (fun h14 => ?_)
    refine J_aload_n (pc := 17) D10_keepNow_17 rfl ?_
    refine J_iconst (pc := 18) (v := (nI 3)) D10_keepNow_18 (by decide) ?_
    refine J_iload_n (pc := 19) D10_keepNow_19 rfl ?_
    refine J_iadd (pc := 20) D10_keepNow_20 ?_
    refine J_iconst (pc := 21) (v := (nI 1)) D10_keepNow_21 (by decide) ?_
    refine J_isub (pc := 22) D10_keepNow_22 ?_
    refine J_iconst (pc := 23) (v := (nI 3)) D10_keepNow_23 (by decide) ?_
    refine J_iload_n (pc := 24) D10_keepNow_24 rfl ?_
    refine J_iadd (pc := 25) D10_keepNow_25 ?_
    refine J_st (.int (nI (3 + k)) :: .int (nI (2 + k)) :: .ref 0 :: []) (by rw [e1, nI_add]) ?_
    refine J_callVT (pc := 26) (ac := [.int _, .int _]) D10_keepNow_26 m10_copies_v t1655 (c10_copies (d := d) (t := 2 + k) (a := 3 + k) (by omega) (by omega) (by omega)) (by omega) rfl rfl rfl rfl rfl rfl rfl (fun r w' hq hl => ?_)
    obtain ⟨rfl, M2, rfl, hM2, hE2⟩ := hq
    refine J_iinc (pc := 29) D10_keepNow_29 rfl (nI_inc _) rfl ?_
    refine J_goto (pc := 32) (tgt := 11) D10_keepNow_32 (by decide) ?_
    refine ih (k + 1) M2 (by omega) (by omega) (fun i hi => (hM2 i (by omega)).trans (hM i hi)) (fun j hj => ?_) (fun j hj hj2 => (hM2 _ (by omega)).trans (hJ j (by omega) hj2)) K
    by_cases e : j + 1 = k
    · rw [show 3 + j = 2 + k by omega, show 4 + j = 3 + k by omega]
      have := hJ k (by omega) (by omega)
      rw [this] at hE2
      exact hE2
    · rw [hM2 _ (by omega)]
      exact hE j (by omega)
theorem c10_keepNow {d : Nat} {s : Nat → Int32} {A : Nat → Nat → Int32} {L : LL} {M : Nat → MR} {c : Nat} (hc : c ≤ 20) (e47 : s 47 = nI c) : Tr (d + 1) 0 0 m10_keepNow [.ref 0] (modW s A L M) (fun r w' => r = none ∧ ∃ M', w' = modW (updI s 47 (nI (if c < 20 then c + 1 else 20))) A L M' ∧ KN c M M') := by
  by_cases h20 : c < 20
  · rw [if_pos h20]
    refine Tr.intro (by decide) rfl ?_
    refine J_aload_n (pc := 0) D10_keepNow_0 rfl ?_
    refine J_getf (pc := 1) D10_keepNow_1 fl10_302 rfl rfl ?_
    refine J_bipush (pc := 4) (v := (nI 20)) D10_keepNow_4 (by decide) ?_
    refine J_icmp_ne (pc := 6) (tgt := 45) D10_keepNow_6 (by decide) (fun h6 => ?_) (fun h6 => absurd h6 (by rw [e47]; exact fun q => absurd (nI_eqI (by omega) (by decide) q) (by omega)))
    refine J_aload_n (pc := 45) D10_keepNow_45 rfl ?_
    refine J_iconst (pc := 46) (v := (nI 3)) D10_keepNow_46 (by decide) ?_
    refine J_aload_n (pc := 47) D10_keepNow_47 rfl ?_
    refine J_getf (pc := 48) D10_keepNow_48 fl10_302 rfl rfl ?_
    refine J_iadd (pc := 51) D10_keepNow_51 ?_
    refine J_iconst (pc := 52) (v := (nI 0)) D10_keepNow_52 (by decide) ?_
    refine J_st (.int (nI 0) :: .int (nI (3 + c)) :: .ref 0 :: []) (by rw [e47, nI_add]) ?_
    refine J_callVT (pc := 53) (ac := [.int _, .int _]) D10_keepNow_53 m10_copies_v t1655 (c10_copies (d := d) (t := 3 + c) (a := 0) (by omega) (by decide) (by omega)) (by omega) rfl rfl rfl rfl rfl rfl rfl (fun r w' hq hl => ?_)
    obtain ⟨rfl, M2, rfl, hM2, hE2⟩ := hq
    refine J_aload_n (pc := 56) D10_keepNow_56 rfl ?_
    refine J_dup (pc := 57) D10_keepNow_57 rfl ?_
    refine J_getf (pc := 58) D10_keepNow_58 fl10_302 rfl rfl ?_
    refine J_iconst (pc := 61) (v := (nI 1)) D10_keepNow_61 (by decide) ?_
    refine J_iadd (pc := 62) D10_keepNow_62 ?_
    refine J_mput (pc := 63) D10_keepNow_63 fp10_302 ms_47 ?_
    refine J_vret (pc := 66) D10_keepNow_66 rfl ?_
    exact ⟨rfl, M2, by rw [e47, nI_add], fun i hi => hM2 i (by omega), by rw [if_pos h20]; exact ⟨hE2, fun k hk => hM2 _ (by omega)⟩⟩
  · have hc20 : c = 20 := by omega
    subst hc20
    rw [if_neg h20]
    refine Tr.intro (by decide) rfl ?_
    refine J_aload_n (pc := 0) D10_keepNow_0 rfl ?_
    refine J_getf (pc := 1) D10_keepNow_1 fl10_302 rfl rfl ?_
    refine J_bipush (pc := 4) (v := (nI 20)) D10_keepNow_4 (by decide) ?_
    refine J_icmp_ne (pc := 6) (tgt := 45) D10_keepNow_6 (by decide) (fun h6 => absurd e47 h6) (fun h6 => ?_)
    refine J_iconst (pc := 9) (v := (nI 1)) D10_keepNow_9 (by decide) ?_
    refine J_istore_n (pc := 10) D10_keepNow_10 rfl ?_
    refine L10_kn11 19 1 M (by omega) (by omega) (fun _ _ => rfl) (fun j hj => absurd hj (by omega)) (fun _ _ _ => rfl) (fun M1 hM1 hE1 => ?_)
    refine J_aload_n (pc := 35) D10_keepNow_35 rfl ?_
    refine J_dup (pc := 36) D10_keepNow_36 rfl ?_
    refine J_getf (pc := 37) D10_keepNow_37 fl10_302 rfl rfl ?_
    refine J_iconst (pc := 40) (v := (nI 1)) D10_keepNow_40 (by decide) ?_
    refine J_isub (pc := 41) D10_keepNow_41 ?_
    refine J_mput (pc := 42) D10_keepNow_42 fp10_302 ms_47 ?_
    refine J_w (w2 := modW (updI s 47 (nI 19)) A L M1) (by rw [e47]; rfl) ?_
    refine J_aload_n (pc := 45) D10_keepNow_45 rfl ?_
    refine J_iconst (pc := 46) (v := (nI 3)) D10_keepNow_46 (by decide) ?_
    refine J_aload_n (pc := 47) D10_keepNow_47 rfl ?_
    refine J_getf (pc := 48) D10_keepNow_48 fl10_302 rfl rfl ?_
    refine J_iadd (pc := 51) D10_keepNow_51 ?_
    refine J_iconst (pc := 52) (v := (nI 0)) D10_keepNow_52 (by decide) ?_
    refine J_callVT (pc := 53) (ac := [.int _, .int _]) D10_keepNow_53 m10_copies_v t1655 (c10_copies (d := d) (t := 22) (a := 0) (by decide) (by decide) (by decide)) (by omega) rfl rfl rfl rfl rfl rfl rfl (fun r w' hq hl => ?_)
    obtain ⟨rfl, M2, rfl, hM2, hE2⟩ := hq
    refine J_aload_n (pc := 56) D10_keepNow_56 rfl ?_
    refine J_dup (pc := 57) D10_keepNow_57 rfl ?_
    refine J_getf (pc := 58) D10_keepNow_58 fl10_302 rfl rfl ?_
    refine J_iconst (pc := 61) (v := (nI 1)) D10_keepNow_61 (by decide) ?_
    refine J_iadd (pc := 62) D10_keepNow_62 ?_
    refine J_mput (pc := 63) D10_keepNow_63 fp10_302 ms_47 ?_
    refine J_vret (pc := 66) D10_keepNow_66 rfl ?_
    refine ⟨rfl, M2, by rw [updI_u]; rfl, fun i hi => (hM2 i (by omega)).trans (hM1 i hi), ?_⟩
    rw [if_neg h20]
    rw [hM1 0 (by decide)] at hE2
    refine ⟨hE2, fun k hk => ?_⟩
    rw [hM2 _ (by omega)]
    exact hE1 k hk
