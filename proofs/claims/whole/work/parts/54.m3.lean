/-! THE MODEL: a law's worth, goes, within, isSetOff (own program mod_m3.py) -/
theorem c10_worksJ {d : Nat} {s : Nat → Int32} {A : Nat → Nat → Int32} {L : LL} {M : Nat → MR} {h j : Nat} (hj : j < 13) (hj2 : j ≠ 2) (hh : h ≤ 62) (es : s 35 = nI (h + 2)) (h1 : BL (L.2 h)) (h2 : BL (L.2 (h + 1))) : Tr (d + 1) 0 0 m10_works [.ref 0, .int (sgM (nI (16 + j)))] (modW s A L M) (fun r w' => ∃ x' k', w' = modW (updI s 35 x') A (L.1, k') M ∧ ((r = some (.int 0) ∧ ¬ BL (joinF (nI (16 + j)) (L.2 h) (L.2 (h + 1)))) ∨ (r = some (.int (nI 1)) ∧ BL (joinF (nI (16 + j)) (L.2 h) (L.2 (h + 1))) ∧ x' = nI (h + 1) ∧ k' h = (joinF (nI (16 + j)) (L.2 h) (L.2 (h + 1))) ∧ ∀ i, i < h → k' i = L.2 i))) := by
  have hj9 : j = 0 ∨ j = 1 ∨ j = 3 ∨ j = 4 ∨ j = 5 ∨ j = 6 ∨ j = 7 ∨ j = 8 ∨ j = 9 ∨ j = 10 ∨ j = 11 ∨ j = 12 := by omega
  rcases hj9 with rfl | rfl | rfl | rfl | rfl | rfl | rfl | rfl | rfl | rfl | rfl | rfl
  · exact c10_works0 hh es h1 h2
  · exact c10_works1 hh es h1 h2
  · exact c10_works3 hh es h1 h2
  · exact c10_works4 hh es h1 h2
  · exact c10_works5 hh es h1 h2
  · exact c10_works6 hh es h1 h2
  · exact c10_works7 hh es h1 h2
  · exact c10_works8 hh es h1 h2
  · exact c10_works9 hh es h1 h2
  · exact c10_works10 hh es h1 h2
  · exact c10_works11 hh es h1 h2
  · exact c10_works12 hh es h1 h2
theorem BL_32 (x : Int32) : BL x.toInt64 := by
  have e : x.toInt64.toInt = x.toInt := Int32.toInt_toInt64 x
  have h1 := Int32.le_toInt x
  have h2 := Int32.toInt_lt x
  exact BL.of (by rw [e]; omega) (by rw [e]; omega)
theorem nameF_B {T : TV} {V : CV} {j b : Nat} (hj : j < 7) : BL (nameF T V (nI (9 + j)) b) := by
  have hj9 : j = 0 ∨ j = 1 ∨ j = 2 ∨ j = 3 ∨ j = 4 ∨ j = 5 ∨ j = 6 := by omega
  rcases hj9 with rfl | rfl | rfl | rfl | rfl | rfl | rfl <;> exact BL_32 _
theorem sg_n : ∀ j, j < 7 → ¬ nI (9 + j) = nI 29 ∧ nI (9 + j) ≤ nI 15 := by decide
theorem sg_b : ∀ j, j < 13 → j ≠ 2 → ¬ nI (16 + j) = nI 29 ∧ ¬ nI (16 + j) ≤ nI 15 ∧ ¬ nI (16 + j) = nI 18 := by decide
theorem BLn {v : Int64} {h : Nat} (hv : BL v) (hh : h < 64) : ¬ (LBIG < v ∨ v < -LBIG ∨ 64 ≤ h) := by
  rintro (q | q | q)
  · exact hv (Or.inl q)
  · exact hv (Or.inr q)
  · omega
theorem mo_wn {T : TV} {V : CV} {b g i h h' : Nat} {k : Nat → Int64} {v : Int64} (e : stepW T V b i h k = some (v, h')) (hv : BL v) (hh : h' < 64) : worthL T V b (g + 1) i h k = worthL T V b g (i + 1) (h' + 1) (vp_updL k h' v) := (worthL_s e).trans (if_neg (BLn hv hh))
theorem mo_we {T : TV} {V : CV} {b g i h h' : Nat} {k : Nat → Int64} {v : Int64} (e : stepW T V b i h k = some (v, h')) (hv : ¬ BL v) : worthL T V b (g + 1) i h k = LMIN := by
  refine (worthL_s e).trans (if_pos ?_)
  have : LBIG < v ∨ v < -LBIG := Decidable.not_not.mp hv
  exact this.imp id Or.inl
def goQ (s : Nat → Int32) (A : Nat → Nat → Int32) (L1 : Nat → Int64) (M : Nat → MR) (wv : Int64) : Option Value → List EC → Prop := fun r w' => ∃ x' k', w' = modW (updI s 35 x') A (L1, k') M ∧ ((r = some (.int 0) ∧ wv = LMIN) ∨ (r = some (.int (nI 1)) ∧ wv = k' 0 ∧ BL (k' 0)))
theorem goQ.tr {s : Nat → Int32} {A : Nat → Nat → Int32} {L1 : Nat → Int64} {M : Nat → MR} {wv : Int64} {y : Int32} : ∀ r w', goQ (updI s 35 y) A L1 M wv r w' → goQ s A L1 M wv r w' := by
  rintro r w' ⟨x', k', rfl, h⟩
  exact ⟨x', k', by rw [updI_u], h⟩
theorem agr_s {k κ : Nat → Int64} {h : Nat} {v : Int64} (hk : ∀ j, j < h → κ j = k j) : ∀ j, j < h + 1 → vp_updL κ h v j = vp_updL k h v j := by
  intro j hj
  by_cases e : j = h
  · rw [e, uL_s, uL_s]
  · rw [uL_n e, uL_n e]; exact hk j (by omega)
theorem agr_k {k κ k' : Nat → Int64} {h : Nat} {v : Int64} (hk : ∀ j, j < h → κ j = k j) (h1 : k' h = v) (h2 : ∀ i, i < h → k' i = k i) : ∀ j, j < h + 1 → vp_updL κ h v j = k' j := by
  intro j hj
  by_cases e : j = h
  · rw [e, uL_s, h1]
  · rw [uL_n e, h2 j (by omega)]; exact hk j (by omega)
theorem bl_k {k k' : Nat → Int64} {h : Nat} (hk : ∀ j, j < h → BL (k j)) (h1 : BL (k' h)) (h2 : ∀ i, i < h → k' i = k i) : ∀ j, j < h + 1 → BL (k' j) := by
  intro j hj
  by_cases e : j = h
  · rw [e]; exact h1
  · rw [h2 j (by omega)]; exact hk j (by omega)
theorem bl_s {k : Nat → Int64} {h : Nat} {v : Int64} (hk : ∀ j, j < h → BL (k j)) (h1 : BL v) : ∀ j, j < h + 1 → BL (vp_updL k h v j) := bl_k hk (by rw [uL_s]; exact h1) (fun i hi => uL_n (by omega))
theorem L10_goes {d : Nat} {A : Nat → Nat → Int32} {M : Nat → MR} {T : TV} {V : CV} {b lw p q : Nat} {hg : Nat → Nat} {L1 : Nat → Int64} (hlw : lw < 3) (hq : q ≤ 64) (e17 : A 17 lw = nI q) (hgq : hg q = 1) (hK : ∀ i, p ≤ i → i < q → KR (T.2.2.2 2 i) (T.2.2.2 3 i) (A 18 i) (A 19 i) (hg i) (hg (i + 1))) (hN : ∀ j, j < 7 → L1 j = nameF T V (nI (9 + j)) b) : ∀ (g i : Nat) (s : Nat → Int32) (k κ : Nat → Int64), i + g = q → p ≤ i → s 35 = nI (hg i) → (∀ j, j < hg i → κ j = k j) → (∀ j, j < hg i → BL (k j)) → J m10_goes (d + 2) 0 0 40 12 [(0, .ref 0), (1, .int (nI lw)), (2, .int (nI i))] [] (modW s A (L1, k) M) 0 0 (goQ s A L1 M (worthL T V b g i (hg i) κ)) := by
  intro g
  induction g with
  | zero =>
    intro i s k κ hi hp es hk hB
    have ei : i = q := by omega
    subst ei
    refine J_iload_n (pc := 12) D10_goes_12 rfl ?_
    refine J_aload_n (pc := 13) D10_goes_13 rfl ?_
    refine J_getf (pc := 14) D10_goes_14 fl10_55 rfl rfl ?_
    refine J_iload_n (pc := 17) D10_goes_17 rfl ?_
    refine J_mald (pc := 18) D10_goes_18 ma_17 rfl (by omega) rfl ?_
    rw [e17]
    refine J_icmp_ge (pc := 19) (tgt := 102) D10_goes_19 (by decide) (fun h19 => ?_) (fun h19 => absurd (nI_le (by omega) (by omega)) h19)
    refine J_iconst (pc := 102) (v := (nI 1)) D10_goes_102 (by decide) ?_
    refine J_zret (pc := 103) D10_goes_103 rfl (by decide) ?_
    rw [hgq] at hk hB ⊢
    refine ⟨s 35, k, by rw [updI_i], Or.inr ⟨rfl, ?_, hB 0 (by omega)⟩⟩
    exact hk 0 (by omega)
  | succ g ih =>
    intro i s k κ hi hp es hk hB
    have hi64 : i < 64 := by omega
    rcases hK i hp (by omega) with ⟨k1, k2, k3, ⟨v9, hv9, k4⟩, k5, k6⟩ | ⟨j, hj, k1, k2, k3, k5, k6⟩ | ⟨k1, k2, k3, k4, k5, k6⟩ | ⟨j, hj, hj2, k1, k2, k3, k4, k5, k6⟩
    · refine J_iload_n (pc := 12) D10_goes_12 rfl ?_
      refine J_aload_n (pc := 13) D10_goes_13 rfl ?_
      refine J_getf (pc := 14) D10_goes_14 fl10_55 rfl rfl ?_
      refine J_iload_n (pc := 17) D10_goes_17 rfl ?_
      refine J_mald (pc := 18) D10_goes_18 ma_17 rfl (by omega) rfl ?_
      rw [e17]
      refine J_icmp_ge (pc := 19) (tgt := 102) D10_goes_19 (by decide) (fun h19 => absurd h19 (nI_ge (by omega) (by omega))) (fun h19 => ?_)
      refine J_aload_n (pc := 22) D10_goes_22 rfl ?_
      refine J_getf (pc := 23) D10_goes_23 fl10_58 rfl rfl ?_
      refine J_iload_n (pc := 26) D10_goes_26 rfl ?_
      refine J_mald (pc := 27) D10_goes_27 ma_18 rfl (by omega) rfl ?_
      refine J_iconst (pc := 28) (v := (nI 2)) D10_goes_28 (by decide) ?_
      rw [k2]
      refine J_icmp_ne (pc := 29) (tgt := 47) D10_goes_29 (by decide) (fun h29 => ?_) (fun h29 => absurd h29 (by decide))
      refine J_aload_n (pc := 47) D10_goes_47 rfl ?_
      refine J_getf (pc := 48) D10_goes_48 fl10_72 rfl rfl ?_
      refine J_aload_n (pc := 51) D10_goes_51 rfl ?_
      refine J_getf (pc := 52) D10_goes_52 fl10_305 rfl rfl ?_
      refine J_aload_n (pc := 55) D10_goes_55 rfl ?_
      refine J_getf (pc := 56) D10_goes_56 fl10_58 rfl rfl ?_
      refine J_iload_n (pc := 59) D10_goes_59 rfl ?_
      refine J_mald (pc := 60) D10_goes_60 ma_18 rfl (by omega) rfl ?_
      rw [k2]
      refine J_if_ne (pc := 61) (tgt := 74) D10_goes_61 (by decide) (fun h61 => absurd (by decide) h61) (fun h61 => ?_)
      refine J_aload_n (pc := 64) D10_goes_64 rfl ?_
      refine J_getf (pc := 65) D10_goes_65 fl10_61 rfl rfl ?_
      refine J_iload_n (pc := 68) D10_goes_68 rfl ?_
      refine J_mald (pc := 69) D10_goes_69 ma_19 rfl (by omega) rfl ?_
      refine J_i2l (pc := 70) D10_goes_70 ?_
      refine J_goto (pc := 71) (tgt := 85) D10_goes_71 (by decide) ?_
      refine J_mwst (pc := 85) D10_goes_85 es (by omega) ?_
      refine J_aload_n (pc := 86) D10_goes_86 rfl ?_
      refine J_dup (pc := 87) D10_goes_87 rfl ?_
      refine J_getf (pc := 88) D10_goes_88 fl10_305 rfl rfl ?_
      refine J_iconst (pc := 91) (v := (nI 1)) D10_goes_91 (by decide) ?_
      refine J_iadd (pc := 92) D10_goes_92 ?_
      refine J_mput (pc := 93) D10_goes_93 fp10_305 ms_35 ?_
      refine J_iinc (pc := 96) D10_goes_96 rfl (nI_inc _) rfl ?_
      refine J_goto (pc := 99) (tgt := 12) D10_goes_99 (by decide) ?_
      refine J_w (w2 := modW (updI s 35 (nI (hg i + 1))) A (L1, vp_updL k (hg i) (T.2.2.2 3 i).toInt64) M) (by rw [es, k3, nI_add]) ?_
      rw [mo_wn (v := (T.2.2.2 3 i).toInt64) (h' := hg i) (by unfold stepW; rw [if_pos k1]) (BL_32 _) k5]
      refine J_mono ?_ (goQ.tr (y := nI (hg i + 1)))
      rw [← k6]
      exact ih (i + 1) _ _ _ (by omega) (by omega) (by rw [updI_s, k6]) (by rw [k6]; exact agr_s hk) (by rw [k6]; exact bl_s hB (BL_32 _))
    · refine J_iload_n (pc := 12) D10_goes_12 rfl ?_
      refine J_aload_n (pc := 13) D10_goes_13 rfl ?_
      refine J_getf (pc := 14) D10_goes_14 fl10_55 rfl rfl ?_
      refine J_iload_n (pc := 17) D10_goes_17 rfl ?_
      refine J_mald (pc := 18) D10_goes_18 ma_17 rfl (by omega) rfl ?_
      rw [e17]
      refine J_icmp_ge (pc := 19) (tgt := 102) D10_goes_19 (by decide) (fun h19 => absurd h19 (nI_ge (by omega) (by omega))) (fun h19 => ?_)
      refine J_aload_n (pc := 22) D10_goes_22 rfl ?_
      refine J_getf (pc := 23) D10_goes_23 fl10_58 rfl rfl ?_
      refine J_iload_n (pc := 26) D10_goes_26 rfl ?_
      refine J_mald (pc := 27) D10_goes_27 ma_18 rfl (by omega) rfl ?_
      refine J_iconst (pc := 28) (v := (nI 2)) D10_goes_28 (by decide) ?_
      rw [k2]
      refine J_icmp_ne (pc := 29) (tgt := 47) D10_goes_29 (by decide) (fun h29 => ?_) (fun h29 => absurd h29 (by decide))
      refine J_aload_n (pc := 47) D10_goes_47 rfl ?_
      refine J_getf (pc := 48) D10_goes_48 fl10_72 rfl rfl ?_
      refine J_aload_n (pc := 51) D10_goes_51 rfl ?_
      refine J_getf (pc := 52) D10_goes_52 fl10_305 rfl rfl ?_
      refine J_aload_n (pc := 55) D10_goes_55 rfl ?_
      refine J_getf (pc := 56) D10_goes_56 fl10_58 rfl rfl ?_
      refine J_iload_n (pc := 59) D10_goes_59 rfl ?_
      refine J_mald (pc := 60) D10_goes_60 ma_18 rfl (by omega) rfl ?_
      rw [k2]
      refine J_if_ne (pc := 61) (tgt := 74) D10_goes_61 (by decide) (fun h61 => ?_) (fun h61 => absurd h61 (by decide))
      refine J_aload_n (pc := 74) D10_goes_74 rfl ?_
      refine J_getf (pc := 75) D10_goes_75 fl10_68 rfl rfl ?_
      refine J_aload_n (pc := 78) D10_goes_78 rfl ?_
      refine J_getf (pc := 79) D10_goes_79 fl10_61 rfl rfl ?_
      refine J_iload_n (pc := 82) D10_goes_82 rfl ?_
      refine J_mald (pc := 83) D10_goes_83 ma_19 rfl (by omega) rfl ?_
      refine J_mnld (pc := 84) D10_goes_84 k3 hj ?_
      refine J_mwst (pc := 85) D10_goes_85 es (by omega) ?_
      refine J_aload_n (pc := 86) D10_goes_86 rfl ?_
      refine J_dup (pc := 87) D10_goes_87 rfl ?_
      refine J_getf (pc := 88) D10_goes_88 fl10_305 rfl rfl ?_
      refine J_iconst (pc := 91) (v := (nI 1)) D10_goes_91 (by decide) ?_
      refine J_iadd (pc := 92) D10_goes_92 ?_
      refine J_mput (pc := 93) D10_goes_93 fp10_305 ms_35 ?_
      refine J_iinc (pc := 96) D10_goes_96 rfl (nI_inc _) rfl ?_
      refine J_goto (pc := 99) (tgt := 12) D10_goes_99 (by decide) ?_
      refine J_w (w2 := modW (updI s 35 (nI (hg i + 1))) A (L1, vp_updL k (hg i) (nameF T V (nI (9 + j)) b)) M) (by rw [es, nI_add, ← hN j hj]) ?_
      rw [mo_wn (v := nameF T V (nI (9 + j)) b) (h' := hg i) (by unfold stepW; rw [k1, if_neg (sg_n j hj).1, if_pos (sg_n j hj).2]) (nameF_B hj) k5]
      refine J_mono ?_ (goQ.tr (y := nI (hg i + 1)))
      rw [← k6]
      exact ih (i + 1) _ _ _ (by omega) (by omega) (by rw [updI_s, k6]) (by rw [k6]; exact agr_s hk) (by rw [k6]; exact bl_s hB (nameF_B hj))
    · refine J_iload_n (pc := 12) D10_goes_12 rfl ?_
      refine J_aload_n (pc := 13) D10_goes_13 rfl ?_
      refine J_getf (pc := 14) D10_goes_14 fl10_55 rfl rfl ?_
      refine J_iload_n (pc := 17) D10_goes_17 rfl ?_
      refine J_mald (pc := 18) D10_goes_18 ma_17 rfl (by omega) rfl ?_
      rw [e17]
      refine J_icmp_ge (pc := 19) (tgt := 102) D10_goes_19 (by decide) (fun h19 => absurd h19 (nI_ge (by omega) (by omega))) (fun h19 => ?_)
      refine J_aload_n (pc := 22) D10_goes_22 rfl ?_
      refine J_getf (pc := 23) D10_goes_23 fl10_58 rfl rfl ?_
      refine J_iload_n (pc := 26) D10_goes_26 rfl ?_
      refine J_mald (pc := 27) D10_goes_27 ma_18 rfl (by omega) rfl ?_
      refine J_iconst (pc := 28) (v := (nI 2)) D10_goes_28 (by decide) ?_
      rw [k2]
      refine J_icmp_ne (pc := 29) (tgt := 47) D10_goes_29 (by decide) (fun h29 => absurd (by decide) h29) (fun h29 => ?_)
      refine J_aload_n (pc := 32) D10_goes_32 rfl ?_
      refine J_aload_n (pc := 33) D10_goes_33 rfl ?_
      refine J_getf (pc := 34) D10_goes_34 fl10_61 rfl rfl ?_
      refine J_iload_n (pc := 37) D10_goes_37 rfl ?_
      refine J_mald (pc := 38) D10_goes_38 ma_19 rfl (by omega) rfl ?_
      rw [k3]
      refine J_callVT (pc := 39) (ac := [.int _]) D10_goes_39 m10_works_v t1635 (c10_works2 (d := d) (h := hg i - 1) (by omega) (by rw [es]; congr 1; omega)) (by omega) rfl rfl rfl rfl rfl rfl rfl (fun r w' hq hl => ?_)
      obtain ⟨k', rfl, rfl, q1, q2⟩ := hq
      refine J_if_ne (pc := 42) (tgt := 96) D10_goes_42 (by decide) (fun h42 => ?_) (fun h42 => absurd h42 (by decide))
      refine J_iinc (pc := 96) D10_goes_96 rfl (nI_inc _) rfl ?_
      refine J_goto (pc := 99) (tgt := 12) D10_goes_99 (by decide) ?_
      rw [mo_wn (v := l01 (κ (hg i - 1) = 0)) (h' := hg i - 1) (by unfold stepW; rw [k1, if_neg (by decide), if_neg (by decide), if_pos ⟨rfl, k4⟩]) BL_01 (by omega)]
      have e9 : hg i - 1 + 1 = hg (i + 1) := by omega
      rw [e9]
      refine ih (i + 1) _ _ _ (by omega) (by omega) (by rw [es, k6]) ?_ ?_
      · rw [← e9]
        exact agr_k (fun j hj => hk j (by omega)) (by rw [q1, hk _ (by omega)]) q2
      · rw [← e9]
        exact bl_k (fun j hj => hB j (by omega)) (by rw [q1]; exact BL_01) q2
    · refine J_iload_n (pc := 12) D10_goes_12 rfl ?_
      refine J_aload_n (pc := 13) D10_goes_13 rfl ?_
      refine J_getf (pc := 14) D10_goes_14 fl10_55 rfl rfl ?_
      refine J_iload_n (pc := 17) D10_goes_17 rfl ?_
      refine J_mald (pc := 18) D10_goes_18 ma_17 rfl (by omega) rfl ?_
      rw [e17]
      refine J_icmp_ge (pc := 19) (tgt := 102) D10_goes_19 (by decide) (fun h19 => absurd h19 (nI_ge (by omega) (by omega))) (fun h19 => ?_)
      refine J_aload_n (pc := 22) D10_goes_22 rfl ?_
      refine J_getf (pc := 23) D10_goes_23 fl10_58 rfl rfl ?_
      refine J_iload_n (pc := 26) D10_goes_26 rfl ?_
      refine J_mald (pc := 27) D10_goes_27 ma_18 rfl (by omega) rfl ?_
      refine J_iconst (pc := 28) (v := (nI 2)) D10_goes_28 (by decide) ?_
      rw [k2]
      refine J_icmp_ne (pc := 29) (tgt := 47) D10_goes_29 (by decide) (fun h29 => absurd (by decide) h29) (fun h29 => ?_)
      refine J_aload_n (pc := 32) D10_goes_32 rfl ?_
      refine J_aload_n (pc := 33) D10_goes_33 rfl ?_
      refine J_getf (pc := 34) D10_goes_34 fl10_61 rfl rfl ?_
      refine J_iload_n (pc := 37) D10_goes_37 rfl ?_
      refine J_mald (pc := 38) D10_goes_38 ma_19 rfl (by omega) rfl ?_
      rw [k3, k1]
      refine J_callVT (pc := 39) (ac := [.int _]) D10_goes_39 m10_works_v t1635 (c10_worksJ (d := d) (h := hg i - 2) hj hj2 (by omega) (by rw [es]; congr 1; omega) (hB _ (by omega)) (hB _ (by omega))) (by omega) rfl rfl rfl rfl rfl rfl rfl (fun r w' hq hl => ?_)
      obtain ⟨x', k', rfl, ⟨rfl, q1⟩ | ⟨rfl, q1, rfl, q2, q3⟩⟩ := hq
      · refine J_if_ne (pc := 42) (tgt := 96) D10_goes_42 (by decide) (fun h42 => absurd (by decide) h42) (fun h42 => ?_)
        refine J_iconst (pc := 45) (v := (nI 0)) D10_goes_45 (by decide) ?_
        refine J_zret (pc := 46) D10_goes_46 rfl (by decide) ?_
        refine ⟨_, _, rfl, Or.inl ⟨rfl, ?_⟩⟩
        rw [mo_we (v := joinF (nI (16 + j)) (κ (hg i - 2)) (κ (hg i - 1))) (h' := hg i - 2) (by unfold stepW; rw [k1, if_neg (sg_b j hj hj2).1, if_neg (sg_b j hj hj2).2.1, if_neg (fun z => (sg_b j hj hj2).2.2 z.1), if_pos k4])]
        rw [hk _ (by omega), hk _ (by omega)]
        rw [show hg i - 2 + 1 = hg i - 1 by omega] at q1
        exact q1
      · refine J_if_ne (pc := 42) (tgt := 96) D10_goes_42 (by decide) (fun h42 => ?_) (fun h42 => absurd h42 (by decide))
        refine J_iinc (pc := 96) D10_goes_96 rfl (nI_inc _) rfl ?_
        refine J_goto (pc := 99) (tgt := 12) D10_goes_99 (by decide) ?_
        rw [show hg i - 2 + 1 = hg i - 1 by omega] at q1 q2
        rw [mo_wn (v := joinF (nI (16 + j)) (κ (hg i - 2)) (κ (hg i - 1))) (h' := hg i - 2) (by unfold stepW; rw [k1, if_neg (sg_b j hj hj2).1, if_neg (sg_b j hj hj2).2.1, if_neg (fun z => (sg_b j hj hj2).2.2 z.1), if_pos k4]) (by rw [hk _ (by omega), hk _ (by omega)]; exact q1) (by omega)]
        have e9 : hg i - 2 + 1 = hg (i + 1) := by omega
        refine J_mono ?_ (goQ.tr (y := nI (hg i - 2 + 1)))
        rw [e9]
        refine ih (i + 1) _ _ _ (by omega) (by omega) (by rw [updI_s]) ?_ ?_
        · rw [← e9]
          exact agr_k (fun j hj => hk j (by omega)) (by rw [q2, hk _ (by omega), hk _ (by omega)]) q3
        · rw [← e9]
          exact bl_k (fun j hj => hB j (by omega)) (by rw [q2]; exact q1) q3
theorem c10_goes {d : Nat} {s : Nat → Int32} {A : Nat → Nat → Int32} {L : LL} {M : Nat → MR} {T : TV} {np nb nn : Nat} (hR : RT A T np nb nn) (hT : WT T np nb nn) {V : CV} {b lw : Nat} (hlw : lw < 3) (hl : ¬ T.2.2.2 0 lw = -1) (hN : ∀ j, j < 7 → L.1 j = nameF T V (nI (9 + j)) b) : Tr (d + 2) 0 0 m10_goes [.ref 0, .int (nI lw)] (modW s A L M) (goQ s A L.1 M (worthF T V lw b)) := by
  rcases hR.2.2.2.2.2.2.2.2.2.1 lw hlw with ⟨e0, -⟩ | ⟨p, q, hg, hpq, hq, e0, e1, e2, e3, h0, h1, hK⟩
  · exact absurd e0 hl
  have ew : worthF T V lw b = worthL T V b (q - p) p (hg p) (fun _ => 0) := by
    unfold worthF
    rw [if_neg hl, e0, e1, nI_clamp (by omega), nI_clamp (by omega), h0]
  rw [ew]
  refine Tr.intro (by decide) rfl ?_
  refine J_aload_n (pc := 0) D10_goes_0 rfl ?_
  refine J_iconst (pc := 1) (v := (nI 0)) D10_goes_1 (by decide) ?_
  refine J_mput (pc := 2) D10_goes_2 fp10_305 ms_35 ?_
  refine J_aload_n (pc := 5) D10_goes_5 rfl ?_
  refine J_getf (pc := 6) D10_goes_6 fl10_52 rfl rfl ?_
  refine J_iload_n (pc := 9) D10_goes_9 rfl ?_
  refine J_mald (pc := 10) D10_goes_10 ma_16 rfl (by omega) rfl ?_
  rw [e2]
  refine J_istore_n (pc := 11) D10_goes_11 rfl ?_
  refine J_mono ?_ (goQ.tr (y := nI 0))
  exact L10_goes (p := p) hlw hq e3 h1 hK hN (q - p) p _ _ _ (by omega) (Nat.le_refl _) (by rw [updI_s, h0]) (fun j hj => by rw [h0] at hj; omega) (fun j hj => by rw [h0] at hj; omega)
theorem lmm (x : Int64) : lmax 0 (lmin 9 x) = lmax 0 (lmin x 9) := by
  congr 1
  unfold lmin
  by_cases h : x < 9
  · rw [if_pos h, if_neg (fun z => Int64.lt_irrefl (Int64.lt_trans h z))]
  · rw [if_neg h]
    by_cases z : 9 < x
    · rw [if_pos z]
    · rw [if_neg z]
      exact Int64.le_antisymm (Int64.not_lt.mp h) (Int64.not_lt.mp z)
theorem BL_ne {x : Int64} (h : BL x) : ¬ x = LMIN := fun e => h (by rw [e]; exact LM_big)
theorem c10_within {d : Nat} {s : Nat → Int32} {A : Nat → Nat → Int32} {L : LL} {M : Nat → MR} {T : TV} {np nb nn : Nat} (hR : RT A T np nb nn) (hT : WT T np nb nn) {V : CV} {b lw : Nat} (hlw : lw < 3) (hN : ∀ j, j < 7 → L.1 j = nameF T V (nI (9 + j)) b) : Tr (d + 3) 0 0 m10_within [.ref 0, .int (nI lw), .int (nI 1)] (modW s A L M) (fun r w' => r = some (.int (measF T V lw b)) ∧ ∃ x' k', w' = modW (updI s 35 x') A (L.1, k') M) := by
  refine Tr.intro (by decide) rfl ?_
  refine J_aload_n (pc := 0) D10_within_0 rfl ?_
  refine J_iload_n (pc := 1) D10_within_1 rfl ?_
  refine J_callVTR (pc := 2) (ac := [.int _]) D10_within_2 m10_hasLaw_v t1610 (c10_hasLaw (d := d + 2) hR hlw) (by omega) rfl rfl rfl rfl (fun _ => rfl) rfl rfl rfl ?_
  refine J_if_eq (pc := 5) (tgt := 16) D10_within_5 (by decide) (fun h5 => ?_) (fun h5 => ?_)
  · have h5' := eq_true h5
    replace h5 := i01_z h5
    refine J_iload_n (pc := 16) D10_within_16 rfl ?_
    refine J_iret (pc := 17) D10_within_17 rfl ?_
    refine ⟨?_, s 35, L.2, by rw [updI_i]⟩
    rw [measF, if_pos (by rw [worthF, if_pos (Decidable.not_not.mp h5)])]
  · replace h5 := i01_nz h5
    refine J_aload_n (pc := 8) D10_within_8 rfl ?_
    refine J_iload_n (pc := 9) D10_within_9 rfl ?_
    refine J_callVT (pc := 10) (ac := [.int _]) D10_within_10 m10_goes_v t1631 (c10_goes (d := d) hR hT hlw h5 hN) (by omega) rfl rfl rfl rfl rfl rfl rfl (fun r w' hq hl => ?_)
    obtain ⟨x', k', rfl, ⟨rfl, q1⟩ | ⟨rfl, q1, q2⟩⟩ := hq
    · refine J_if_ne (pc := 13) (tgt := 18) D10_within_13 (by decide) (fun h13 => absurd (by decide) h13) (fun h13 => ?_)
      refine J_iload_n (pc := 16) D10_within_16 rfl ?_
      refine J_iret (pc := 17) D10_within_17 rfl ?_
      exact ⟨by rw [measF, if_pos q1], _, _, rfl⟩
    · refine J_if_ne (pc := 13) (tgt := 18) D10_within_13 (by decide) (fun h13 => ?_) (fun h13 => absurd h13 (by decide))
      refine J_lconst (pc := 18) (v := 0) D10_within_18 (by decide) ?_
      refine J_ldc2_w (pc := 19) D10_within_19 t1689 ?_
      refine J_aload_n (pc := 22) D10_within_22 rfl ?_
      refine J_getf (pc := 23) D10_within_23 fl10_72 rfl rfl ?_
      refine J_iconst (pc := 26) (v := (nI 0)) D10_within_26 (by decide) ?_
      refine J_mwld (pc := 27) D10_within_27 rfl (by omega) ?_
      refine J_lmin (pc := 28) D10_within_28 t1690 (by omega) rfl rfl rfl ?_
      refine J_lmax (pc := 31) D10_within_31 t1691 (by omega) rfl rfl rfl ?_
      refine J_l2i (pc := 34) D10_within_34 ?_
      refine J_iret (pc := 35) D10_within_35 rfl ?_
      refine ⟨?_, _, _, rfl⟩
      rw [measF, if_neg (by rw [q1]; exact BL_ne q2), q1]
      exact congrArg (fun z => some (Value.int (Int64.toInt32 z))) (lmm (k' 0))
theorem c10_isSetOff {d : Nat} {s : Nat → Int32} {A : Nat → Nat → Int32} {L : LL} {M : Nat → MR} {T : TV} {np nb nn : Nat} (hR : RT A T np nb nn) (hT : WT T np nb nn) {σ : Prop} {V : CV} {c b : Nat} (hc : c < 23) (hC : CR σ np nb nn (M c) V) (hb : b < nb) : Tr (d + 3) 0 0 m10_isSetOff [.ref 0, .int (nI c), .int (nI b)] (modW s A L M) (fun r w' => r = some (.int (burF T V b)) ∧ ∃ x' L', w' = modW (updI s 35 x') A L' M) := by
  have hnb := hT.2.2.2.2.1
  have hnp := hT.2.2.2.1
  have hnn := hT.2.2.2.2.2.1
  obtain ⟨i0, i1, i2, i4, -⟩ := hC.2.2.2.1 b hb
  refine Tr.intro (by decide) rfl ?_
  refine J_aload_n (pc := 0) D10_isSetOff_0 rfl ?_
  refine J_iload_n (pc := 1) D10_isSetOff_1 rfl ?_
  refine J_iload_n (pc := 2) D10_isSetOff_2 rfl ?_
  refine J_callVT (pc := 3) (ac := [.int _, .int _]) D10_isSetOff_3 m10_calls_v t1619 (c10_calls (d := d) hR hT hc hC hb) (by omega) rfl rfl rfl rfl rfl rfl rfl (fun r w' hq hl => ?_)
  obtain ⟨rfl, N, rfl, hN⟩ := hq
  refine J_aload_n (pc := 6) D10_isSetOff_6 rfl ?_
  refine J_iconst (pc := 7) (v := (nI 2)) D10_isSetOff_7 (by decide) ?_
  refine J_callVTR (pc := 8) (ac := [.int _]) D10_isSetOff_8 m10_hasLaw_v t1610 (c10_hasLaw (d := d + 2) hR (k := 2) (by decide)) (by omega) rfl rfl rfl rfl (fun _ => rfl) rfl rfl rfl ?_
  refine J_if_eq (pc := 11) (tgt := 41) D10_isSetOff_11 (by decide) (fun h11 => ?_) (fun h11 => ?_)
  · have h11' := eq_true h11
    replace h11 := i01_z h11
    refine J_aload_n (pc := 41) D10_isSetOff_41 rfl ?_
    refine J_getf (pc := 42) D10_isSetOff_42 fl10_90 rfl rfl ?_
    refine J_bipush (pc := 45) (v := (nI 10)) D10_isSetOff_45 (by decide) ?_
    refine J_iload_n (pc := 47) D10_isSetOff_47 rfl ?_
    refine J_imul (pc := 48) D10_isSetOff_48 ?_
    refine J_iload_n (pc := 49) D10_isSetOff_49 rfl ?_
    refine J_iadd (pc := 50) D10_isSetOff_50 ?_
    refine J_mcld (pc := 51) (stp := 10) D10_isSetOff_51 mc_2 (ixm _ _ _) (by omega) (by omega) rfl ?_
    refine J_iconst (pc := 52) (v := (nI 2)) D10_isSetOff_52 (by decide) ?_
    refine J_icmp_gt (pc := 53) (tgt := 60) D10_isSetOff_53 (by decide) (fun h53 => ?_) (fun h53 => ?_)
    · have h53' := Int32.not_le.mpr h53
      refine J_iconst (pc := 60) (v := (nI 0)) D10_isSetOff_60 (by decide) ?_
      refine J_zret (pc := 61) D10_isSetOff_61 rfl (by decide) ?_
      refine ⟨?_, s 35, _, by rw [updI_i]⟩
      rw [burF, if_pos (by rw [worthF, if_pos (Decidable.not_not.mp h11)]), ← i2]
      exact congrArg (fun q => some (Value.int q)) (i01_f (Int32.not_le.mpr h53)).symm
    · have h53' := Int32.not_lt.mp h53
      refine J_iconst (pc := 56) (v := (nI 1)) D10_isSetOff_56 (by decide) ?_
      refine J_goto (pc := 57) (tgt := 61) D10_isSetOff_57 (by decide) ?_
      refine J_zret (pc := 61) D10_isSetOff_61 rfl (by decide) ?_
      refine ⟨?_, s 35, _, by rw [updI_i]⟩
      rw [burF, if_pos (by rw [worthF, if_pos (Decidable.not_not.mp h11)]), ← i2]
      exact congrArg (fun q => some (Value.int q)) (i01_t (Int32.not_lt.mp h53)).symm
  · replace h11 := i01_nz h11
    refine J_aload_n (pc := 14) D10_isSetOff_14 rfl ?_
    refine J_iconst (pc := 15) (v := (nI 2)) D10_isSetOff_15 (by decide) ?_
    refine J_callVT (pc := 16) (ac := [.int _]) D10_isSetOff_16 m10_goes_v t1631 (c10_goes (d := d) (L := (N, L.2)) hR hT (lw := 2) (by decide) h11 hN) (by omega) rfl rfl rfl rfl rfl rfl rfl (fun r w' hq hl => ?_)
    obtain ⟨x', k', rfl, ⟨rfl, q1⟩ | ⟨rfl, q1, q2⟩⟩ := hq
    · refine J_if_eq (pc := 19) (tgt := 41) D10_isSetOff_19 (by decide) (fun h19 => ?_) (fun h19 => absurd rfl h19)
      refine J_aload_n (pc := 41) D10_isSetOff_41 rfl ?_
      refine J_getf (pc := 42) D10_isSetOff_42 fl10_90 rfl rfl ?_
      refine J_bipush (pc := 45) (v := (nI 10)) D10_isSetOff_45 (by decide) ?_
      refine J_iload_n (pc := 47) D10_isSetOff_47 rfl ?_
      refine J_imul (pc := 48) D10_isSetOff_48 ?_
      refine J_iload_n (pc := 49) D10_isSetOff_49 rfl ?_
      refine J_iadd (pc := 50) D10_isSetOff_50 ?_
      refine J_mcld (pc := 51) (stp := 10) D10_isSetOff_51 mc_2 (ixm _ _ _) (by omega) (by omega) rfl ?_
      refine J_iconst (pc := 52) (v := (nI 2)) D10_isSetOff_52 (by decide) ?_
      refine J_icmp_gt (pc := 53) (tgt := 60) D10_isSetOff_53 (by decide) (fun h53 => ?_) (fun h53 => ?_)
      · have h53' := Int32.not_le.mpr h53
        refine J_iconst (pc := 60) (v := (nI 0)) D10_isSetOff_60 (by decide) ?_
        refine J_zret (pc := 61) D10_isSetOff_61 rfl (by decide) ?_
        refine ⟨?_, _, _, rfl⟩
        rw [burF, if_pos q1, ← i2]
        exact congrArg (fun q => some (Value.int q)) (i01_f (Int32.not_le.mpr h53)).symm
      · have h53' := Int32.not_lt.mp h53
        refine J_iconst (pc := 56) (v := (nI 1)) D10_isSetOff_56 (by decide) ?_
        refine J_goto (pc := 57) (tgt := 61) D10_isSetOff_57 (by decide) ?_
        refine J_zret (pc := 61) D10_isSetOff_61 rfl (by decide) ?_
        refine ⟨?_, _, _, rfl⟩
        rw [burF, if_pos q1, ← i2]
        exact congrArg (fun q => some (Value.int q)) (i01_t (Int32.not_lt.mp h53)).symm
    · refine J_if_eq (pc := 19) (tgt := 41) D10_isSetOff_19 (by decide) (fun h19 => absurd h19 (by decide)) (fun h19 => ?_)
      refine J_aload_n (pc := 22) D10_isSetOff_22 rfl ?_
      refine J_getf (pc := 23) D10_isSetOff_23 fl10_72 rfl rfl ?_
      refine J_iconst (pc := 26) (v := (nI 0)) D10_isSetOff_26 (by decide) ?_
      refine J_mwld (pc := 27) D10_isSetOff_27 rfl (by omega) ?_
      refine J_lconst (pc := 28) (v := 0) D10_isSetOff_28 (by decide) ?_
      refine J_lcmp (pc := 29) D10_isSetOff_29 ?_
      refine J_if_eq (pc := 30) (tgt := 37) D10_isSetOff_30 (by decide) (fun h30 => ?_) (fun h30 => ?_)
      · replace h30 := (lg_cmp_eq _ _).mp h30
        have h30' := eq_true h30
        refine J_iconst (pc := 37) (v := (nI 0)) D10_isSetOff_37 (by decide) ?_
        refine J_goto (pc := 38) (tgt := 61) D10_isSetOff_38 (by decide) ?_
        refine J_zret (pc := 61) D10_isSetOff_61 rfl (by decide) ?_
        refine ⟨?_, _, _, rfl⟩
        rw [burF, if_neg (by rw [q1]; exact BL_ne q2), q1]
        exact congrArg (fun q => some (Value.int q)) (i01_f (fun z => z h30)).symm
      · replace h30 := mt (lg_cmp_eq _ _).mpr h30
        refine J_iconst (pc := 33) (v := (nI 1)) D10_isSetOff_33 (by decide) ?_
        refine J_goto (pc := 34) (tgt := 61) D10_isSetOff_34 (by decide) ?_
        refine J_zret (pc := 61) D10_isSetOff_61 rfl (by decide) ?_
        refine ⟨?_, _, _, rfl⟩
        rw [burF, if_neg (by rw [q1]; exact BL_ne q2), q1]
        exact congrArg (fun q => some (Value.int q)) (i01_t h30).symm
