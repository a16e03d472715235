/-! TEMPERCELLAR: what is seen, counted (own; walks by program wk.py) -/
abbrev NV : Type := Nat × Int32 × (Nat → Nat → Int32)
abbrev tcD (tl hi : Int32) (T : TV) (V : CV) (S : SB) (U : UV) (N : NV) : List EC := tcX tl hi T V S (undC 42 U.1 U.2 ++ seeC 46 N.1 N.2.1 N.2.2)
def seOk (nb : Nat) (N : NV) (x b : Int32) : Bool := decide (nI 1 ≤ x ∧ x ≤ nI 60) && (ixB nb b && decide (N.1 < 24))
def seN (nb : Nat) (N : NV) (x b z : Int32) : NV := if seOk nb N x b = true then (N.1 + 1, N.2.1, adS N.1 N.2.2 x b z (-1)) else N
def seA (nb : Nat) (N : NV) (x b : Int32) : Int32 := if seOk nb N x b = true then nI N.1 else -1
theorem seOk_t {nb : Nat} {N : NV} {x b : Int32} (h : seOk nb N x b = true) : (nI 1 ≤ x ∧ x ≤ nI 60) ∧ ixB nb b = true ∧ N.1 < 24 := by
  unfold seOk at h
  have h1 := Bool.and_eq_true_iff.mp h
  have h2 := Bool.and_eq_true_iff.mp h1.2
  exact ⟨of_decide_eq_true h1.1, h2.1, of_decide_eq_true h2.2⟩
theorem c9_see {d np nb nn : Nat} {tl hi : Int32} {T : TV} {V : CV} {S : SB} {U : UV} {N : NV} (hT : WT T np nb nn) {x b z : Int32} (hN : N.1 ≤ 24) (hz : vp_nar .boolean z = z) : Tr (d + 2) 0 0 m9_see [.ref 0, .int x, .int b, .int z] (tcD tl hi T V S U N) (fun r w' => r = some (.int (seA nb N x b)) ∧ w' = tcD tl hi T V S U (seN nb N x b z)) := by
  refine Tr.intro (by decide) rfl ?_
  refine J_iload_n (pc := 0) D9_see_0 rfl ?_
  refine J_iconst (pc := 1) (v := (nI 1)) D9_see_1 (by decide) ?_
  refine J_bipush (pc := 2) (v := (nI 60)) D9_see_2 (by decide) ?_
  refine J_callSR (pc := 4) (ι := []) (ac := [.int _, .int _, .int _]) D9_see_4 m9_isAmong_s t712 (c9_isAmong (d := d + 1)) (by omega) ⟨rfl, rfl⟩ rfl rfl (fun _ => rfl) rfl rfl rfl ?_
  refine J_if_eq (pc := 7) (tgt := 18) D9_see_7 (by decide) (fun h7 => ?_) (fun h7 => ?_)
  · have h7' := eq_true h7
    replace h7 := i01_z h7
    refine J_iconst (pc := 18) (v := (-1)) D9_see_18 (by decide) ?_
    refine J_iret (pc := 19) D9_see_19 rfl ?_
    have hk : ¬ seOk nb N x b = true := fun q => h7 (seOk_t q).1
    exact ⟨by rw [seA, if_neg hk], by rw [seN, if_neg hk]⟩
  · replace h7 := i01_nz h7
    refine J_aload_n (pc := 10) D9_see_10 rfl ?_
    refine J_iload_n (pc := 11) D9_see_11 rfl ?_
    refine J_callVAR (pc := 12) (ac := [.int _]) D9_see_12 m9_isBottle_v t754 (c9_isBottle (d := d) (V := V) hT) (by omega) rfl rfl rfl rfl rfl (fun _ => rfl) rfl rfl rfl ?_
    refine J_if_ne (pc := 15) (tgt := 20) D9_see_15 (by decide) (fun h15 => ?_) (fun h15 => ?_)
    · replace h15 := i01_nz h15
      refine J_aload_n (pc := 20) D9_see_20 rfl ?_
      refine J_getf (pc := 21) D9_see_21 fl9_75 rfl rfl ?_
      refine J_iload_n (pc := 24) D9_see_24 rfl ?_
      refine J_iload_n (pc := 25) D9_see_25 rfl ?_
      refine J_iload_n (pc := 26) D9_see_26 rfl ?_
      refine J_callVP (pc := 27) (ι := [46, 47, 48, 49, 50, 51, 52]) (ac := [.int x, .int b, .int z]) D9_see_27 m3_add_v t1046 (c3_add (d := d) (c := N.1) (kb := N.2.1) (a := N.2.2) hN hz) (by omega) rfl rfl ⟨rfl, rfl⟩ rfl rfl rfl rfl rfl (fun r w' hq hl => ?_)
      by_cases hc : N.1 < 24
      · obtain ⟨A2, eA2⟩ : ∃ z9, adS N.1 N.2.2 x b z (-1) = z9 := ⟨_, rfl⟩
        obtain ⟨c2, ec2⟩ : ∃ z9, N.1 + 1 = z9 := ⟨_, rfl⟩
        rw [if_pos hc, eA2, ec2] at hq
        obtain ⟨rfl, rfl⟩ := hq
        refine ⟨tcD tl hi T V S U (c2, N.2.1, A2), ⟨rfl, ⟨rfl, rfl⟩, rfl⟩, ?_⟩
        have hk : seOk nb N x b = true := by rw [seOk, decide_eq_true h7, h15, decide_eq_true hc]; rfl
        refine J_iret (pc := 30) D9_see_30 rfl ?_
        exact ⟨by rw [seA, if_pos hk], by rw [seN, if_pos hk, eA2, ec2]⟩
      · rw [if_neg hc] at hq
        obtain ⟨rfl, rfl⟩ := hq
        refine ⟨tcD tl hi T V S U N, ⟨rfl, ⟨rfl, rfl⟩, rfl⟩, ?_⟩
        have hk : ¬ seOk nb N x b = true := fun q => hc (seOk_t q).2.2
        refine J_iret (pc := 30) D9_see_30 rfl ?_
        exact ⟨by rw [seA, if_neg hk], by rw [seN, if_neg hk]⟩
      --
    · have h15' := eq_true h15
      replace h15 := i01_z h15
      refine J_iconst (pc := 18) (v := (-1)) D9_see_18 (by decide) ?_
      refine J_iret (pc := 19) D9_see_19 rfl ?_
      have hk : ¬ seOk nb N x b = true := fun q => h15 (seOk_t q).2.1
      exact ⟨by rw [seA, if_neg hk], by rw [seN, if_neg hk]⟩
def ouOk (N : NV) (x : Int32) : Bool := ixB N.1 x && decide (N.1 < 24)
def ouN (N : NV) (x : Int32) : NV := if ouOk N x = true then (N.1 + 1, N.2.1, adS N.1 N.2.2 (nI 0) (nI 0) (nI 0) x) else N
def ouA (N : NV) (x : Int32) : Int32 := if ouOk N x = true then nI N.1 else -1
theorem c9_out {d np nb nn : Nat} {tl hi : Int32} {T : TV} {V : CV} {S : SB} {U : UV} {N : NV} {x : Int32} (hN : N.1 ≤ 24) : Tr (d + 2) 0 0 m9_out [.ref 0, .int x] (tcD tl hi T V S U N) (fun r w' => r = some (.int (ouA N x)) ∧ w' = tcD tl hi T V S U (ouN N x)) := by
  refine Tr.intro (by decide) rfl ?_
  refine J_iload_n (pc := 0) D9_out_0 rfl ?_
  refine J_iconst (pc := 1) (v := (nI 0)) D9_out_1 (by decide) ?_
  refine J_aload_n (pc := 2) D9_out_2 rfl ?_
  refine J_getf (pc := 3) D9_out_3 fl9_75 rfl rfl ?_
  refine J_getf (pc := 6) D9_out_6 fl9_339 rfl rfl ?_
  refine J_iconst (pc := 9) (v := (nI 1)) D9_out_9 (by decide) ?_
  refine J_isub (pc := 10) D9_out_10 ?_
  refine J_callSR (pc := 11) (ι := []) (ac := [.int _, .int _, .int _]) D9_out_11 m9_isAmong_s t712 (c9_isAmong (d := d + 1)) (by omega) ⟨rfl, rfl⟩ rfl rfl (fun _ => rfl) rfl rfl rfl ?_
  refine J_st [.int (i01 (ixB N.1 x = true))] (by rw [← ixB_i (by omega)]; try rfl) ?_
  refine J_if_ne (pc := 14) (tgt := 19) D9_out_14 (by decide) (fun h14 => ?_) (fun h14 => ?_)
  · replace h14 := i01_nz h14
    refine J_aload_n (pc := 19) D9_out_19 rfl ?_
    refine J_getf (pc := 20) D9_out_20 fl9_75 rfl rfl ?_
    refine J_iload_n (pc := 23) D9_out_23 rfl ?_
    refine J_callVP (pc := 24) (ι := [46, 47, 48, 49, 50, 51, 52]) (ac := [.int x]) D9_out_24 m3_addStrike_v t1054 (c3_addStrike (d := d) (c := N.1) (kb := N.2.1) (a := N.2.2) hN) (by omega) rfl rfl ⟨rfl, rfl⟩ rfl rfl rfl rfl rfl (fun r w' hq hl => ?_)
    by_cases hc : N.1 < 24
    · obtain ⟨A2, eA2⟩ : ∃ z9, adS N.1 N.2.2 (nI 0) (nI 0) (nI 0) x = z9 := ⟨_, rfl⟩
      obtain ⟨c2, ec2⟩ : ∃ z9, N.1 + 1 = z9 := ⟨_, rfl⟩
      rw [if_pos hc, eA2, ec2] at hq
      obtain ⟨rfl, rfl⟩ := hq
      refine ⟨tcD tl hi T V S U (c2, N.2.1, A2), ⟨rfl, ⟨rfl, rfl⟩, rfl⟩, ?_⟩
      have hk : ouOk N x = true := by rw [ouOk, h14, decide_eq_true hc]; rfl
      refine J_iret (pc := 27) D9_out_27 rfl ?_
      exact ⟨by rw [ouA, if_pos hk], by rw [ouN, if_pos hk, eA2, ec2]⟩
    · rw [if_neg hc] at hq
      obtain ⟨rfl, rfl⟩ := hq
      refine ⟨tcD tl hi T V S U N, ⟨rfl, ⟨rfl, rfl⟩, rfl⟩, ?_⟩
      have hk : ¬ ouOk N x = true := fun q => hc (of_decide_eq_true (Bool.and_eq_true_iff.mp q).2)
      refine J_iret (pc := 27) D9_out_27 rfl ?_
      exact ⟨by rw [ouA, if_neg hk], by rw [ouN, if_neg hk]⟩
    --
  · have h14' := eq_true h14
    replace h14 := i01_z h14
    refine J_iconst (pc := 17) (v := (-1)) D9_out_17 (by decide) ?_
    refine J_iret (pc := 18) D9_out_18 rfl ?_
    have hk : ¬ ouOk N x = true := fun q => h14 (Bool.and_eq_true_iff.mp q).1
    exact ⟨by rw [ouA, if_neg hk], by rw [ouN, if_neg hk]⟩
def knOk (N : NV) (x : Int32) : Bool := decide (-1 ≤ x ∧ x ≤ nI N.1)
def knN (N : NV) (x : Int32) : NV := if knOk N x = true then (N.1, x, N.2.2) else N
theorem c9_known {d np nb nn : Nat} {tl hi : Int32} {T : TV} {V : CV} {S : SB} {U : UV} {N : NV} {x : Int32} : Tr (d + 2) 0 0 m9_known [.ref 0, .int x] (tcD tl hi T V S U N) (fun r w' => r = some (.int (i01 (knOk N x = true))) ∧ w' = tcD tl hi T V S U (knN N x)) := by
  refine Tr.intro (by decide) rfl ?_
  refine J_iload_n (pc := 0) D9_known_0 rfl ?_
  refine J_iconst (pc := 1) (v := (-1)) D9_known_1 (by decide) ?_
  refine J_aload_n (pc := 2) D9_known_2 rfl ?_
  refine J_getf (pc := 3) D9_known_3 fl9_75 rfl rfl ?_
  refine J_getf (pc := 6) D9_known_6 fl9_339 rfl rfl ?_
  refine J_callSR (pc := 9) (ι := []) (ac := [.int _, .int _, .int _]) D9_known_9 m9_isAmong_s t712 (c9_isAmong (d := d + 1)) (by omega) ⟨rfl, rfl⟩ rfl rfl (fun _ => rfl) rfl rfl rfl ?_
  refine J_if_ne (pc := 12) (tgt := 17) D9_known_12 (by decide) (fun h12 => ?_) (fun h12 => ?_)
  · replace h12 := i01_nz h12
    refine J_aload_n (pc := 17) D9_known_17 rfl ?_
    refine J_getf (pc := 18) D9_known_18 fl9_75 rfl rfl ?_
    refine J_iload_n (pc := 21) D9_known_21 rfl ?_
    refine J_putf (pc := 22) D9_known_22 fp9_345 rfl Fit.int rfl ?_
    refine J_iconst (pc := 25) (v := (nI 1)) D9_known_25 (by decide) ?_
    refine J_zret (pc := 26) D9_known_26 rfl (by decide) ?_
    have hk : knOk N x = true := decide_eq_true h12
    exact ⟨by rw [i01_t hk]; rfl, by rw [knN, if_pos hk]; rfl⟩
  · have h12' := eq_true h12
    replace h12 := i01_z h12
    refine J_iconst (pc := 15) (v := (nI 0)) D9_known_15 (by decide) ?_
    refine J_zret (pc := 16) D9_known_16 rfl (by decide) ?_
    have hk : ¬ knOk N x = true := fun q => h12 (of_decide_eq_true q)
    exact ⟨by rw [i01_f hk]; rfl, by rw [knN, if_neg hk]⟩
def ctF (T : TV) (V : CV) (U : UV) (N : NV) (x : Int32) : Int32 := if x = nI 0 then T.1 0 else if x = nI 1 then T.1 3 else if x = nI 2 then T.1 10 else if x = nI 3 then T.2.2.1 5 else if x = nI 4 then V.1 else if x = nI 5 then bcnt (bitsF (V.2.2.2 3) (nI 0) 10) else if x = nI 6 then bcnt (bitsF (V.2.2.2 3) (nI 1) 10) else if x = nI 7 then offN V else if x = nI 8 then metN V else if x = nI 9 then umN V else if x = nI 10 then V.2.2.1 else if x = nI 11 then hpN V else if x = nI 12 then nI N.1 else if x = nI 13 then knF N.1 N.2.1 else if x = nI 14 then nI U.1 else -1
theorem c9_count {d : Nat} {tl hi : Int32} {T : TV} {V : CV} {S : SB} {U : UV} {N : NV} {x : Int32} : TR (d + 2) m9_count [.ref 0, .int x] (tcD tl hi T V S U N) (.int (ctF T V U N x)) := by
  refine Tr.intro (by decide) rfl ?_
  refine J_iload_n (pc := 0) D9_count_0 rfl ?_
  refine J_tsw (pc := 1) 0 [76, 84, 92, 100, 111, 119, 128, 137, 146, 154, 162, 170, 178, 186, 194] 202 D9_count_1 (by decide) (by decide) rfl (by decide) (by decide) (fun j hj h1 => ?_) (fun h1 => ?_)
  · have hj1 : j = 0 ∨ j = 1 ∨ j = 2 ∨ j = 3 ∨ j = 4 ∨ j = 5 ∨ j = 6 ∨ j = 7 ∨ j = 8 ∨ j = 9 ∨ j = 10 ∨ j = 11 ∨ j = 12 ∨ j = 13 ∨ j = 14 := by have hj2 : j < 15 := hj; omega
    clear hj
    rcases hj1 with rfl | rfl | rfl | rfl | rfl | rfl | rfl | rfl | rfl | rfl | rfl | rfl | rfl | rfl | rfl
    · refine J_aload_n (pc := 76) D9_count_76 rfl ?_
      refine J_getf (pc := 77) D9_count_77 fl9_18 rfl rfl ?_
      refine J_getf (pc := 80) D9_count_80 fl9_302 rfl rfl ?_
      refine J_iret (pc := 83) D9_count_83 rfl ?_
      exact ⟨rfl, by rw [ctF, if_pos h1]; try rfl⟩
    · refine J_aload_n (pc := 84) D9_count_84 rfl ?_
      refine J_getf (pc := 85) D9_count_85 fl9_18 rfl rfl ?_
      refine J_getf (pc := 88) D9_count_88 fl9_208 rfl rfl ?_
      refine J_iret (pc := 91) D9_count_91 rfl ?_
      exact ⟨rfl, by rw [ctF, if_neg (by rw [h1]; decide), if_pos h1]; try rfl⟩
    · refine J_aload_n (pc := 92) D9_count_92 rfl ?_
      refine J_getf (pc := 93) D9_count_93 fl9_18 rfl rfl ?_
      refine J_getf (pc := 96) D9_count_96 fl9_385 rfl rfl ?_
      refine J_iret (pc := 99) D9_count_99 rfl ?_
      exact ⟨rfl, by rw [ctF, if_neg (by rw [h1]; decide), if_neg (by rw [h1]; decide), if_pos h1]; try rfl⟩
    · refine J_aload_n (pc := 100) D9_count_100 rfl ?_
      refine J_getf (pc := 101) D9_count_101 fl9_18 rfl rfl ?_
      refine J_getf (pc := 104) D9_count_104 fl9_388 rfl rfl ?_
      refine J_getf (pc := 107) D9_count_107 fl9_392 rfl rfl ?_
      refine J_iret (pc := 110) D9_count_110 rfl ?_
      exact ⟨rfl, by rw [ctF, if_neg (by rw [h1]; decide), if_neg (by rw [h1]; decide), if_neg (by rw [h1]; decide), if_pos h1]; try rfl⟩
    · refine J_aload_n (pc := 111) D9_count_111 rfl ?_
      refine J_getf (pc := 112) D9_count_112 fl9_46 rfl rfl ?_
      refine J_getf (pc := 115) D9_count_115 fl9_243 rfl rfl ?_
      refine J_iret (pc := 118) D9_count_118 rfl ?_
      exact ⟨rfl, by rw [ctF, if_neg (by rw [h1]; decide), if_neg (by rw [h1]; decide), if_neg (by rw [h1]; decide), if_neg (by rw [h1]; decide), if_pos h1]; try rfl⟩
    · refine J_aload_n (pc := 119) D9_count_119 rfl ?_
      refine J_getf (pc := 120) D9_count_120 fl9_46 rfl rfl ?_
      refine J_iconst (pc := 123) (v := (nI 0)) D9_count_123 (by decide) ?_
      refine J_callVR (pc := 124) (ι := [19, 20, 21, 22, 23, 24, 25, 26, 27, 28]) (ac := [.int _]) D9_count_124 m0_howMany_v t896 (c0_howMany (d := d) (V := V)) (by omega) rfl rfl ⟨rfl, rfl⟩ rfl rfl (fun _ => rfl) rfl rfl rfl ?_
      refine J_iret (pc := 127) D9_count_127 rfl ?_
      exact ⟨rfl, by rw [ctF, if_neg (by rw [h1]; decide), if_neg (by rw [h1]; decide), if_neg (by rw [h1]; decide), if_neg (by rw [h1]; decide), if_neg (by rw [h1]; decide), if_pos h1]; try rfl⟩
    · refine J_aload_n (pc := 128) D9_count_128 rfl ?_
      refine J_getf (pc := 129) D9_count_129 fl9_46 rfl rfl ?_
      refine J_iconst (pc := 132) (v := (nI 1)) D9_count_132 (by decide) ?_
      refine J_callVR (pc := 133) (ι := [19, 20, 21, 22, 23, 24, 25, 26, 27, 28]) (ac := [.int _]) D9_count_133 m0_howMany_v t896 (c0_howMany (d := d) (V := V)) (by omega) rfl rfl ⟨rfl, rfl⟩ rfl rfl (fun _ => rfl) rfl rfl rfl ?_
      refine J_iret (pc := 136) D9_count_136 rfl ?_
      exact ⟨rfl, by rw [ctF, if_neg (by rw [h1]; decide), if_neg (by rw [h1]; decide), if_neg (by rw [h1]; decide), if_neg (by rw [h1]; decide), if_neg (by rw [h1]; decide), if_neg (by rw [h1]; decide), if_pos h1]; try rfl⟩
    · refine J_aload_n (pc := 137) D9_count_137 rfl ?_
      refine J_getf (pc := 138) D9_count_138 fl9_46 rfl rfl ?_
      refine J_iconst (pc := 141) (v := (nI 2)) D9_count_141 (by decide) ?_
      refine J_callVR (pc := 142) (ι := [19, 20, 21, 22, 23, 24, 25, 26, 27, 28]) (ac := [.int _]) D9_count_142 m0_howMany_v t896 (c0_howMany (d := d) (V := V)) (by omega) rfl rfl ⟨rfl, rfl⟩ rfl rfl (fun _ => rfl) rfl rfl rfl ?_
      refine J_iret (pc := 145) D9_count_145 rfl ?_
      exact ⟨rfl, by rw [ctF, if_neg (by rw [h1]; decide), if_neg (by rw [h1]; decide), if_neg (by rw [h1]; decide), if_neg (by rw [h1]; decide), if_neg (by rw [h1]; decide), if_neg (by rw [h1]; decide), if_neg (by rw [h1]; decide), if_pos h1]; try rfl⟩
    · refine J_aload_n (pc := 146) D9_count_146 rfl ?_
      refine J_getf (pc := 147) D9_count_147 fl9_46 rfl rfl ?_
      refine J_callVR (pc := 150) (ι := [19, 20, 21, 22, 23, 24, 25, 26, 27, 28]) (ac := []) D9_count_150 m0_metNeeds_v t905 (c0_metNeeds (d := d) (V := V)) (by omega) rfl rfl ⟨rfl, rfl⟩ rfl rfl (fun _ => rfl) rfl rfl rfl ?_
      refine J_iret (pc := 153) D9_count_153 rfl ?_
      exact ⟨rfl, by rw [ctF, if_neg (by rw [h1]; decide), if_neg (by rw [h1]; decide), if_neg (by rw [h1]; decide), if_neg (by rw [h1]; decide), if_neg (by rw [h1]; decide), if_neg (by rw [h1]; decide), if_neg (by rw [h1]; decide), if_neg (by rw [h1]; decide), if_pos h1]; try rfl⟩
    · refine J_aload_n (pc := 154) D9_count_154 rfl ?_
      refine J_getf (pc := 155) D9_count_155 fl9_46 rfl rfl ?_
      refine J_callVR (pc := 158) (ι := [19, 20, 21, 22, 23, 24, 25, 26, 27, 28]) (ac := []) D9_count_158 m0_unmetNeeds_v t913 (c0_unmetNeeds (d := d) (V := V)) (by omega) rfl rfl ⟨rfl, rfl⟩ rfl rfl (fun _ => rfl) rfl rfl rfl ?_
      refine J_iret (pc := 161) D9_count_161 rfl ?_
      exact ⟨rfl, by rw [ctF, if_neg (by rw [h1]; decide), if_neg (by rw [h1]; decide), if_neg (by rw [h1]; decide), if_neg (by rw [h1]; decide), if_neg (by rw [h1]; decide), if_neg (by rw [h1]; decide), if_neg (by rw [h1]; decide), if_neg (by rw [h1]; decide), if_neg (by rw [h1]; decide), if_pos h1]; try rfl⟩
    · refine J_aload_n (pc := 162) D9_count_162 rfl ?_
      refine J_getf (pc := 163) D9_count_163 fl9_46 rfl rfl ?_
      refine J_getf (pc := 166) D9_count_166 fl9_400 rfl rfl ?_
      refine J_iret (pc := 169) D9_count_169 rfl ?_
      exact ⟨rfl, by rw [ctF, if_neg (by rw [h1]; decide), if_neg (by rw [h1]; decide), if_neg (by rw [h1]; decide), if_neg (by rw [h1]; decide), if_neg (by rw [h1]; decide), if_neg (by rw [h1]; decide), if_neg (by rw [h1]; decide), if_neg (by rw [h1]; decide), if_neg (by rw [h1]; decide), if_neg (by rw [h1]; decide), if_pos h1]; try rfl⟩
    · refine J_aload_n (pc := 170) D9_count_170 rfl ?_
      refine J_getf (pc := 171) D9_count_171 fl9_46 rfl rfl ?_
      refine J_callVR (pc := 174) (ι := [19, 20, 21, 22, 23, 24, 25, 26, 27, 28]) (ac := []) D9_count_174 m0_hatingPairs_v t917 (c0_hatingPairs (d := d) (V := V)) (by omega) rfl rfl ⟨rfl, rfl⟩ rfl rfl (fun _ => rfl) rfl rfl rfl ?_
      refine J_iret (pc := 177) D9_count_177 rfl ?_
      exact ⟨rfl, by rw [ctF, if_neg (by rw [h1]; decide), if_neg (by rw [h1]; decide), if_neg (by rw [h1]; decide), if_neg (by rw [h1]; decide), if_neg (by rw [h1]; decide), if_neg (by rw [h1]; decide), if_neg (by rw [h1]; decide), if_neg (by rw [h1]; decide), if_neg (by rw [h1]; decide), if_neg (by rw [h1]; decide), if_neg (by rw [h1]; decide), if_pos h1]; try rfl⟩
    · refine J_aload_n (pc := 178) D9_count_178 rfl ?_
      refine J_getf (pc := 179) D9_count_179 fl9_75 rfl rfl ?_
      refine J_getf (pc := 182) D9_count_182 fl9_339 rfl rfl ?_
      refine J_iret (pc := 185) D9_count_185 rfl ?_
      exact ⟨rfl, by rw [ctF, if_neg (by rw [h1]; decide), if_neg (by rw [h1]; decide), if_neg (by rw [h1]; decide), if_neg (by rw [h1]; decide), if_neg (by rw [h1]; decide), if_neg (by rw [h1]; decide), if_neg (by rw [h1]; decide), if_neg (by rw [h1]; decide), if_neg (by rw [h1]; decide), if_neg (by rw [h1]; decide), if_neg (by rw [h1]; decide), if_neg (by rw [h1]; decide), if_pos h1]; try rfl⟩
    · refine J_aload_n (pc := 186) D9_count_186 rfl ?_
      refine J_getf (pc := 187) D9_count_187 fl9_75 rfl rfl ?_
      refine J_callVR (pc := 190) (ι := [46, 47, 48, 49, 50, 51, 52]) (ac := []) D9_count_190 m3_knownCount_v t1120 (c3_knownCount (d := d) (c := N.1) (kb := N.2.1) (a := N.2.2)) (by omega) rfl rfl ⟨rfl, rfl⟩ rfl rfl (fun _ => rfl) rfl rfl rfl ?_
      refine J_iret (pc := 193) D9_count_193 rfl ?_
      exact ⟨rfl, by rw [ctF, if_neg (by rw [h1]; decide), if_neg (by rw [h1]; decide), if_neg (by rw [h1]; decide), if_neg (by rw [h1]; decide), if_neg (by rw [h1]; decide), if_neg (by rw [h1]; decide), if_neg (by rw [h1]; decide), if_neg (by rw [h1]; decide), if_neg (by rw [h1]; decide), if_neg (by rw [h1]; decide), if_neg (by rw [h1]; decide), if_neg (by rw [h1]; decide), if_neg (by rw [h1]; decide), if_pos h1]; try rfl⟩
    · refine J_aload_n (pc := 194) D9_count_194 rfl ?_
      refine J_getf (pc := 195) D9_count_195 fl9_68 rfl rfl ?_
      refine J_getf (pc := 198) D9_count_198 fl9_377 rfl rfl ?_
      refine J_iret (pc := 201) D9_count_201 rfl ?_
      exact ⟨rfl, by rw [ctF, if_neg (by rw [h1]; decide), if_neg (by rw [h1]; decide), if_neg (by rw [h1]; decide), if_neg (by rw [h1]; decide), if_neg (by rw [h1]; decide), if_neg (by rw [h1]; decide), if_neg (by rw [h1]; decide), if_neg (by rw [h1]; decide), if_neg (by rw [h1]; decide), if_neg (by rw [h1]; decide), if_neg (by rw [h1]; decide), if_neg (by rw [h1]; decide), if_neg (by rw [h1]; decide), if_neg (by rw [h1]; decide), if_pos h1]; try rfl⟩
  · refine J_iconst (pc := 202) (v := (-1)) D9_count_202 (by decide) ?_
    refine J_iret (pc := 203) D9_count_203 rfl ?_
    exact ⟨rfl, by rw [ctF, if_neg (h1 0 (by decide)), if_neg (h1 1 (by decide)), if_neg (h1 2 (by decide)), if_neg (h1 3 (by decide)), if_neg (h1 4 (by decide)), if_neg (h1 5 (by decide)), if_neg (h1 6 (by decide)), if_neg (h1 7 (by decide)), if_neg (h1 8 (by decide)), if_neg (h1 9 (by decide)), if_neg (h1 10 (by decide)), if_neg (h1 11 (by decide)), if_neg (h1 12 (by decide)), if_neg (h1 13 (by decide)), if_neg (h1 14 (by decide))]⟩
