/-! STRINGS: rows over the String constants (own): .retAddr k stands for the k-th constant, .retAddr (100 + k) for its bytes -/
section JSt
variable {M : JM} {d mc ms n0 pc k n : Nat} {ls : List (Nat × Value)} {st : List Value} {w : List EC} {Q : Option Value → List EC → Prop}
theorem J_ldcS {idx i : Nat} {sx : String} (hd : decode M.2.1 pc = .ok (.ldc idx, 2)) (hq : S0[i]? = some (M.1.cls, idx, sx)) (kk : J M d mc ms n0 (pc + 2) ls (.retAddr i :: st) w k n Q) : J M d mc ms n0 pc ls st w k n Q := by
  intro z D aC A p l e R s m args below meth c H locs lsA ad0 ad E hn h0 hl hP hD hS
  exact va_ldcS E.1 E.2.1 E.2.2.2.2.1 (E.2.2.2.2.2.2.2.2.2.1.2.2.1 i _ hq) hd (kk z D aC A p l e R s m args below meth c H locs lsA ad0 ad E hn h0 hl hP hD hS)
theorem J_aloadS {j : Fin 4} {x : Nat} (hd : decode M.2.1 pc = .ok (.aload_n j, 1)) (hx : lk ls (j : Nat) = some (.retAddr x)) (kk : J M d mc ms n0 (pc + 1) ls (.retAddr x :: st) w k n Q) : J M d mc ms n0 pc ls st w k n Q := by
  intro z D aC A p l e R s m args below meth c H locs lsA ad0 ad E hn h0 hl hP hD hS
  exact lv_aload_n E.1 E.2.1 hd rfl (lk_has hl hx) (kk z D aC A p l e R s m args below meth c H locs lsA ad0 ad E hn h0 hl hP hD hS)
theorem J_svalue {idx i : Nat} (hd : decode M.2.1 pc = .ok (.getfield idx, 3)) (hk : Cond.fieldLink M.1.cls idx "java/lang/String" "value" "[B" ∈ T0) (hi : i < 4) (kk : J M d mc ms n0 (pc + 3) ls (.retAddr (100 + i) :: st) w k n Q) : J M d mc ms n0 pc ls (.retAddr i :: st) w k n Q := by
  intro z D aC A p l e R s m args below meth c H locs lsA ad0 ad E hn h0 hl hP hD hS
  exact vk_getf E.1 E.2.1 (E.2.2.2.2.2.2.2.2.2.1.2.1.1 i hi).2.2.1 hS E.2.2.2.2.1 (E.2.2.2.2.2.1 _ hk) (fun _ h => h) hd (kk z D aC A p l e R s m args below meth c H locs lsA ad0 ad E hn h0 hl hP hD hS)
theorem J_scoder {idx i : Nat} (hd : decode M.2.1 pc = .ok (.getfield idx, 3)) (hk : Cond.fieldLink M.1.cls idx "java/lang/String" "coder" "B" ∈ T0) (hi : i < 4) (kk : J M d mc ms n0 (pc + 3) ls (.int 0 :: st) w k n Q) : J M d mc ms n0 pc ls (.retAddr i :: st) w k n Q := by
  intro z D aC A p l e R s m args below meth c H locs lsA ad0 ad E hn h0 hl hP hD hS
  exact vk_getf E.1 E.2.1 (E.2.2.2.2.2.2.2.2.2.1.2.1.1 i hi).2.1 hS E.2.2.2.2.1 (E.2.2.2.2.2.1 _ hk) (fun _ h => h) hd (kk z D aC A p l e R s m args below meth c H locs lsA ad0 ad E hn h0 hl hP hD hS)
theorem J_salen {i : Nat} (hd : decode M.2.1 pc = .ok (.arraylength, 1)) (hi : i < 4) (kk : J M d mc ms n0 (pc + 1) ls (.int (nI (S0len.getD i 0)) :: st) w k n Q) : J M d mc ms n0 pc ls (.retAddr (100 + i) :: st) w k n Q := by
  intro z D aC A p l e R s m args below meth c H locs lsA ad0 ad E hn h0 hl hP hD hS
  obtain ⟨cell, h1, h2, h3, h4, h5, h6, h7⟩ := (E.2.2.2.2.2.2.2.2.2.1.2.1.1 i hi).2.2.2.kept hS.2.1
  exact W.alen (n := nI (S0len.getD i 0)) E.1 E.2.1 h1 h2 h5 rfl rfl hd (kk z D aC A p l e R s m args below meth c H locs lsA ad0 ad E hn h0 hl hP hD hS)
theorem J_sbald {i b : Nat} {j : Int32} (hd : decode M.2.1 pc = .ok (.baload, 1)) (hi : i < 4) (hj : j = nI b) (hb : b < S0len.getD i 0) (hb2 : b < 1000) (kk : J M d mc ms n0 (pc + 1) ls (.int ((S0byt.getD i []).getD b 0) :: st) w k n Q) : J M d mc ms n0 pc ls (.int j :: .retAddr (100 + i) :: st) w k n Q := by
  intro z D aC A p l e R s m args below meth c H locs lsA ad0 ad E hn h0 hl hP hD hS
  obtain ⟨cell, h1, h2, h3, h4, h5, h6, h7⟩ := (E.2.2.2.2.2.2.2.2.2.1.2.1.1 i hi).2.2.2.kept hS.2.1
  subst hj
  have hc : (nI b).toNatClampNeg = b := nI_clamp (by omega)
  refine W.bald (v := .int ((S0byt.getD i []).getD b 0)) E.1 E.2.1 h1 h2 h3 ?_ ?_ rfl rfl hd (kk z D aC A p l e R s m args below meth c H locs lsA ad0 ad E hn h0 hl hP hD hS)
  · rintro (q | q)
    · exact nI_pos (by omega) q
    · rw [hc] at q; omega
  · rw [hc]; exact h6 b hb
theorem J_getCS {idx : Nat} (hd : decode M.2.1 pc = .ok (.getstatic idx, 3)) (hk : Cond.fieldLink M.1.cls idx "java/lang/String" "COMPACT_STRINGS" "Z" ∈ T0) (kk : J M d mc ms n0 (pc + 3) ls (.int 1 :: st) w k n Q) : J M d mc ms n0 pc ls st w k n Q := by
  intro z D aC A p l e R s m args below meth c H locs lsA ad0 ad E hn h0 hl hP hD hS
  exact va_gets E.1 E.2.1 E.2.2.2.2.2.2.2.2.2.1.2.2.2.1 hS E.2.2.2.2.1 (E.2.2.2.2.2.1 _ hk) (fun _ h => h) hd (kk z D aC A p l e R s m args below meth c H locs lsA ad0 ad E hn h0 hl hP hD hS)
theorem J_getFM {idx : Nat} (hd : decode M.2.1 pc = .ok (.getstatic idx, 3)) (hk : Cond.fieldLink M.1.cls idx "jdk/internal/util/Preconditions" "SIOOBE_FORMATTER" "Ljava/util/function/BiFunction;" ∈ T0) (kk : J M d mc ms n0 (pc + 3) ls (.null :: st) w k n Q) (k2 : J M d mc ms n0 (pc + 3) ls (.retAddr 99 :: st) w k n Q) : J M d mc ms n0 pc ls st w k n Q := by
  intro z D aC A p l e R s m args below meth c H locs lsA ad0 ad E hn h0 hl hP hD hS
  rcases E.2.2.2.2.2.2.2.2.2.1.2.2.2.2 with hZ | hZ
  · exact va_gets E.1 E.2.1 hZ hS E.2.2.2.2.1 (E.2.2.2.2.2.1 _ hk) (fun _ h => h) hd (kk z D aC A p l e R s m args below meth c H locs lsA ad0 ad E hn h0 hl hP hD hS)
  · exact va_gets E.1 E.2.1 hZ hS E.2.2.2.2.1 (E.2.2.2.2.2.1 _ hk) (fun _ h => h) hd (k2 z D aC A p l e R s m args below meth c H locs lsA ad0 ad E hn h0 hl hP hD hS)
theorem J_callVS {idx na dc i : Nat} {Mc : JM} {ac rest : List Value} {v : Value}
    (hd : decode M.2.1 pc = .ok (.invokevirtual idx, 3)) (hm : MV Mc na) (hcl : Mc.1.cls = "java/lang/String") (hk : Cond.methodLink M.1.cls idx Mc.1 ∈ T0) (hT : TR dc Mc (.retAddr i :: ac) [] v) (hdc : dc + 1 ≤ d) (hi : i < 4) (hna : ac.length = na) (hst : st = ac.reverse ++ .retAddr i :: rest) (hv : ∀ ρ, rvF ρ v = v) (hro : Nat.ble (rest.map (fun v => v.category)).sum 8 = true) (hkm : Nat.ble k mc = true) (hnm : Nat.ble n ms = true)
    (kk : J M d mc ms n0 (pc + 3) ls (v :: rest) w k n Q) : J M d mc ms n0 pc ls st w k n Q := by
  intro z D aC A p l e R s m args below meth c H locs lsA ad0 ad E hn h0 hl hP hD hS
  obtain ⟨e1, e2, e3, e4, e5, hts, e7, e8, e9, hE, hA, hK⟩ := id E
  have hM := hT l z D aC (fun i => ad i) H.size
  obtain ⟨hmc, hmi, hms⟩ := hm
  have hs : SubF w (fun k => k) [] := ⟨fun k c h => by simp at h, fun i j h => absurd h (by simp)⟩
  refine J_after (st0 := st.map (cv z ad)) (rest := rest) hs E hn h0 hl hP hD hS (va_runV (bytes := Mc.2.1) (maxL := Mc.2.2.1) (ret := Mc.2.2.2) (own := M.1.cls) (C := Mc.1.cls) (As := ac.map (cv z ad)) (b := z i) ⟨e1, e2, e4, e5, hts⟩ hM ?_ ?_ rfl ((List.length_map _).trans hna) hl.1 ?_ ?_ hd ?_) (fun r w' hq hl2 => ?_)
  · refine ⟨callB_of na hts hmc.good rfl rfl rfl (hts _ hmc.2.1) (hts _ hk) hmc.2.2.1 ?_, hts _ hmi, hts _ hms⟩
    have := hmc.2.2.2
    rw [e9]
    exact ⟨hdc, by show 8 + (Mc.2.2.1 + 11) + 60 * dc ≤ 60 * d; omega⟩
  · refine ⟨Tr.blind, ?_, fun U hU hW => ⟨rfl, by rw [hU], by rw [hU]; exact hs.pp hP, va_K.moved hW.alike hK, ⟨(hs.dd hD).1, fun _ _ => trivial⟩, hE.call hS hU hW (hs.aa hD hA hS)⟩⟩
    rw [hcl]
    exact vk_recv hE.2.1 hi hS
  · show st.map (cv z ad) = _
    rw [hst, List.map_append, List.map_reverse]
    rfl
  · exact lv_room (by rw [cv_cats]; exact Nat.le_of_ble_eq_true hro)
  · rw [e9]
    exact ⟨Nat.le_of_ble_eq_true hkm, Nat.le_of_ble_eq_true hnm⟩
  · obtain ⟨rfl, rfl⟩ := hq
    refine ⟨w, PutF.same hs, ?_⟩
    show J M d mc ms n0 (pc + 3) ls (rvF (fun k => k) v :: rest) w k n Q
    rw [hv]
    exact kk
end JSt
/-- the char at b of the i-th constant -/
def chS (i b : Nat) : Int32 := (S0byt.getD i []).getD b 0
theorem chS_c : ∀ i, i < 4 → ∀ b, b < S0len.getD i 0 → ((chS i b &&& nI 255).toUInt32 % 65536).toInt32 = chS i b := by decide +kernel
theorem S0len_lt : ∀ i, i < 4 → S0len.getD i 0 < 1000 := by decide +kernel
theorem chS_n : ∀ i, i < 4 → ∀ b, b < S0len.getD i 0 → narrow .char (.int (chS i b)) = .int (chS i b) := by decide +kernel

theorem cJ_coder {d k : Nat} (hk : k < 4) : TR d mJ_coder [.retAddr k] [] (.int 0) := by
  refine Tr.intro (by decide) rfl ?_
  refine J_getCS (pc := 0) DJ_coder_0 t525 ?_
  refine J_if_eq (pc := 3) (tgt := 13) DJ_coder_3 (by decide) (fun h3 => absurd h3 (by decide)) (fun h3 => ?_)
  refine J_aloadS (pc := 6) DJ_coder_6 rfl ?_
  refine J_scoder (pc := 7) DJ_coder_7 t1909 hk ?_
  refine J_goto (pc := 10) (tgt := 14) DJ_coder_10 (by decide) ?_
  refine J_zret (pc := 14) DJ_coder_14 rfl (by decide) ?_
  exact ⟨rfl, rfl⟩
theorem cJ_isLatin1 {d k : Nat} (hk : k < 4) : TR d mJ_isLatin1 [.retAddr k] [] (.int (nI 1)) := by
  refine Tr.intro (by decide) rfl ?_
  refine J_getCS (pc := 0) DJ_isLatin1_0 t525 ?_
  refine J_if_eq (pc := 3) (tgt := 17) DJ_isLatin1_3 (by decide) (fun h3 => absurd h3 (by decide)) (fun h3 => ?_)
  refine J_aloadS (pc := 6) DJ_isLatin1_6 rfl ?_
  refine J_scoder (pc := 7) DJ_isLatin1_7 t1909 hk ?_
  refine J_if_ne (pc := 10) (tgt := 17) DJ_isLatin1_10 (by decide) (fun h10 => absurd rfl h10) (fun h10 => ?_)
  refine J_iconst (pc := 13) (v := (nI 1)) DJ_isLatin1_13 (by decide) ?_
  refine J_goto (pc := 14) (tgt := 18) DJ_isLatin1_14 (by decide) ?_
  refine J_zret (pc := 18) DJ_isLatin1_18 rfl (by decide) ?_
  exact ⟨rfl, rfl⟩
theorem cJ_length {d k : Nat} (hk : k < 4) : TR (d + 1) mJ_length [.retAddr k] [] (.int (nI (S0len.getD k 0))) := by
  refine Tr.intro (by decide) rfl ?_
  refine J_aloadS (pc := 0) DJ_length_0 rfl ?_
  refine J_svalue (pc := 1) DJ_length_1 t1908 hk ?_
  refine J_salen (pc := 4) DJ_length_4 hk ?_
  refine J_aloadS (pc := 5) DJ_length_5 rfl ?_
  refine J_callVS (pc := 6) (ac := []) DJ_length_6 mJ_coder_v rfl t521 (cJ_coder (d := d) hk) (by omega) hk rfl rfl (fun _ => rfl) rfl rfl rfl ?_
  refine J_ishr (pc := 9) DJ_length_9 ?_
  refine J_iret (pc := 10) DJ_length_10 rfl ?_
  exact ⟨rfl, congrArg (fun q => some (Value.int q)) (sb_shr0 _)⟩
theorem cJ_checkIndex3 {d i n : Nat} {v : Value} (hi : i < n) (hn : n < 1000) (hv : v = .null ∨ v = .retAddr 99) : TR d mJ_checkIndex3 [.int (nI i), .int (nI n), v] [] (.int (nI i)) := by
  refine Tr.intro (by decide) (by rcases hv with rfl | rfl <;> rfl) ?_
  refine J_iload_n (pc := 0) DJ_checkIndex3_0 rfl ?_
  refine J_if_lt (pc := 1) (tgt := 9) DJ_checkIndex3_1 (by decide) (fun h1 => absurd h1 (nI_pos (by omega))) (fun h1 => ?_)
  refine J_iload_n (pc := 4) DJ_checkIndex3_4 rfl ?_
  refine J_iload_n (pc := 5) DJ_checkIndex3_5 rfl ?_
  refine J_icmp_lt (pc := 6) (tgt := 16) DJ_checkIndex3_6 (by decide) (fun h6 => ?_) (fun h6 => absurd (nI_lt hi (by omega)) h6)
  refine J_iload_n (pc := 16) DJ_checkIndex3_16 rfl ?_
  refine J_iret (pc := 17) DJ_checkIndex3_17 rfl ?_
  exact ⟨rfl, rfl⟩
theorem cJ_checkIndex {d i n : Nat} (hi : i < n) (hn : n < 1000) : Tr (d + 1) 0 0 mJ_checkIndex [.int (nI i), .int (nI n)] [] (fun r w' => r = none ∧ w' = []) := by
  refine Tr.intro (by decide) rfl ?_
  refine J_iload_n (pc := 0) DJ_checkIndex_0 rfl ?_
  refine J_iload_n (pc := 1) DJ_checkIndex_1 rfl ?_
  refine J_getFM (pc := 2) DJ_checkIndex_2 t541 ?_ ?_
  · refine J_callSR (pc := 5) (ι := []) (ac := [.int _, .int _, .null]) DJ_checkIndex_5 mJ_checkIndex3_s t543 (cJ_checkIndex3 (d := d) hi hn (.inl rfl)) (by omega) ⟨rfl, rfl⟩ rfl rfl (fun _ => rfl) rfl rfl rfl ?_
    refine J_pop (pc := 8) DJ_checkIndex_8 rfl ?_
    refine J_vret (pc := 9) DJ_checkIndex_9 rfl ?_
    exact ⟨rfl, rfl⟩
  · refine J_callSR (pc := 5) (ι := []) (ac := [.int _, .int _, .retAddr 99]) DJ_checkIndex_5 mJ_checkIndex3_s t543 (cJ_checkIndex3 (d := d) hi hn (.inr rfl)) (by omega) ⟨rfl, rfl⟩ rfl rfl (fun _ => rfl) rfl rfl rfl ?_
    refine J_pop (pc := 8) DJ_checkIndex_8 rfl ?_
    refine J_vret (pc := 9) DJ_checkIndex_9 rfl ?_
    exact ⟨rfl, rfl⟩
theorem cJ_charAt2 {d k b : Nat} (hk : k < 4) (hb : b < S0len.getD k 0) : TR (d + 2) mJ_charAt2 [.retAddr (100 + k), .int (nI b)] [] (.int (chS k b)) := by
  have hlt := S0len_lt k hk
  refine Tr.intro (by decide) rfl ?_
  refine J_iload_n (pc := 0) DJ_charAt2_0 rfl ?_
  refine J_aloadS (pc := 1) DJ_charAt2_1 rfl ?_
  refine J_salen (pc := 2) DJ_charAt2_2 hk ?_
  refine J_callS (pc := 3) (ι := []) (ac := [.int _, .int _]) DJ_charAt2_3 mJ_checkIndex_s t538 (cJ_checkIndex (d := d) (i := b) (n := S0len.getD k 0) hb hlt) (by omega) ⟨rfl, rfl⟩ rfl rfl rfl rfl rfl (fun r w' hq hl => ?_)
  obtain ⟨rfl, rfl⟩ := hq
  refine J_aloadS (pc := 6) DJ_charAt2_6 rfl ?_
  refine J_iload_n (pc := 7) DJ_charAt2_7 rfl ?_
  refine J_sbald (pc := 8) DJ_charAt2_8 hk rfl hb (by omega) ?_
  refine J_sipush (pc := 9) (v := (nI 255)) DJ_charAt2_9 (by decide) ?_
  refine J_iand (pc := 12) DJ_charAt2_12 ?_
  refine J_i2c (pc := 13) DJ_charAt2_13 ?_
  refine J_st [.int (chS k b)] (by rw [← chS_c k hk b hb]; rfl) ?_
  refine J_zret (pc := 14) DJ_charAt2_14 rfl (chS_n k hk b hb) ?_
  exact ⟨rfl, rfl⟩
theorem cJ_charAt {d k b : Nat} (hk : k < 4) (hb : b < S0len.getD k 0) : TR (d + 3) mJ_charAt [.retAddr k, .int (nI b)] [] (.int (chS k b)) := by
  refine Tr.intro (by decide) rfl ?_
  refine J_aloadS (pc := 0) DJ_charAt_0 rfl ?_
  refine J_callVS (pc := 1) (ac := []) DJ_charAt_1 mJ_isLatin1_v rfl t531 (cJ_isLatin1 (d := d) hk) (by omega) hk rfl rfl (fun _ => rfl) rfl rfl rfl ?_
  refine J_if_eq (pc := 4) (tgt := 16) DJ_charAt_4 (by decide) (fun h4 => absurd h4 (by decide)) (fun h4 => ?_)
  refine J_aloadS (pc := 7) DJ_charAt_7 rfl ?_
  refine J_svalue (pc := 8) DJ_charAt_8 t1908 hk ?_
  refine J_iload_n (pc := 11) DJ_charAt_11 rfl ?_
  refine J_callSR (pc := 12) (ι := []) (ac := [.retAddr _, .int _]) DJ_charAt_12 mJ_charAt2_s t535 (cJ_charAt2 (d := d) hk hb) (by omega) ⟨rfl, rfl⟩ rfl rfl (fun _ => rfl) rfl rfl rfl ?_
  refine J_zret (pc := 15) DJ_charAt_15 rfl (chS_n k hk b hb) ?_
  exact ⟨rfl, rfl⟩
