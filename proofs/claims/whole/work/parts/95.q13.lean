/-! THE MODEL: a text (own program mod_q13.py) -/
def hfF (f : Nat → Int32) (n k : Nat) : Nat → Int32 := fun i => if i < k then f (n + i) else f i
theorem hfF_s {f : Nat → Int32} {n k : Nat} (h : k < n) : upd (hfF f n k) k (hfF f n k (n + k)) = hfF f n (k + 1) := by
  funext i
  unfold hfF
  by_cases e : i = k
  · rw [e, pk_us, if_neg (by omega), if_pos (by omega)]
  · rw [pk_un e]
    by_cases q : i < k
    · rw [if_pos q, if_pos (by omega)]
    · rw [if_neg q, if_neg (by omega)]
theorem L10_half {d n N : Nat} {f : Nat → Int32} (hN : N = n + n) (hn : n ≤ 64) : ∀ (g k : Nat), k + g = n → J m10_half d 0 0 1 7 [(0, .ref 0), (1, .int (nI n)), (2, .int (nI k))] [] [iA N (hfF f n k)] 0 0 (fun r w' => r = none ∧ w' = [iA N (hfF f n n)]) := by
  have hN2 : Nat.blt N 2147483648 = true := by unfold Nat.blt; exact Nat.ble_eq_true_of_le (by omega)
  intro g
  induction g with
  | zero =>
    intro k hk
    refine J_iload_n (pc := 7) D10_half_7 rfl ?_
    refine J_iload_n (pc := 8) D10_half_8 rfl ?_
    refine J_icmp_ge (pc := 9) (tgt := 26) D10_half_9 (by decide) (fun h9 => ?_) (fun h9 => absurd (nI_le (by omega) (by omega)) h9)
    refine J_vret (pc := 26) D10_half_26 rfl ?_
    exact ⟨rfl, by rw [show k = n by omega]⟩
  | succ g ih =>
    intro k hk
    refine J_iload_n (pc := 7) D10_half_7 rfl ?_
    refine J_iload_n (pc := 8) D10_half_8 rfl ?_
    refine J_icmp_ge (pc := 9) (tgt := 26) D10_half_9 (by decide) (fun h9 => absurd h9 (nI_ge (by omega) (by omega))) (fun h9 => ?_)
    refine J_aload_n (pc := 12) D10_half_12 rfl ?_
    refine J_iload_n (pc := 13) D10_half_13 rfl ?_
    refine J_aload_n (pc := 14) D10_half_14 rfl ?_
    refine J_iload_n (pc := 15) D10_half_15 rfl ?_
    refine J_iload_n (pc := 16) D10_half_16 rfl ?_
    refine J_iadd (pc := 17) D10_half_17 ?_
    refine J_iald (pc := 18) D10_half_18 rfl (nI_add n k) (by omega) hN2 ?_
    refine J_iast (pc := 19) D10_half_19 rfl rfl (by omega) hN2 ?_
    refine J_iinc (pc := 20) D10_half_20 rfl (nI_inc _) rfl ?_
    refine J_goto (pc := 23) (tgt := 7) D10_half_23 (by decide) ?_
    refine J_w (w2 := [iA N (hfF f n (k + 1))]) (by rw [← hfF_s (show k < n by omega)]; rfl) ?_
    exact ih (k + 1) (by omega)
theorem c10_half {d n N : Nat} {f : Nat → Int32} (hN : N = n + n) (hn : n ≤ 64) (hd : nI N / nI 2 = nI n) : Tr d 0 0 m10_half [.ref 0] [iA N f] (fun r w' => r = none ∧ w' = [iA N (hfF f n n)]) := by
  refine Tr.intro (by decide) rfl ?_
  refine J_aload_n (pc := 0) D10_half_0 rfl ?_
  refine J_alen (pc := 1) 0 D10_half_1 rfl (fun _ => rfl) ?_
  refine J_iconst (pc := 2) (v := (nI 2)) D10_half_2 (by decide) ?_
  refine J_idiv (pc := 3) D10_half_3 (by decide) ?_
  rw [hd]
  refine J_istore_n (pc := 4) D10_half_4 rfl ?_
  refine J_iconst (pc := 5) (v := (nI 0)) D10_half_5 (by decide) ?_
  refine J_istore_n (pc := 6) D10_half_6 rfl ?_
  refine J_w (w2 := [iA N (hfF f n 0)]) (by rw [show hfF f n 0 = f from funext fun i => if_neg (by omega)]) ?_
  exact L10_half hN hn n 0 (by omega)
/-- all rows halved -/
def haA (A : Nat → Nat → Int32) : Nat → Nat → Int32 := fun k i => if i < hfK k then A k (hfK k + i) else A k i
theorem RT.ha {A : Nat → Nat → Int32} {T : TV} {np nb nn : Nat} (h : RT (shA A) T np nb nn) (hT : WT T np nb nn) : RT (haA A) T np nb nn := by
  have e : ∀ k i, i < hfK k → haA A k i = shA A k i := fun k i hi => if_pos hi
  obtain ⟨r1, r2, r3, r4, r5, r6, r7, r8, r9, r10, r11, r12, r13⟩ := h
  have hp := hT.2.2.2.1
  have hb9 := hT.2.2.2.2.1
  have hn := hT.2.2.2.2.2.1
  refine ⟨(e 3 0 (by decide)).trans r1, (e 3 1 (by decide)).trans r2, (e 3 2 (by decide)).trans r3, (e 3 3 (by decide)).trans r4, (e 3 4 (by decide)).trans r5, (e 3 5 (by decide)).trans r6, fun p h => ?_, fun b h => ?_, fun n h => ?_, fun k hk => ?_, r11, r12, r13⟩
  · rw [e 4 p (by show p < 5; omega), e 5 p (by show p < 5; omega)]; exact r7 p h
  · rw [e 6 b (by show b < 10; omega), e 7 b (by show b < 10; omega), e 8 b (by show b < 10; omega), e 9 b (by show b < 10; omega), e 10 b (by show b < 10; omega), e 11 b (by show b < 10; omega)]; exact r8 b h
  · rw [e 12 n (by show n < 8; omega), e 13 n (by show n < 8; omega), e 14 n (by show n < 8; omega), e 15 n (by show n < 8; omega)]; exact r9 n h
  · rcases r10 k hk with ⟨y1, y2, y3⟩ | ⟨p, q, hh, y1, y2, y3, y4, y5, y6, y7, y8, y9⟩
    · exact Or.inl ⟨y1, (e 16 k hk).trans y2, (e 17 k hk).trans y3⟩
    · exact Or.inr ⟨p, q, hh, y1, y2, y3, y4, (e 16 k hk).trans y5, (e 17 k hk).trans y6, y7, y8, fun i hi hi2 => by rw [e 18 i (by show i < 64; omega), e 19 i (by show i < 64; omega)]; exact y9 i hi hi2⟩
theorem ha_row {A : Nat → Nat → Int32} {k n : Nat} (hk : hfK k = n) : hfF (A k) n n = haA A k := by
  funext i
  unfold hfF haA
  rw [hk]

theorem c10_begins {d : Nat} {s : Nat → Int32} {A : Nat → Nat → Int32} {L : LL} {M : Nat → MR} {T : TV} {np nb nn : Nat} (en : A 3 1 = nI nb) (hT : WT T np nb nn) : Tr (d + 1) 0 0 m10_begins [.ref 0] (modW s A L M) (fun r w' => r = none ∧ ∃ M', w' = modW s A L M' ∧ SI 0 A nb M M' 5 10 8) := by
  refine Tr.intro (by decide) rfl ?_
  refine J_aload_n (pc := 0) D10_begins_0 rfl ?_
  refine J_iconst (pc := 1) (v := (nI 0)) D10_begins_1 (by decide) ?_
  refine J_callVT (pc := 2) (ac := [.int _]) D10_begins_2 m10_starts_v t1222 (c10_starts (d := d) (c := 0) (by decide) hT.2.2.2.2.1 en) (by omega) rfl rfl rfl rfl rfl rfl rfl (fun r w' hq hl => ?_)
  obtain ⟨rfl, M2, rfl, h2⟩ := hq
  refine J_vret (pc := 5) D10_begins_5 rfl ?_
  exact ⟨rfl, M2, rfl, h2⟩
theorem L10_tx164 {K : TK} {L0 : LL} {M : Nat → MR} {D : Nat} {s : Nat → Int32} {A : Nat → Nat → Int32} {x : Int32} {T : TV} {np nb nn : Nat} (hD : 5 ≤ D) (hR : RT (shA A) T np nb nn) (hT : WT T np nb nn) {V : CV} : J m10_text D 0 0 40 164 [(0, .ref 0), (1, .int x)] [] (modW (updI (updI s 29 (s 27)) 30 (s 28)) A L0 M) 0 0 (fun r w' => r = some (.int (s 21)) ∧ ∃ s' A' M', w' = modW s' A' L0 M' ∧ RT A' T np nb nn ∧ CR False np nb nn (M' 0) (layF T nb V) ∧ (∀ k, k < 3 ∨ 19 < k → A' k = A k) ∧ (∀ i, i ≠ 0 → M' i = M i) ∧ (s' 57 = nI 0 ∧ s' 58 = -1 ∧ s' 46 = nI 0 ∧ s' 47 = nI 0 ∧ s' 29 = s 27 ∧ s' 30 = s 28) ∧ ∀ k, k ≠ 29 → k ≠ 30 → k ≠ 46 → k ≠ 47 → k ≠ 57 → k ≠ 58 → s' k = s k) := by
  refine J_aload_n (pc := 164) D10_text_164 rfl ?_
  refine J_getf (pc := 165) D10_text_165 fl10_13 rfl rfl ?_
  refine J_callS (pc := 168) (ι := [2]) (ac := [.ref 0]) D10_text_168 m10_half_s t1552 (c10_half (d := D - 2) (n := 6) (N := 12) (f := A 3) rfl (by decide) (by decide)) (by omega) ⟨rfl, rfl⟩ rfl rfl rfl rfl rfl (fun r w' hq hl => ?_)
  obtain ⟨rfl, rfl⟩ := hq
  refine J_w (w2 := modW (updI (updI s 29 (s 27)) 30 (s 28)) (upA A 3 (haA A 3)) L0 M) (by rw [← ha_row (A := A) (k := 3) (n := 6) rfl]; rfl) ?_
  generalize hA3 : upA A 3 (haA A 3) = A3
  have k3 : ∀ j, 3 < j → A3 j = A j := fun j hj => by rw [← hA3, upA_n (by omega)]
  refine J_aload_n (pc := 171) D10_text_171 rfl ?_
  refine J_getf (pc := 172) D10_text_172 fl10_16 rfl rfl ?_
  refine J_callS (pc := 175) (ι := [3]) (ac := [.ref 0]) D10_text_175 m10_half_s t1552 (c10_half (d := D - 2) (n := 5) (N := 10) (f := A3 4) rfl (by decide) (by decide)) (by omega) ⟨rfl, rfl⟩ rfl rfl rfl rfl rfl (fun r w' hq hl => ?_)
  obtain ⟨rfl, rfl⟩ := hq
  refine J_w (w2 := modW (updI (updI s 29 (s 27)) 30 (s 28)) (upA A3 4 (haA A 4)) L0 M) (by rw [← ha_row (A := A) (k := 4) (n := 5) rfl, ← k3 4 (by decide)]; rfl) ?_
  generalize hA4 : upA A3 4 (haA A 4) = A4
  have k4 : ∀ j, 4 < j → A4 j = A j := fun j hj => by rw [← hA4, upA_n (by omega)]; exact k3 j (by omega)
  refine J_aload_n (pc := 178) D10_text_178 rfl ?_
  refine J_getf (pc := 179) D10_text_179 fl10_19 rfl rfl ?_
  refine J_callS (pc := 182) (ι := [4]) (ac := [.ref 0]) D10_text_182 m10_half_s t1552 (c10_half (d := D - 2) (n := 5) (N := 10) (f := A4 5) rfl (by decide) (by decide)) (by omega) ⟨rfl, rfl⟩ rfl rfl rfl rfl rfl (fun r w' hq hl => ?_)
  obtain ⟨rfl, rfl⟩ := hq
  refine J_w (w2 := modW (updI (updI s 29 (s 27)) 30 (s 28)) (upA A4 5 (haA A 5)) L0 M) (by rw [← ha_row (A := A) (k := 5) (n := 5) rfl, ← k4 5 (by decide)]; rfl) ?_
  generalize hA5 : upA A4 5 (haA A 5) = A5
  have k5 : ∀ j, 5 < j → A5 j = A j := fun j hj => by rw [← hA5, upA_n (by omega)]; exact k4 j (by omega)
  refine J_aload_n (pc := 185) D10_text_185 rfl ?_
  refine J_getf (pc := 186) D10_text_186 fl10_22 rfl rfl ?_
  refine J_callS (pc := 189) (ι := [5]) (ac := [.ref 0]) D10_text_189 m10_half_s t1552 (c10_half (d := D - 2) (n := 10) (N := 20) (f := A5 6) rfl (by decide) (by decide)) (by omega) ⟨rfl, rfl⟩ rfl rfl rfl rfl rfl (fun r w' hq hl => ?_)
  obtain ⟨rfl, rfl⟩ := hq
  refine J_w (w2 := modW (updI (updI s 29 (s 27)) 30 (s 28)) (upA A5 6 (haA A 6)) L0 M) (by rw [← ha_row (A := A) (k := 6) (n := 10) rfl, ← k5 6 (by decide)]; rfl) ?_
  generalize hA6 : upA A5 6 (haA A 6) = A6
  have k6 : ∀ j, 6 < j → A6 j = A j := fun j hj => by rw [← hA6, upA_n (by omega)]; exact k5 j (by omega)
  refine J_aload_n (pc := 192) D10_text_192 rfl ?_
  refine J_getf (pc := 193) D10_text_193 fl10_25 rfl rfl ?_
  refine J_callS (pc := 196) (ι := [6]) (ac := [.ref 0]) D10_text_196 m10_half_s t1552 (c10_half (d := D - 2) (n := 10) (N := 20) (f := A6 7) rfl (by decide) (by decide)) (by omega) ⟨rfl, rfl⟩ rfl rfl rfl rfl rfl (fun r w' hq hl => ?_)
  obtain ⟨rfl, rfl⟩ := hq
  refine J_w (w2 := modW (updI (updI s 29 (s 27)) 30 (s 28)) (upA A6 7 (haA A 7)) L0 M) (by rw [← ha_row (A := A) (k := 7) (n := 10) rfl, ← k6 7 (by decide)]; rfl) ?_
  generalize hA7 : upA A6 7 (haA A 7) = A7
  have k7 : ∀ j, 7 < j → A7 j = A j := fun j hj => by rw [← hA7, upA_n (by omega)]; exact k6 j (by omega)
  refine J_aload_n (pc := 199) D10_text_199 rfl ?_
  refine J_getf (pc := 200) D10_text_200 fl10_28 rfl rfl ?_
  refine J_callS (pc := 203) (ι := [7]) (ac := [.ref 0]) D10_text_203 m10_half_s t1552 (c10_half (d := D - 2) (n := 10) (N := 20) (f := A7 8) rfl (by decide) (by decide)) (by omega) ⟨rfl, rfl⟩ rfl rfl rfl rfl rfl (fun r w' hq hl => ?_)
  obtain ⟨rfl, rfl⟩ := hq
  refine J_w (w2 := modW (updI (updI s 29 (s 27)) 30 (s 28)) (upA A7 8 (haA A 8)) L0 M) (by rw [← ha_row (A := A) (k := 8) (n := 10) rfl, ← k7 8 (by decide)]; rfl) ?_
  generalize hA8 : upA A7 8 (haA A 8) = A8
  have k8 : ∀ j, 8 < j → A8 j = A j := fun j hj => by rw [← hA8, upA_n (by omega)]; exact k7 j (by omega)
  refine J_aload_n (pc := 206) D10_text_206 rfl ?_
  refine J_getf (pc := 207) D10_text_207 fl10_31 rfl rfl ?_
  refine J_callS (pc := 210) (ι := [8]) (ac := [.ref 0]) D10_text_210 m10_half_s t1552 (c10_half (d := D - 2) (n := 10) (N := 20) (f := A8 9) rfl (by decide) (by decide)) (by omega) ⟨rfl, rfl⟩ rfl rfl rfl rfl rfl (fun r w' hq hl => ?_)
  obtain ⟨rfl, rfl⟩ := hq
  refine J_w (w2 := modW (updI (updI s 29 (s 27)) 30 (s 28)) (upA A8 9 (haA A 9)) L0 M) (by rw [← ha_row (A := A) (k := 9) (n := 10) rfl, ← k8 9 (by decide)]; rfl) ?_
  generalize hA9 : upA A8 9 (haA A 9) = A9
  have k9 : ∀ j, 9 < j → A9 j = A j := fun j hj => by rw [← hA9, upA_n (by omega)]; exact k8 j (by omega)
  refine J_aload_n (pc := 213) D10_text_213 rfl ?_
  refine J_getf (pc := 214) D10_text_214 fl10_34 rfl rfl ?_
  refine J_callS (pc := 217) (ι := [9]) (ac := [.ref 0]) D10_text_217 m10_half_s t1552 (c10_half (d := D - 2) (n := 10) (N := 20) (f := A9 10) rfl (by decide) (by decide)) (by omega) ⟨rfl, rfl⟩ rfl rfl rfl rfl rfl (fun r w' hq hl => ?_)
  obtain ⟨rfl, rfl⟩ := hq
  refine J_w (w2 := modW (updI (updI s 29 (s 27)) 30 (s 28)) (upA A9 10 (haA A 10)) L0 M) (by rw [← ha_row (A := A) (k := 10) (n := 10) rfl, ← k9 10 (by decide)]; rfl) ?_
  generalize hA10 : upA A9 10 (haA A 10) = A10
  have k10 : ∀ j, 10 < j → A10 j = A j := fun j hj => by rw [← hA10, upA_n (by omega)]; exact k9 j (by omega)
  refine J_aload_n (pc := 220) D10_text_220 rfl ?_
  refine J_getf (pc := 221) D10_text_221 fl10_37 rfl rfl ?_
  refine J_callS (pc := 224) (ι := [10]) (ac := [.ref 0]) D10_text_224 m10_half_s t1552 (c10_half (d := D - 2) (n := 10) (N := 20) (f := A10 11) rfl (by decide) (by decide)) (by omega) ⟨rfl, rfl⟩ rfl rfl rfl rfl rfl (fun r w' hq hl => ?_)
  obtain ⟨rfl, rfl⟩ := hq
  refine J_w (w2 := modW (updI (updI s 29 (s 27)) 30 (s 28)) (upA A10 11 (haA A 11)) L0 M) (by rw [← ha_row (A := A) (k := 11) (n := 10) rfl, ← k10 11 (by decide)]; rfl) ?_
  generalize hA11 : upA A10 11 (haA A 11) = A11
  have k11 : ∀ j, 11 < j → A11 j = A j := fun j hj => by rw [← hA11, upA_n (by omega)]; exact k10 j (by omega)
  refine J_aload_n (pc := 227) D10_text_227 rfl ?_
  refine J_getf (pc := 228) D10_text_228 fl10_40 rfl rfl ?_
  refine J_callS (pc := 231) (ι := [11]) (ac := [.ref 0]) D10_text_231 m10_half_s t1552 (c10_half (d := D - 2) (n := 8) (N := 16) (f := A11 12) rfl (by decide) (by decide)) (by omega) ⟨rfl, rfl⟩ rfl rfl rfl rfl rfl (fun r w' hq hl => ?_)
  obtain ⟨rfl, rfl⟩ := hq
  refine J_w (w2 := modW (updI (updI s 29 (s 27)) 30 (s 28)) (upA A11 12 (haA A 12)) L0 M) (by rw [← ha_row (A := A) (k := 12) (n := 8) rfl, ← k11 12 (by decide)]; rfl) ?_
  generalize hA12 : upA A11 12 (haA A 12) = A12
  have k12 : ∀ j, 12 < j → A12 j = A j := fun j hj => by rw [← hA12, upA_n (by omega)]; exact k11 j (by omega)
  refine J_aload_n (pc := 234) D10_text_234 rfl ?_
  refine J_getf (pc := 235) D10_text_235 fl10_43 rfl rfl ?_
  refine J_callS (pc := 238) (ι := [12]) (ac := [.ref 0]) D10_text_238 m10_half_s t1552 (c10_half (d := D - 2) (n := 8) (N := 16) (f := A12 13) rfl (by decide) (by decide)) (by omega) ⟨rfl, rfl⟩ rfl rfl rfl rfl rfl (fun r w' hq hl => ?_)
  obtain ⟨rfl, rfl⟩ := hq
  refine J_w (w2 := modW (updI (updI s 29 (s 27)) 30 (s 28)) (upA A12 13 (haA A 13)) L0 M) (by rw [← ha_row (A := A) (k := 13) (n := 8) rfl, ← k12 13 (by decide)]; rfl) ?_
  generalize hA13 : upA A12 13 (haA A 13) = A13
  have k13 : ∀ j, 13 < j → A13 j = A j := fun j hj => by rw [← hA13, upA_n (by omega)]; exact k12 j (by omega)
  refine J_aload_n (pc := 241) D10_text_241 rfl ?_
  refine J_getf (pc := 242) D10_text_242 fl10_46 rfl rfl ?_
  refine J_callS (pc := 245) (ι := [13]) (ac := [.ref 0]) D10_text_245 m10_half_s t1552 (c10_half (d := D - 2) (n := 8) (N := 16) (f := A13 14) rfl (by decide) (by decide)) (by omega) ⟨rfl, rfl⟩ rfl rfl rfl rfl rfl (fun r w' hq hl => ?_)
  obtain ⟨rfl, rfl⟩ := hq
  refine J_w (w2 := modW (updI (updI s 29 (s 27)) 30 (s 28)) (upA A13 14 (haA A 14)) L0 M) (by rw [← ha_row (A := A) (k := 14) (n := 8) rfl, ← k13 14 (by decide)]; rfl) ?_
  generalize hA14 : upA A13 14 (haA A 14) = A14
  have k14 : ∀ j, 14 < j → A14 j = A j := fun j hj => by rw [← hA14, upA_n (by omega)]; exact k13 j (by omega)
  refine J_aload_n (pc := 248) D10_text_248 rfl ?_
  refine J_getf (pc := 249) D10_text_249 fl10_49 rfl rfl ?_
  refine J_callS (pc := 252) (ι := [14]) (ac := [.ref 0]) D10_text_252 m10_half_s t1552 (c10_half (d := D - 2) (n := 8) (N := 16) (f := A14 15) rfl (by decide) (by decide)) (by omega) ⟨rfl, rfl⟩ rfl rfl rfl rfl rfl (fun r w' hq hl => ?_)
  obtain ⟨rfl, rfl⟩ := hq
  refine J_w (w2 := modW (updI (updI s 29 (s 27)) 30 (s 28)) (upA A14 15 (haA A 15)) L0 M) (by rw [← ha_row (A := A) (k := 15) (n := 8) rfl, ← k14 15 (by decide)]; rfl) ?_
  generalize hA15 : upA A14 15 (haA A 15) = A15
  have k15 : ∀ j, 15 < j → A15 j = A j := fun j hj => by rw [← hA15, upA_n (by omega)]; exact k14 j (by omega)
  refine J_aload_n (pc := 255) D10_text_255 rfl ?_
  refine J_getf (pc := 256) D10_text_256 fl10_52 rfl rfl ?_
  refine J_callS (pc := 259) (ι := [15]) (ac := [.ref 0]) D10_text_259 m10_half_s t1552 (c10_half (d := D - 2) (n := 3) (N := 6) (f := A15 16) rfl (by decide) (by decide)) (by omega) ⟨rfl, rfl⟩ rfl rfl rfl rfl rfl (fun r w' hq hl => ?_)
  obtain ⟨rfl, rfl⟩ := hq
  refine J_w (w2 := modW (updI (updI s 29 (s 27)) 30 (s 28)) (upA A15 16 (haA A 16)) L0 M) (by rw [← ha_row (A := A) (k := 16) (n := 3) rfl, ← k15 16 (by decide)]; rfl) ?_
  generalize hA16 : upA A15 16 (haA A 16) = A16
  have k16 : ∀ j, 16 < j → A16 j = A j := fun j hj => by rw [← hA16, upA_n (by omega)]; exact k15 j (by omega)
  refine J_aload_n (pc := 262) D10_text_262 rfl ?_
  refine J_getf (pc := 263) D10_text_263 fl10_55 rfl rfl ?_
  refine J_callS (pc := 266) (ι := [16]) (ac := [.ref 0]) D10_text_266 m10_half_s t1552 (c10_half (d := D - 2) (n := 3) (N := 6) (f := A16 17) rfl (by decide) (by decide)) (by omega) ⟨rfl, rfl⟩ rfl rfl rfl rfl rfl (fun r w' hq hl => ?_)
  obtain ⟨rfl, rfl⟩ := hq
  refine J_w (w2 := modW (updI (updI s 29 (s 27)) 30 (s 28)) (upA A16 17 (haA A 17)) L0 M) (by rw [← ha_row (A := A) (k := 17) (n := 3) rfl, ← k16 17 (by decide)]; rfl) ?_
  generalize hA17 : upA A16 17 (haA A 17) = A17
  have k17 : ∀ j, 17 < j → A17 j = A j := fun j hj => by rw [← hA17, upA_n (by omega)]; exact k16 j (by omega)
  refine J_aload_n (pc := 269) D10_text_269 rfl ?_
  refine J_getf (pc := 270) D10_text_270 fl10_58 rfl rfl ?_
  refine J_callS (pc := 273) (ι := [17]) (ac := [.ref 0]) D10_text_273 m10_half_s t1552 (c10_half (d := D - 2) (n := 64) (N := 128) (f := A17 18) rfl (by decide) (by decide)) (by omega) ⟨rfl, rfl⟩ rfl rfl rfl rfl rfl (fun r w' hq hl => ?_)
  obtain ⟨rfl, rfl⟩ := hq
  refine J_w (w2 := modW (updI (updI s 29 (s 27)) 30 (s 28)) (upA A17 18 (haA A 18)) L0 M) (by rw [← ha_row (A := A) (k := 18) (n := 64) rfl, ← k17 18 (by decide)]; rfl) ?_
  generalize hA18 : upA A17 18 (haA A 18) = A18
  have k18 : ∀ j, 18 < j → A18 j = A j := fun j hj => by rw [← hA18, upA_n (by omega)]; exact k17 j (by omega)
  refine J_aload_n (pc := 276) D10_text_276 rfl ?_
  refine J_getf (pc := 277) D10_text_277 fl10_61 rfl rfl ?_
  refine J_callS (pc := 280) (ι := [18]) (ac := [.ref 0]) D10_text_280 m10_half_s t1552 (c10_half (d := D - 2) (n := 64) (N := 128) (f := A18 19) rfl (by decide) (by decide)) (by omega) ⟨rfl, rfl⟩ rfl rfl rfl rfl rfl (fun r w' hq hl => ?_)
  obtain ⟨rfl, rfl⟩ := hq
  refine J_w (w2 := modW (updI (updI s 29 (s 27)) 30 (s 28)) (upA A18 19 (haA A 19)) L0 M) (by rw [← ha_row (A := A) (k := 19) (n := 64) rfl, ← k18 19 (by decide)]; rfl) ?_
  generalize hA19 : upA A18 19 (haA A 19) = A19
  have k19 : ∀ j, 19 < j → A19 j = A j := fun j hj => by rw [← hA19, upA_n (by omega)]; exact k18 j (by omega)
  refine J_aload_n (pc := 283) D10_text_283 rfl ?_
  refine J_iconst (pc := 284) (v := (nI 0)) D10_text_284 (by decide) ?_
  refine J_mput (pc := 285) D10_text_285 fp10_295 ms_57 ?_
  refine J_aload_n (pc := 288) D10_text_288 rfl ?_
  refine J_iconst (pc := 289) (v := (-1)) D10_text_289 (by decide) ?_
  refine J_mput (pc := 290) D10_text_290 fp10_117 ms_58 ?_
  refine J_aload_n (pc := 293) D10_text_293 rfl ?_
  refine J_iconst (pc := 294) (v := (nI 0)) D10_text_294 (by decide) ?_
  refine J_mputZ (pc := 295) D10_text_295 fp10_298 ms_46 (by first | exact Or.inl rfl | exact Or.inr rfl) ?_
  refine J_aload_n (pc := 298) D10_text_298 rfl ?_
  refine J_iconst (pc := 299) (v := (nI 0)) D10_text_299 (by decide) ?_
  refine J_mput (pc := 300) D10_text_300 fp10_302 ms_47 ?_
  refine J_aload_n (pc := 303) D10_text_303 rfl ?_
  have hAA : ∀ j, 3 ≤ j → j ≤ 19 → A19 j = haA A j := fun j h1 h2 => by
    have e : ∀ j, j = 3 ∨ j = 4 ∨ j = 5 ∨ j = 6 ∨ j = 7 ∨ j = 8 ∨ j = 9 ∨ j = 10 ∨ j = 11 ∨ j = 12 ∨ j = 13 ∨ j = 14 ∨ j = 15 ∨ j = 16 ∨ j = 17 ∨ j = 18 ∨ j = 19 → A19 j = haA A j := by
      rintro j (rfl | rfl | rfl | rfl | rfl | rfl | rfl | rfl | rfl | rfl | rfl | rfl | rfl | rfl | rfl | rfl | rfl)
      · rw [← hA19, upA_n (by decide), ← hA18, upA_n (by decide), ← hA17, upA_n (by decide), ← hA16, upA_n (by decide), ← hA15, upA_n (by decide), ← hA14, upA_n (by decide), ← hA13, upA_n (by decide), ← hA12, upA_n (by decide), ← hA11, upA_n (by decide), ← hA10, upA_n (by decide), ← hA9, upA_n (by decide), ← hA8, upA_n (by decide), ← hA7, upA_n (by decide), ← hA6, upA_n (by decide), ← hA5, upA_n (by decide), ← hA4, upA_n (by decide), ← hA3, upA_s]
      · rw [← hA19, upA_n (by decide), ← hA18, upA_n (by decide), ← hA17, upA_n (by decide), ← hA16, upA_n (by decide), ← hA15, upA_n (by decide), ← hA14, upA_n (by decide), ← hA13, upA_n (by decide), ← hA12, upA_n (by decide), ← hA11, upA_n (by decide), ← hA10, upA_n (by decide), ← hA9, upA_n (by decide), ← hA8, upA_n (by decide), ← hA7, upA_n (by decide), ← hA6, upA_n (by decide), ← hA5, upA_n (by decide), ← hA4, upA_s]
      · rw [← hA19, upA_n (by decide), ← hA18, upA_n (by decide), ← hA17, upA_n (by decide), ← hA16, upA_n (by decide), ← hA15, upA_n (by decide), ← hA14, upA_n (by decide), ← hA13, upA_n (by decide), ← hA12, upA_n (by decide), ← hA11, upA_n (by decide), ← hA10, upA_n (by decide), ← hA9, upA_n (by decide), ← hA8, upA_n (by decide), ← hA7, upA_n (by decide), ← hA6, upA_n (by decide), ← hA5, upA_s]
      · rw [← hA19, upA_n (by decide), ← hA18, upA_n (by decide), ← hA17, upA_n (by decide), ← hA16, upA_n (by decide), ← hA15, upA_n (by decide), ← hA14, upA_n (by decide), ← hA13, upA_n (by decide), ← hA12, upA_n (by decide), ← hA11, upA_n (by decide), ← hA10, upA_n (by decide), ← hA9, upA_n (by decide), ← hA8, upA_n (by decide), ← hA7, upA_n (by decide), ← hA6, upA_s]
      · rw [← hA19, upA_n (by decide), ← hA18, upA_n (by decide), ← hA17, upA_n (by decide), ← hA16, upA_n (by decide), ← hA15, upA_n (by decide), ← hA14, upA_n (by decide), ← hA13, upA_n (by decide), ← hA12, upA_n (by decide), ← hA11, upA_n (by decide), ← hA10, upA_n (by decide), ← hA9, upA_n (by decide), ← hA8, upA_n (by decide), ← hA7, upA_s]
      · rw [← hA19, upA_n (by decide), ← hA18, upA_n (by decide), ← hA17, upA_n (by decide), ← hA16, upA_n (by decide), ← hA15, upA_n (by decide), ← hA14, upA_n (by decide), ← hA13, upA_n (by decide), ← hA12, upA_n (by decide), ← hA11, upA_n (by decide), ← hA10, upA_n (by decide), ← hA9, upA_n (by decide), ← hA8, upA_s]
      · rw [← hA19, upA_n (by decide), ← hA18, upA_n (by decide), ← hA17, upA_n (by decide), ← hA16, upA_n (by decide), ← hA15, upA_n (by decide), ← hA14, upA_n (by decide), ← hA13, upA_n (by decide), ← hA12, upA_n (by decide), ← hA11, upA_n (by decide), ← hA10, upA_n (by decide), ← hA9, upA_s]
      · rw [← hA19, upA_n (by decide), ← hA18, upA_n (by decide), ← hA17, upA_n (by decide), ← hA16, upA_n (by decide), ← hA15, upA_n (by decide), ← hA14, upA_n (by decide), ← hA13, upA_n (by decide), ← hA12, upA_n (by decide), ← hA11, upA_n (by decide), ← hA10, upA_s]
      · rw [← hA19, upA_n (by decide), ← hA18, upA_n (by decide), ← hA17, upA_n (by decide), ← hA16, upA_n (by decide), ← hA15, upA_n (by decide), ← hA14, upA_n (by decide), ← hA13, upA_n (by decide), ← hA12, upA_n (by decide), ← hA11, upA_s]
      · rw [← hA19, upA_n (by decide), ← hA18, upA_n (by decide), ← hA17, upA_n (by decide), ← hA16, upA_n (by decide), ← hA15, upA_n (by decide), ← hA14, upA_n (by decide), ← hA13, upA_n (by decide), ← hA12, upA_s]
      · rw [← hA19, upA_n (by decide), ← hA18, upA_n (by decide), ← hA17, upA_n (by decide), ← hA16, upA_n (by decide), ← hA15, upA_n (by decide), ← hA14, upA_n (by decide), ← hA13, upA_s]
      · rw [← hA19, upA_n (by decide), ← hA18, upA_n (by decide), ← hA17, upA_n (by decide), ← hA16, upA_n (by decide), ← hA15, upA_n (by decide), ← hA14, upA_s]
      · rw [← hA19, upA_n (by decide), ← hA18, upA_n (by decide), ← hA17, upA_n (by decide), ← hA16, upA_n (by decide), ← hA15, upA_s]
      · rw [← hA19, upA_n (by decide), ← hA18, upA_n (by decide), ← hA17, upA_n (by decide), ← hA16, upA_s]
      · rw [← hA19, upA_n (by decide), ← hA18, upA_n (by decide), ← hA17, upA_s]
      · rw [← hA19, upA_n (by decide), ← hA18, upA_s]
      · rw [← hA19, upA_s]
    exact e j (by omega)
  have hAo : ∀ j, j < 3 ∨ 19 < j → A19 j = A j := fun j hj => by rw [← hA19, upA_n (by omega), ← hA18, upA_n (by omega), ← hA17, upA_n (by omega), ← hA16, upA_n (by omega), ← hA15, upA_n (by omega), ← hA14, upA_n (by omega), ← hA13, upA_n (by omega), ← hA12, upA_n (by omega), ← hA11, upA_n (by omega), ← hA10, upA_n (by omega), ← hA9, upA_n (by omega), ← hA8, upA_n (by omega), ← hA7, upA_n (by omega), ← hA6, upA_n (by omega), ← hA5, upA_n (by omega), ← hA4, upA_n (by omega), ← hA3, upA_n (by omega)]
  have hRA : RT A19 T np nb nn := by
    have h9 := hR.ha hT
    unfold RT LR at h9 ⊢
    rw [hAA 3 (by decide) (by decide), hAA 4 (by decide) (by decide), hAA 5 (by decide) (by decide), hAA 6 (by decide) (by decide), hAA 7 (by decide) (by decide), hAA 8 (by decide) (by decide), hAA 9 (by decide) (by decide), hAA 10 (by decide) (by decide), hAA 11 (by decide) (by decide), hAA 12 (by decide) (by decide), hAA 13 (by decide) (by decide), hAA 14 (by decide) (by decide), hAA 15 (by decide) (by decide), hAA 16 (by decide) (by decide), hAA 17 (by decide) (by decide), hAA 18 (by decide) (by decide), hAA 19 (by decide) (by decide)]
    exact h9
  refine J_callVT (pc := 304) (ac := []) D10_text_304 m10_begins_v t1218 (c10_begins (d := D - 3) (A := A19) hRA.2.1 hT) (by omega) rfl rfl rfl rfl rfl rfl rfl (fun r w' hq hl => ?_)
  obtain ⟨rfl, M2, rfl, hSI⟩ := hq
  refine J_aload_n (pc := 307) D10_text_307 rfl ?_
  refine J_getf (pc := 308) D10_text_308 fl10_249 rfl rfl ?_
  refine J_iret (pc := 311) D10_text_311 rfl ?_
  refine ⟨rfl, _, A19, M2, rfl, hRA, hSI.cr hRA hT, hAo, hSI.1, ⟨rfl, rfl, rfl, rfl, rfl, rfl⟩, fun k a b c d e f => ?_⟩
  rw [updI_n d, updI_n c, updI_n f, updI_n e, updI_n b, updI_n a]
