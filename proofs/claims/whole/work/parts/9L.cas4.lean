/-! FEED, SEE, CORKS IN THE LAW (own program mod_r7.py) -/
theorem RT.a1 {A A' : Nat → Nat → Int32} {T : TV} {np nb nn : Nat} (h : RT A T np nb nn) (e : ∀ k, k ≠ 1 → A' k = A k) : RT A' T np nb nn := by
  have hL : ∀ k, k < 3 → LR A' T k := fun k hk => by
    have := h.2.2.2.2.2.2.2.2.2.1 k hk
    unfold LR at this ⊢
    rw [e 16 (by decide), e 17 (by decide), e 18 (by decide), e 19 (by decide)]
    exact this
  unfold RT
  rw [e 3 (by decide), e 4 (by decide), e 5 (by decide), e 6 (by decide), e 7 (by decide), e 8 (by decide), e 9 (by decide), e 10 (by decide), e 11 (by decide), e 12 (by decide), e 13 (by decide), e 14 (by decide), e 15 (by decide)]
  obtain ⟨h1, h2, h3, h4, h5, h6, h7, h8, h9, -, h10⟩ := h
  exact ⟨h1, h2, h3, h4, h5, h6, h7, h8, h9, hL, h10⟩
section RZ2
variable {t t1 np nb nn : Nat} {hi hi1 : Int32} {T T1 : TV} {V V1 : CV} {S S1 : SB} {U U1 : UV} {N N1 : NV} {E E1 : EV} {R R1 : Nat → Int32} {I I1 : CV} {K K1 : TK} {G G1 : GV} {X X1 : TV} {s s' : Nat → Int32} {A A' : Nat → Nat → Int32} {LL1 : LL} {M : Nat → MR} {f : Nat → Int64}
theorem zwZ : tcZ (nI t1) hi1 T1 V1 S1 U1 N1 E1 R1 I1 K1 G1 X1 ++ (ZW t hi T V S U N E R I K G X s A LL1 M f).drop 90 = ZW t1 hi1 T1 V1 S1 U1 N1 E1 R1 I1 K1 G1 X1 s A LL1 M f := rfl
theorem fdT_le (h : t ≤ 700) : fdT t ≤ 700 := by unfold fdT; split <;> omega
theorem REL.fd {a b c e g : Int32} (h : REL t np nb nn hi T V U N I K G s A M) (e2 : s' 2 = nI (fdT t)) (es : ∀ k, k ≠ 0 → k ≠ 2 → s' k = s k) (eA : ∀ j, j ≠ 1 → A' j = A j) (hTP : TP (if t + 20 ≤ 700 then fdF K.2.2.1 t a b c e g else K.2.2.1) (A' 1) (fdT t)) : REL (fdT t) np nb nn hi T V U N I (fdK K t a b c e g) G s' A' M :=
  ⟨h.rt.a1 eA, h.wt, h.cr, ⟨(es 47 (by omega) (by omega)).trans h.ur.1, h.ur.2⟩, h.nr.c (es 57 (by omega) (by omega)) (es 58 (by omega) (by omega)) (fun k hk => eA k (by omega)), (es 48 (by omega) (by omega)).trans h.e48, (es 46 (by omega) (by omega)).trans h.e46, h.ci, h.yi, h.yj, e2, fdT_le h.t7, by
    unfold fdK
    split
    · next h9 => rw [if_pos h9] at hTP; exact hTP
    · next h9 => rw [if_neg h9] at hTP; exact hTP, (es 29 (by omega) (by omega)).trans h.e29, (es 30 (by omega) (by omega)).trans h.e30⟩
end RZ2
theorem cs_26_0 {L : Nat} {xs : Nat → Int32} {i k n : Nat} (hL : L ≤ 3072) (hi6 : i + 6 ≤ L) (hk : k ≤ 601024) (hn : n ≤ 7293034) (ok : LOK L xs i k n) {t np nb nn : Nat} {hi : Int32} {T : TV} {V : CV} {S : SB} {U : UV} {N : NV} {E : EV} {R : Nat → Int32} {I : CV} {K : TK} {G : GV} {X : TV} {s : Nat → Int32} {A : Nat → Nat → Int32} {LL1 : LL} {M : Nat → MR} {f : Nat → Int64} (h : REL t np nb nn hi T V U N I K G s A M) (h3 : xs (i + 3) = 0) : JL L xs 1111 (lsL i) [] (ZW t hi T V S U N E R I K G X s A LL1 M f) k n := by
  refine L_aload_n (pc := 1111) DL_1111 rfl ?_
  refine L_aloadS (pc := 1112) DL_1112 rfl ?_
  refine L_iload (pc := 1113) DL_1113 rfl ?_
  refine L_iconst (pc := 1115) (v := nI 1) DL_1115 (by decide) ?_
  refine L_iadd (pc := 1116) DL_1116 ?_
  refine L_sld (pc := 1117) (i := i + 1) DL_1117 (nI_addN i 1) (by omega) (by omega) ?_
  refine L_aloadS (pc := 1118) DL_1118 rfl ?_
  refine L_iload (pc := 1119) DL_1119 rfl ?_
  refine L_iconst (pc := 1121) (v := nI 2) DL_1121 (by decide) ?_
  refine L_iadd (pc := 1122) DL_1122 ?_
  refine L_sld (pc := 1123) (i := i + 2) DL_1123 (nI_addN i 2) (by omega) (by omega) ?_
  refine L_aloadS (pc := 1124) DL_1124 rfl ?_
  refine L_iload (pc := 1125) DL_1125 rfl ?_
  refine L_iconst (pc := 1127) (v := nI 3) DL_1127 (by decide) ?_
  refine L_iadd (pc := 1128) DL_1128 ?_
  refine L_sld (pc := 1129) (i := i + 3) DL_1129 (nI_addN i 3) (by omega) (by omega) ?_
  refine L_if_eq (pc := 1130) (tgt := 1137) DL_1130 (by decide) (fun _ => ?_) (fun hc => absurd h3 hc)
  refine L_iconst (pc := 1137) (v := nI 0) DL_1137 (by decide) ?_
  refine L_c (pc := 1138) (wc := tcD (nI t) hi T V S U N) (ws := ((ZW t hi T V S U N E R I K G X s A LL1 M f)).drop 53) (ac := [.int (xs (i + 1)), .int (xs (i + 2)), .int (nI 0)]) (rest := []) DL_1138 m9_see_v t1042 (c9_see (d := 0) h.wt h.nr.2.2.1 (by decide)) (by omega) rfl rfl rfl rfl rfl rfl hk hn (fun r w' hq hl => ?_)
  obtain ⟨rfl, rfl⟩ := hq
  refine L_w (w2 := ZW t hi T V S U (seN nb N (xs (i + 1)) (xs (i + 2)) (nI 0)) E R I K G X s A LL1 M f) zwD ?_
  refine L_aload_n (pc := 1141) DL_1141 rfl ?_
  refine L_aloadS (pc := 1142) DL_1142 rfl ?_
  refine L_iload (pc := 1143) DL_1143 rfl ?_
  refine L_iconst (pc := 1145) (v := nI 1) DL_1145 (by decide) ?_
  refine L_iadd (pc := 1146) DL_1146 ?_
  refine L_sld (pc := 1147) (i := i + 1) DL_1147 (nI_addN i 1) (by omega) (by omega) ?_
  refine L_aloadS (pc := 1148) DL_1148 rfl ?_
  refine L_iload (pc := 1149) DL_1149 rfl ?_
  refine L_iconst (pc := 1151) (v := nI 2) DL_1151 (by decide) ?_
  refine L_iadd (pc := 1152) DL_1152 ?_
  refine L_sld (pc := 1153) (i := i + 2) DL_1153 (nI_addN i 2) (by omega) (by omega) ?_
  refine L_aloadS (pc := 1154) DL_1154 rfl ?_
  refine L_iload (pc := 1155) DL_1155 rfl ?_
  refine L_iconst (pc := 1157) (v := nI 3) DL_1157 (by decide) ?_
  refine L_iadd (pc := 1158) DL_1158 ?_
  refine L_sld (pc := 1159) (i := i + 3) DL_1159 (nI_addN i 3) (by omega) (by omega) ?_
  refine L_if_eq (pc := 1160) (tgt := 1167) DL_1160 (by decide) (fun _ => ?_) (fun hc => absurd h3 hc)
  refine L_iconst (pc := 1167) (v := nI 0) DL_1167 (by decide) ?_
  refine L_m (pc := 1168) (ac := [.int (xs (i + 1)), .int (xs (i + 2)), .int (nI 0)]) DL_1168 m10_see_v t1840 (c10_see (d := 0) h.rt h.wt h.nr (by decide)) (by omega) rfl rfl (fun _ => rfl) rfl rfl rfl hk hn (fun r w' hq => ?_)
  obtain ⟨rfl, hq⟩ := hq
  obtain ⟨s', A', rfl, hR⟩ := see_r h (Or.inl (by decide)) hq
  exact L_icmp_eq (pc := 1171) (tgt := 1413) DL_1171 (by decide) (fun _ => ok _ _ _ _ _ _ _ _ _ _ _ _ _ _ _ _ _ _ _ _ _ hR) (fun hne => absurd rfl hne)
theorem cs_26_1 {L : Nat} {xs : Nat → Int32} {i k n : Nat} (hL : L ≤ 3072) (hi6 : i + 6 ≤ L) (hk : k ≤ 601024) (hn : n ≤ 7293034) (ok : LOK L xs i k n) {t np nb nn : Nat} {hi : Int32} {T : TV} {V : CV} {S : SB} {U : UV} {N : NV} {E : EV} {R : Nat → Int32} {I : CV} {K : TK} {G : GV} {X : TV} {s : Nat → Int32} {A : Nat → Nat → Int32} {LL1 : LL} {M : Nat → MR} {f : Nat → Int64} (h : REL t np nb nn hi T V U N I K G s A M) (h3 : ¬ xs (i + 3) = 0) : JL L xs 1111 (lsL i) [] (ZW t hi T V S U N E R I K G X s A LL1 M f) k n := by
  refine L_aload_n (pc := 1111) DL_1111 rfl ?_
  refine L_aloadS (pc := 1112) DL_1112 rfl ?_
  refine L_iload (pc := 1113) DL_1113 rfl ?_
  refine L_iconst (pc := 1115) (v := nI 1) DL_1115 (by decide) ?_
  refine L_iadd (pc := 1116) DL_1116 ?_
  refine L_sld (pc := 1117) (i := i + 1) DL_1117 (nI_addN i 1) (by omega) (by omega) ?_
  refine L_aloadS (pc := 1118) DL_1118 rfl ?_
  refine L_iload (pc := 1119) DL_1119 rfl ?_
  refine L_iconst (pc := 1121) (v := nI 2) DL_1121 (by decide) ?_
  refine L_iadd (pc := 1122) DL_1122 ?_
  refine L_sld (pc := 1123) (i := i + 2) DL_1123 (nI_addN i 2) (by omega) (by omega) ?_
  refine L_aloadS (pc := 1124) DL_1124 rfl ?_
  refine L_iload (pc := 1125) DL_1125 rfl ?_
  refine L_iconst (pc := 1127) (v := nI 3) DL_1127 (by decide) ?_
  refine L_iadd (pc := 1128) DL_1128 ?_
  refine L_sld (pc := 1129) (i := i + 3) DL_1129 (nI_addN i 3) (by omega) (by omega) ?_
  refine L_if_eq (pc := 1130) (tgt := 1137) DL_1130 (by decide) (fun hc => absurd hc h3) (fun _ => ?_)
  refine L_iconst (pc := 1133) (v := nI 1) DL_1133 (by decide) ?_
  refine L_goto (pc := 1134) (tgt := 1138) DL_1134 (by decide) ?_
  refine L_c (pc := 1138) (wc := tcD (nI t) hi T V S U N) (ws := ((ZW t hi T V S U N E R I K G X s A LL1 M f)).drop 53) (ac := [.int (xs (i + 1)), .int (xs (i + 2)), .int (nI 1)]) (rest := []) DL_1138 m9_see_v t1042 (c9_see (d := 0) h.wt h.nr.2.2.1 (by decide)) (by omega) rfl rfl rfl rfl rfl rfl hk hn (fun r w' hq hl => ?_)
  obtain ⟨rfl, rfl⟩ := hq
  refine L_w (w2 := ZW t hi T V S U (seN nb N (xs (i + 1)) (xs (i + 2)) (nI 1)) E R I K G X s A LL1 M f) zwD ?_
  refine L_aload_n (pc := 1141) DL_1141 rfl ?_
  refine L_aloadS (pc := 1142) DL_1142 rfl ?_
  refine L_iload (pc := 1143) DL_1143 rfl ?_
  refine L_iconst (pc := 1145) (v := nI 1) DL_1145 (by decide) ?_
  refine L_iadd (pc := 1146) DL_1146 ?_
  refine L_sld (pc := 1147) (i := i + 1) DL_1147 (nI_addN i 1) (by omega) (by omega) ?_
  refine L_aloadS (pc := 1148) DL_1148 rfl ?_
  refine L_iload (pc := 1149) DL_1149 rfl ?_
  refine L_iconst (pc := 1151) (v := nI 2) DL_1151 (by decide) ?_
  refine L_iadd (pc := 1152) DL_1152 ?_
  refine L_sld (pc := 1153) (i := i + 2) DL_1153 (nI_addN i 2) (by omega) (by omega) ?_
  refine L_aloadS (pc := 1154) DL_1154 rfl ?_
  refine L_iload (pc := 1155) DL_1155 rfl ?_
  refine L_iconst (pc := 1157) (v := nI 3) DL_1157 (by decide) ?_
  refine L_iadd (pc := 1158) DL_1158 ?_
  refine L_sld (pc := 1159) (i := i + 3) DL_1159 (nI_addN i 3) (by omega) (by omega) ?_
  refine L_if_eq (pc := 1160) (tgt := 1167) DL_1160 (by decide) (fun hc => absurd hc h3) (fun _ => ?_)
  refine L_iconst (pc := 1163) (v := nI 1) DL_1163 (by decide) ?_
  refine L_goto (pc := 1164) (tgt := 1168) DL_1164 (by decide) ?_
  refine L_m (pc := 1168) (ac := [.int (xs (i + 1)), .int (xs (i + 2)), .int (nI 1)]) DL_1168 m10_see_v t1840 (c10_see (d := 0) h.rt h.wt h.nr (by decide)) (by omega) rfl rfl (fun _ => rfl) rfl rfl rfl hk hn (fun r w' hq => ?_)
  obtain ⟨rfl, hq⟩ := hq
  obtain ⟨s', A', rfl, hR⟩ := see_r h (Or.inr rfl) hq
  exact L_icmp_eq (pc := 1171) (tgt := 1413) DL_1171 (by decide) (fun _ => ok _ _ _ _ _ _ _ _ _ _ _ _ _ _ _ _ _ _ _ _ _ hR) (fun hne => absurd rfl hne)
theorem cs_26 {L : Nat} {xs : Nat → Int32} {i k n : Nat} (hL : L ≤ 3072) (hi6 : i + 6 ≤ L) (hk : k ≤ 601024) (hn : n ≤ 7293034) (ok : LOK L xs i k n) {t np nb nn : Nat} {hi : Int32} {T : TV} {V : CV} {S : SB} {U : UV} {N : NV} {E : EV} {R : Nat → Int32} {I : CV} {K : TK} {G : GV} {X : TV} {s : Nat → Int32} {A : Nat → Nat → Int32} {LL1 : LL} {M : Nat → MR} {f : Nat → Int64} (h : REL t np nb nn hi T V U N I K G s A M) : JL L xs 1111 (lsL i) [] (ZW t hi T V S U N E R I K G X s A LL1 M f) k n := by
  by_cases h3 : xs (i + 3) = 0
  · exact cs_26_0 hL hi6 hk hn ok h h3
  · exact cs_26_1 hL hi6 hk hn ok h h3
theorem cs_0 {L : Nat} {xs : Nat → Int32} {i k n : Nat} (hL : L ≤ 3072) (hi6 : i + 6 ≤ L) (hk : k ≤ 601024) (hn : n ≤ 7293034) (ok : LOK L xs i k n) {t np nb nn : Nat} {hi : Int32} {T : TV} {V : CV} {S : SB} {U : UV} {N : NV} {E : EV} {R : Nat → Int32} {I : CV} {K : TK} {G : GV} {X : TV} {s : Nat → Int32} {A : Nat → Nat → Int32} {LL1 : LL} {M : Nat → MR} {f : Nat → Int64} (h : REL t np nb nn hi T V U N I K G s A M) : JL L xs 200 (lsL i) [] (ZW t hi T V S U N E R I K G X s A LL1 M f) k n := by
  refine L_aload_n (pc := 200) DL_200 rfl ?_
  refine L_aloadS (pc := 201) DL_201 rfl ?_
  refine L_iload (pc := 202) DL_202 rfl ?_
  refine L_iconst (pc := 204) (v := nI 1) DL_204 (by decide) ?_
  refine L_iadd (pc := 205) DL_205 ?_
  refine L_sld (pc := 206) (i := i + 1) DL_206 (nI_addN i 1) (by omega) (by omega) ?_
  refine L_aloadS (pc := 207) DL_207 rfl ?_
  refine L_iload (pc := 208) DL_208 rfl ?_
  refine L_iconst (pc := 210) (v := nI 2) DL_210 (by decide) ?_
  refine L_iadd (pc := 211) DL_211 ?_
  refine L_sld (pc := 212) (i := i + 2) DL_212 (nI_addN i 2) (by omega) (by omega) ?_
  refine L_aloadS (pc := 213) DL_213 rfl ?_
  refine L_iload (pc := 214) DL_214 rfl ?_
  refine L_iconst (pc := 216) (v := nI 3) DL_216 (by decide) ?_
  refine L_iadd (pc := 217) DL_217 ?_
  refine L_sld (pc := 218) (i := i + 3) DL_218 (nI_addN i 3) (by omega) (by omega) ?_
  refine L_aloadS (pc := 219) DL_219 rfl ?_
  refine L_iload (pc := 220) DL_220 rfl ?_
  refine L_iconst (pc := 222) (v := nI 4) DL_222 (by decide) ?_
  refine L_iadd (pc := 223) DL_223 ?_
  refine L_sld (pc := 224) (i := i + 4) DL_224 (nI_addN i 4) (by omega) (by omega) ?_
  refine L_aloadS (pc := 225) DL_225 rfl ?_
  refine L_iload (pc := 226) DL_226 rfl ?_
  refine L_iconst (pc := 228) (v := nI 5) DL_228 (by decide) ?_
  refine L_iadd (pc := 229) DL_229 ?_
  refine L_sld (pc := 230) (i := i + 5) DL_230 (nI_addN i 5) (by omega) (by omega) ?_
  refine L_c (pc := 231) (wc := tcZ (nI t) hi T V S U N E R I K G X) (ws := ((ZW t hi T V S U N E R I K G X s A LL1 M f)).drop 90) (ac := [.int (xs (i + 1)), .int (xs (i + 2)), .int (xs (i + 3)), .int (xs (i + 4)), .int (xs (i + 5))]) (rest := []) DL_231 m9_feed_v t474 (c9_feed (d := 0) h.t7) (by omega) rfl rfl rfl rfl rfl rfl hk hn (fun r w' hq hl => ?_)
  obtain ⟨rfl, rfl⟩ := hq
  refine L_w (w2 := ZW (fdT t) hi T V S U N E R I (fdK K t (xs (i + 1)) (xs (i + 2)) (xs (i + 3)) (xs (i + 4)) (xs (i + 5))) G X s A LL1 M f) zwZ ?_
  refine L_aload_n (pc := 234) DL_234 rfl ?_
  refine L_aloadS (pc := 235) DL_235 rfl ?_
  refine L_iload (pc := 236) DL_236 rfl ?_
  refine L_iconst (pc := 238) (v := nI 1) DL_238 (by decide) ?_
  refine L_iadd (pc := 239) DL_239 ?_
  refine L_sld (pc := 240) (i := i + 1) DL_240 (nI_addN i 1) (by omega) (by omega) ?_
  refine L_aloadS (pc := 241) DL_241 rfl ?_
  refine L_iload (pc := 242) DL_242 rfl ?_
  refine L_iconst (pc := 244) (v := nI 2) DL_244 (by decide) ?_
  refine L_iadd (pc := 245) DL_245 ?_
  refine L_sld (pc := 246) (i := i + 2) DL_246 (nI_addN i 2) (by omega) (by omega) ?_
  refine L_aloadS (pc := 247) DL_247 rfl ?_
  refine L_iload (pc := 248) DL_248 rfl ?_
  refine L_iconst (pc := 250) (v := nI 3) DL_250 (by decide) ?_
  refine L_iadd (pc := 251) DL_251 ?_
  refine L_sld (pc := 252) (i := i + 3) DL_252 (nI_addN i 3) (by omega) (by omega) ?_
  refine L_aloadS (pc := 253) DL_253 rfl ?_
  refine L_iload (pc := 254) DL_254 rfl ?_
  refine L_iconst (pc := 256) (v := nI 4) DL_256 (by decide) ?_
  refine L_iadd (pc := 257) DL_257 ?_
  refine L_sld (pc := 258) (i := i + 4) DL_258 (nI_addN i 4) (by omega) (by omega) ?_
  refine L_aloadS (pc := 259) DL_259 rfl ?_
  refine L_iload (pc := 260) DL_260 rfl ?_
  refine L_iconst (pc := 262) (v := nI 5) DL_262 (by decide) ?_
  refine L_iadd (pc := 263) DL_263 ?_
  refine L_sld (pc := 264) (i := i + 5) DL_264 (nI_addN i 5) (by omega) (by omega) ?_
  refine L_m (pc := 265) (ac := [.int (xs (i + 1)), .int (xs (i + 2)), .int (xs (i + 3)), .int (xs (i + 4)), .int (xs (i + 5))]) DL_265 m10_feed_v t1423 (c10_feed (d := 0) h.t7 h.e2 h.tp) (by omega) rfl rfl (fun _ => rfl) rfl rfl rfl hk hn (fun r w' hq => ?_)
  obtain ⟨rfl, s', A', rfl, e2, es, eA, hTP⟩ := hq
  have hR := h.fd e2 es eA hTP
  exact L_icmp_eq (pc := 268) (tgt := 1413) DL_268 (by decide) (fun _ => ok _ _ _ _ _ _ _ _ _ _ _ _ _ _ _ _ _ _ _ _ _ (hR)) (fun hne => absurd rfl hne)
