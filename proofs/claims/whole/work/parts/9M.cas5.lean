/-! CORKS IN THE LAW (own program mod_r8.py) -/
section RC
variable {t np nb nn : Nat} {hi : Int32} {T : TV} {V : CV} {U : UV} {N : NV} {I : CV} {K : TK} {G : GV} {s : Nat → Int32} {A : Nat → Nat → Int32} {M : Nat → MR}
theorem REL.cn (h : REL t np nb nn hi T V U N I K G s A M) {a' : Nat → Nat → Int32} (e : ∀ k, k ≠ 6 → k ≠ 7 → a' k = N.2.2 k) : REL t np nb nn hi T V U (N.1, N.2.1, a') I K G s A M := by
  refine ⟨h.rt, h.wt, h.cr, h.ur, ?_, h.e48, h.e46, h.ci, h.yi, h.yj, h.e2, h.t7, h.tp, h.e29, h.e30⟩
  have := h.nr
  unfold NR at this ⊢
  dsimp only
  rw [e 2 (by omega) (by omega), e 3 (by omega) (by omega), e 4 (by omega) (by omega), e 5 (by omega) (by omega)]
  exact this
theorem cork_r {x : Int32} {r : Option Value} (h : REL t np nb nn hi T V U N I K G s A M) (ha : if ixB nb x = true then (∃ f L, L ≤ 60 ∧ lyL (mkF (knN9 N) N.2.2) (knN9 N) 0 (nI 0) = nI L ∧ r = some (.int (coB T (mkF (knN9 N) N.2.2) (knN9 N) nb nn L x.toNatClampNeg f 10))) else r = some (.int (-1))) : ∃ f L, L ≤ 60 ∧ lyL (mkF (knN9 N) N.2.2) (knN9 N) 0 (nI 0) = nI L ∧ r = some (.int (if ixB nb x = true then coB T (mkF (knN9 N) N.2.2) (knN9 N) nb nn L x.toNatClampNeg f 10 else -1)) := by
  by_cases hx : ixB nb x = true
  · rw [if_pos hx] at ha
    obtain ⟨f, L, h1, h2, h3⟩ := ha
    exact ⟨f, L, h1, h2, by rw [if_pos hx]; exact h3⟩
  · rw [if_neg hx] at ha
    have hn := h.nr.ni h.wt.2.2.2.2.1
    obtain ⟨L, h1, h2⟩ := lyL_le (a := mkF (knN9 N) N.2.2) (knN9 N) 0 0 (by omega) (fun j hj => by rw [mkF_k (by decide) (by decide)]; exact (hn.2.2.2 j (by have := hn.2.1; omega)).1)
    exact ⟨fun _ => V, L, h1, h2, by rw [if_neg hx]; exact ha⟩
end RC
theorem cs_29 {L : Nat} {xs : Nat → Int32} {i k n : Nat} (hL : L ≤ 3072) (hi6 : i + 6 ≤ L) (hk : k ≤ 601024) (hn : n ≤ 7293034) (ok : LOK L xs i k n) {t np nb nn : Nat} {hi : Int32} {T : TV} {V : CV} {S : SB} {U : UV} {N : NV} {E : EV} {R : Nat → Int32} {I : CV} {K : TK} {G : GV} {X : TV} {s : Nat → Int32} {A : Nat → Nat → Int32} {LL1 : LL} {M : Nat → MR} {f : Nat → Int64} (h : REL t np nb nn hi T V U N I K G s A M) : JL L xs 1226 (lsL i) [] (ZW t hi T V S U N E R I K G X s A LL1 M f) k n := by
  refine L_aload_n (pc := 1226) DL_1226 rfl ?_
  refine L_aloadS (pc := 1227) DL_1227 rfl ?_
  refine L_iload (pc := 1228) DL_1228 rfl ?_
  refine L_iconst (pc := 1230) (v := nI 1) DL_1230 (by decide) ?_
  refine L_iadd (pc := 1231) DL_1231 ?_
  refine L_sld (pc := 1232) (i := i + 1) DL_1232 (nI_addN i 1) (by omega) (by omega) ?_
  refine L_c (pc := 1233) (wc := tcD (nI t) hi T V S U N) (ws := ((ZW t hi T V S U N E R I K G X s A LL1 M f)).drop 53) (ac := [.int (xs (i + 1))]) (rest := []) DL_1233 m9_corks_v t1063 (c9_corks (d := 0) h.wt (h.nr.ni h.wt.2.2.2.2.1)) (by omega) rfl rfl rfl rfl rfl rfl hk hn (fun r w' hq hl => ?_)
  obtain ⟨ha, S', a', rfl, ea⟩ := hq
  refine L_w (w2 := ZW t hi T V S' U (N.1, N.2.1, a') E R I K G X s A LL1 M f) zwD ?_
  obtain ⟨g, L0, hL0, eL0, rfl⟩ := cork_r h ha
  refine L_aload_n (pc := 1236) DL_1236 rfl ?_
  refine L_aloadS (pc := 1237) DL_1237 rfl ?_
  refine L_iload (pc := 1238) DL_1238 rfl ?_
  refine L_iconst (pc := 1240) (v := nI 1) DL_1240 (by decide) ?_
  refine L_iadd (pc := 1241) DL_1241 ?_
  refine L_sld (pc := 1242) (i := i + 1) DL_1242 (nI_addN i 1) (by omega) (by omega) ?_
  refine L_m (pc := 1243) (ac := [.int (xs (i + 1))]) DL_1243 m10_corks_v t1852 (c10_corks (d := 0) h.rt h.wt h.cr h.nr h.e48 (f := g) hL0 eL0) (by omega) rfl rfl (fun _ => rfl) rfl rfl rfl hk hn (fun r w' hq => ?_)
  obtain ⟨rfl, s', A', L', M', rfl, px⟩ := hq
  have hR := (h.px px).cn ea
  exact L_icmp_eq (pc := 1246) (tgt := 1413) DL_1246 (by decide) (fun _ => ok _ _ _ _ _ _ _ _ _ _ _ _ _ _ _ _ _ _ _ _ _ (hR)) (fun hne => absurd rfl hne)
