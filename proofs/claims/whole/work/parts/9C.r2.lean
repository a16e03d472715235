/-! the constructors of class and model (own; walks by program mod_r2.py) -/
def tc0 (V : CV) : List EC := (.inr (9, [.ref 1, .int 0, .ref 2, .ref 20, .ref 38, .ref 42, .ref 43, .ref 53, .int 0, .ref 63, .ref 73, .ref 76, .ref 80, .ref 87, .ref 89]) :: ([bA 700 (fun _ => 0)] ++ (toldC 2 T00 ++ (toldC 20 T00 ++ ([.inr (5, [.ref 1, .ref 39, .ref 40, .ref 41, .int 0, .int 0]), iA 701 (fun _ => 0), iA 701 (fun _ => 0), iA 701 (fun _ => 0)] ++ ([.inr (2, [.ref 38, .int 0, .ref 20, .int 0, .int 0, .int 0, .int (-1)])] ++ (celC 43 V ++ (celC 53 V00 ++ (celC 63 V00 ++ ([.inr (8, [.ref 2, .ref 63, .int 0, .int 0, .int 0, .ref 74, .ref 75]), iA 10 (fun _ => 0), lA 64 (fun _ => 0)] ++ (undC 76 0 (fun _ _ => 0) ++ (seeC 80 0 (-1) (fun _ _ => 0) ++ ([.inr (4, [.ref 2, .ref 43, .int 0, .ref 88]), iA 8 (fun _ => 0)] ++ ([iA 4 (fun _ => 0)] ++ []))))))))))))))
theorem T00_w : WT T00 0 0 0 := ⟨rfl, rfl, rfl, Nat.zero_le _, Nat.zero_le _, Nat.zero_le _, fun b hb9 => absurd hb9 (by omega), fun b hb9 => absurd hb9 (by omega), fun b hb9 => absurd hb9 (by omega), fun k _ => Or.inl rfl, fun b hb9 => absurd hb9 (by omega)⟩
theorem c9_init {d : Nat} : Tr (d + 4) 89 3907 m9_init [.ref 0] [.inr (9, df9)] (fun r w' => r = none ∧ w' = tc0 (layF T00 0 V00)) := by
  refine Tr.intro (by decide) rfl ?_
  refine J_aload_n (pc := 0) D9_init_0 rfl ?_
  refine J_objInit (pc := 1) D9_init_1 t30 (by omega) rfl ?_
  refine J_aload_n (pc := 4) D9_init_4 rfl ?_
  refine J_sipush (pc := 5) (v := (nI 700)) D9_init_5 (by decide) ?_
  refine JP_newb (mc := 89) (ms := 3907) (k := 0) (n := 0) (N := 700) (P := []) (t := (.inr (9, [.null, .int 0, .null, .null, .null, .null, .null, .null, .int 0, .null, .null, .null, .null, .null, .null]) :: [])) (pc := 8) (L := 1) D9_init_8 rfl rfl rfl rfl rfl (by unfold WP; decide +kernel) (wl1 (P := [])) (wr1 (P := [])) rfl rfl (fun _ => ?_)
  refine J_w (w2 := (.inr (9, [.null, .int 0, .null, .null, .null, .null, .null, .null, .int 0, .null, .null, .null, .null, .null, .null]) :: ([bA 700 (fun _ => 0)] ++ []))) rfl ?_
  refine J_st [.ref 1, .ref 0] rfl ?_
  refine J_putF (pc := 10) D9_init_10 fp9_11 rfl rfl Fit.arr rfl ?_
  refine J_w (w2 := (.inr (9, [.ref 1, .int 0, .null, .null, .null, .null, .null, .null, .int 0, .null, .null, .null, .null, .null, .null]) :: ([bA 700 (fun _ => 0)] ++ []))) rfl ?_
  refine J_aload_n (pc := 13) D9_init_13 rfl ?_
  refine J_w (w2 := [] ++ (.inr (9, [.ref 1, .int 0, .null, .null, .null, .null, .null, .null, .int 0, .null, .null, .null, .null, .null, .null]) :: ([bA 700 (fun _ => 0)] ++ []))) rfl ?_
  refine JP_new (mc := 89) (ms := 3907) (k := 1) (n := 700) (P := []) (t := (.inr (9, [.ref 1, .int 0, .null, .null, .null, .null, .null, .null, .int 0, .null, .null, .null, .null, .null, .null]) :: ([bA 700 (fun _ => 0)] ++ []))) (pc := 14) (L := 2) D9_init_14 ko6 t33 t34 t2 dm6 dc6 rfl rfl (by unfold WP; decide +kernel) (wl1 (P := [])) (wr1 (P := [])) rfl rfl ?_
  refine J_w (w2 := (.inr (9, [.ref 1, .int 0, .null, .null, .null, .null, .null, .null, .int 0, .null, .null, .null, .null, .null, .null]) :: ([bA 700 (fun _ => 0)] ++ [])) ++ [.inr (6, df6)]) rfl ?_
  refine J_st [.ref 2, .ref 0] rfl ?_
  refine J_dup (pc := 17) D9_init_17 rfl ?_
  refine J_callIN (pc := 18) (host := "TemperCellar") (i := 2) (ac := []) (rest := [.ref 2, .ref 0]) D9_init_18 m6_init_i (by decide) (c6_init (d := d) (P := (.inr (9, [.ref 1, .int 0, .null, .null, .null, .null, .null, .null, .int 0, .null, .null, .null, .null, .null, .null]) :: ([bA 700 (fun _ => 0)] ++ []))) (by unfold WP; decide +kernel)) (by omega) rfl rfl rfl (by decide +kernel) (by decide +kernel) rfl rfl (fun r w' hq hl => ?_)
  obtain ⟨rfl, rfl⟩ := hq
  refine ⟨rfl, ?_⟩
  refine J_w (w2 := (.inr (9, [.ref 1, .int 0, .null, .null, .null, .null, .null, .null, .int 0, .null, .null, .null, .null, .null, .null]) :: ([bA 700 (fun _ => 0)] ++ (toldC 2 T00 ++ [])))) rfl ?_
  refine J_putf (pc := 21) D9_init_21 fp9_18 rfl Fit.obj rfl ?_
  refine J_w (w2 := (.inr (9, [.ref 1, .int 0, .ref 2, .null, .null, .null, .null, .null, .int 0, .null, .null, .null, .null, .null, .null]) :: ([bA 700 (fun _ => 0)] ++ (toldC 2 T00 ++ [])))) rfl ?_
  refine J_aload_n (pc := 24) D9_init_24 rfl ?_
  refine J_w (w2 := [] ++ (.inr (9, [.ref 1, .int 0, .ref 2, .null, .null, .null, .null, .null, .int 0, .null, .null, .null, .null, .null, .null]) :: ([bA 700 (fun _ => 0)] ++ (toldC 2 T00 ++ [])))) rfl ?_
  refine JP_new (mc := 89) (ms := 3907) (k := 19) (n := 960) (P := []) (t := (.inr (9, [.ref 1, .int 0, .ref 2, .null, .null, .null, .null, .null, .int 0, .null, .null, .null, .null, .null, .null]) :: ([bA 700 (fun _ => 0)] ++ (toldC 2 T00 ++ [])))) (pc := 25) (L := 20) D9_init_25 ko6 t33 t34 t2 dm6 dc6 rfl rfl (by unfold WP; decide +kernel) (wl1 (P := [])) (wr1 (P := [])) rfl rfl ?_
  refine J_w (w2 := (.inr (9, [.ref 1, .int 0, .ref 2, .null, .null, .null, .null, .null, .int 0, .null, .null, .null, .null, .null, .null]) :: ([bA 700 (fun _ => 0)] ++ (toldC 2 T00 ++ []))) ++ [.inr (6, df6)]) rfl ?_
  refine J_st [.ref 20, .ref 0] rfl ?_
  refine J_dup (pc := 28) D9_init_28 rfl ?_
  refine J_callIN (pc := 29) (host := "TemperCellar") (i := 20) (ac := []) (rest := [.ref 20, .ref 0]) D9_init_29 m6_init_i (by decide) (c6_init (d := d) (P := (.inr (9, [.ref 1, .int 0, .ref 2, .null, .null, .null, .null, .null, .int 0, .null, .null, .null, .null, .null, .null]) :: ([bA 700 (fun _ => 0)] ++ (toldC 2 T00 ++ [])))) (by unfold WP; decide +kernel)) (by omega) rfl rfl rfl (by decide +kernel) (by decide +kernel) rfl rfl (fun r w' hq hl => ?_)
  obtain ⟨rfl, rfl⟩ := hq
  refine ⟨rfl, ?_⟩
  refine J_w (w2 := (.inr (9, [.ref 1, .int 0, .ref 2, .null, .null, .null, .null, .null, .int 0, .null, .null, .null, .null, .null, .null]) :: ([bA 700 (fun _ => 0)] ++ (toldC 2 T00 ++ (toldC 20 T00 ++ []))))) rfl ?_
  refine J_putf (pc := 32) D9_init_32 fp9_22 rfl Fit.obj rfl ?_
  refine J_w (w2 := (.inr (9, [.ref 1, .int 0, .ref 2, .ref 20, .null, .null, .null, .null, .int 0, .null, .null, .null, .null, .null, .null]) :: ([bA 700 (fun _ => 0)] ++ (toldC 2 T00 ++ (toldC 20 T00 ++ []))))) rfl ?_
  refine J_aload_n (pc := 35) D9_init_35 rfl ?_
  refine J_w (w2 := [] ++ (.inr (9, [.ref 1, .int 0, .ref 2, .ref 20, .null, .null, .null, .null, .int 0, .null, .null, .null, .null, .null, .null]) :: ([bA 700 (fun _ => 0)] ++ (toldC 2 T00 ++ (toldC 20 T00 ++ []))))) rfl ?_
  refine JP_new (mc := 89) (ms := 3907) (k := 37) (n := 1220) (P := []) (t := (.inr (9, [.ref 1, .int 0, .ref 2, .ref 20, .null, .null, .null, .null, .int 0, .null, .null, .null, .null, .null, .null]) :: ([bA 700 (fun _ => 0)] ++ (toldC 2 T00 ++ (toldC 20 T00 ++ []))))) (pc := 36) (L := 38) D9_init_36 ko5 t188 t189 t5 dm5 dc5 rfl rfl (by unfold WP; decide +kernel) (wl1 (P := [])) (wr1 (P := [])) rfl rfl ?_
  refine J_w (w2 := (.inr (9, [.ref 1, .int 0, .ref 2, .ref 20, .null, .null, .null, .null, .int 0, .null, .null, .null, .null, .null, .null]) :: ([bA 700 (fun _ => 0)] ++ (toldC 2 T00 ++ (toldC 20 T00 ++ [])))) ++ [.inr (5, df5)]) rfl ?_
  refine J_st [.ref 38, .ref 0] rfl ?_
  refine J_dup (pc := 39) D9_init_39 rfl ?_
  refine J_aload_n (pc := 40) D9_init_40 rfl ?_
  refine J_getf (pc := 41) D9_init_41 fl9_11 rfl rfl ?_
  refine J_callI (pc := 44) (i := 38) (ac := [.ref 1]) (rest := [.ref 38, .ref 0]) D9_init_44 m5_init_i t190 (c5_init (d := d) (P := (.inr (9, [.ref 1, .int 0, .ref 2, .ref 20, .null, .null, .null, .null, .int 0, .null, .null, .null, .null, .null, .null]) :: ([bA 700 (fun _ => 0)] ++ (toldC 2 T00 ++ (toldC 20 T00 ++ []))))) (by unfold WP; decide +kernel) (by decide +kernel)) (by omega) rfl rfl rfl (by decide +kernel) (by decide +kernel) rfl rfl (fun r w' hq hl => ?_)
  obtain ⟨rfl, rfl⟩ := hq
  refine ⟨rfl, ?_⟩
  refine J_w (w2 := (.inr (9, [.ref 1, .int 0, .ref 2, .ref 20, .null, .null, .null, .null, .int 0, .null, .null, .null, .null, .null, .null]) :: ([bA 700 (fun _ => 0)] ++ (toldC 2 T00 ++ (toldC 20 T00 ++ ([.inr (5, [.ref 1, .ref 39, .ref 40, .ref 41, .int 0, .int 0]), iA 701 (fun _ => 0), iA 701 (fun _ => 0), iA 701 (fun _ => 0)] ++ [])))))) rfl ?_
  refine J_putF (pc := 47) D9_init_47 fp9_30 rfl rfl Fit.obj rfl ?_
  refine J_w (w2 := (.inr (9, [.ref 1, .int 0, .ref 2, .ref 20, .ref 38, .null, .null, .null, .int 0, .null, .null, .null, .null, .null, .null]) :: ([bA 700 (fun _ => 0)] ++ (toldC 2 T00 ++ (toldC 20 T00 ++ ([.inr (5, [.ref 1, .ref 39, .ref 40, .ref 41, .int 0, .int 0]), iA 701 (fun _ => 0), iA 701 (fun _ => 0), iA 701 (fun _ => 0)] ++ [])))))) rfl ?_
  refine J_aload_n (pc := 50) D9_init_50 rfl ?_
  refine J_w (w2 := [] ++ (.inr (9, [.ref 1, .int 0, .ref 2, .ref 20, .ref 38, .null, .null, .null, .int 0, .null, .null, .null, .null, .null, .null]) :: ([bA 700 (fun _ => 0)] ++ (toldC 2 T00 ++ (toldC 20 T00 ++ ([.inr (5, [.ref 1, .ref 39, .ref 40, .ref 41, .int 0, .int 0]), iA 701 (fun _ => 0), iA 701 (fun _ => 0), iA 701 (fun _ => 0)] ++ [])))))) rfl ?_
  refine JP_new (mc := 89) (ms := 3907) (k := 41) (n := 3329) (P := []) (t := (.inr (9, [.ref 1, .int 0, .ref 2, .ref 20, .ref 38, .null, .null, .null, .int 0, .null, .null, .null, .null, .null, .null]) :: ([bA 700 (fun _ => 0)] ++ (toldC 2 T00 ++ (toldC 20 T00 ++ ([.inr (5, [.ref 1, .ref 39, .ref 40, .ref 41, .int 0, .int 0]), iA 701 (fun _ => 0), iA 701 (fun _ => 0), iA 701 (fun _ => 0)] ++ [])))))) (pc := 51) (L := 42) D9_init_51 ko2 t216 t217 t6 dm2 dc2 rfl rfl (by unfold WP; decide +kernel) (wl1 (P := [])) (wr1 (P := [])) rfl rfl ?_
  refine J_w (w2 := (.inr (9, [.ref 1, .int 0, .ref 2, .ref 20, .ref 38, .null, .null, .null, .int 0, .null, .null, .null, .null, .null, .null]) :: ([bA 700 (fun _ => 0)] ++ (toldC 2 T00 ++ (toldC 20 T00 ++ ([.inr (5, [.ref 1, .ref 39, .ref 40, .ref 41, .int 0, .int 0]), iA 701 (fun _ => 0), iA 701 (fun _ => 0), iA 701 (fun _ => 0)] ++ []))))) ++ [.inr (2, df2)]) rfl ?_
  refine J_st [.ref 42, .ref 0] rfl ?_
  refine J_dup (pc := 54) D9_init_54 rfl ?_
  refine J_aload_n (pc := 55) D9_init_55 rfl ?_
  refine J_getf (pc := 56) D9_init_56 fl9_30 rfl rfl ?_
  refine J_aload_n (pc := 59) D9_init_59 rfl ?_
  refine J_getf (pc := 60) D9_init_60 fl9_22 rfl rfl ?_
  refine J_callI (pc := 63) (i := 42) (ac := [.ref 38, .ref 20]) (rest := [.ref 42, .ref 0]) D9_init_63 m2_init_i t218 (c2_init (d := d) (P := (.inr (9, [.ref 1, .int 0, .ref 2, .ref 20, .ref 38, .null, .null, .null, .int 0, .null, .null, .null, .null, .null, .null]) :: ([bA 700 (fun _ => 0)] ++ (toldC 2 T00 ++ (toldC 20 T00 ++ ([.inr (5, [.ref 1, .ref 39, .ref 40, .ref 41, .int 0, .int 0]), iA 701 (fun _ => 0), iA 701 (fun _ => 0), iA 701 (fun _ => 0)] ++ [])))))) (by unfold WP; decide +kernel) (by decide +kernel) (by decide +kernel)) (by omega) rfl rfl rfl (by decide +kernel) (by decide +kernel) rfl rfl (fun r w' hq hl => ?_)
  obtain ⟨rfl, rfl⟩ := hq
  refine ⟨rfl, ?_⟩
  refine J_w (w2 := (.inr (9, [.ref 1, .int 0, .ref 2, .ref 20, .ref 38, .null, .null, .null, .int 0, .null, .null, .null, .null, .null, .null]) :: ([bA 700 (fun _ => 0)] ++ (toldC 2 T00 ++ (toldC 20 T00 ++ ([.inr (5, [.ref 1, .ref 39, .ref 40, .ref 41, .int 0, .int 0]), iA 701 (fun _ => 0), iA 701 (fun _ => 0), iA 701 (fun _ => 0)] ++ ([.inr (2, [.ref 38, .int 0, .ref 20, .int 0, .int 0, .int 0, .int (-1)])] ++ []))))))) rfl ?_
  refine J_putF (pc := 66) D9_init_66 fp9_39 rfl rfl Fit.obj rfl ?_
  refine J_w (w2 := (.inr (9, [.ref 1, .int 0, .ref 2, .ref 20, .ref 38, .ref 42, .null, .null, .int 0, .null, .null, .null, .null, .null, .null]) :: ([bA 700 (fun _ => 0)] ++ (toldC 2 T00 ++ (toldC 20 T00 ++ ([.inr (5, [.ref 1, .ref 39, .ref 40, .ref 41, .int 0, .int 0]), iA 701 (fun _ => 0), iA 701 (fun _ => 0), iA 701 (fun _ => 0)] ++ ([.inr (2, [.ref 38, .int 0, .ref 20, .int 0, .int 0, .int 0, .int (-1)])] ++ []))))))) rfl ?_
  refine J_aload_n (pc := 69) D9_init_69 rfl ?_
  refine J_w (w2 := [] ++ (.inr (9, [.ref 1, .int 0, .ref 2, .ref 20, .ref 38, .ref 42, .null, .null, .int 0, .null, .null, .null, .null, .null, .null]) :: ([bA 700 (fun _ => 0)] ++ (toldC 2 T00 ++ (toldC 20 T00 ++ ([.inr (5, [.ref 1, .ref 39, .ref 40, .ref 41, .int 0, .int 0]), iA 701 (fun _ => 0), iA 701 (fun _ => 0), iA 701 (fun _ => 0)] ++ ([.inr (2, [.ref 38, .int 0, .ref 20, .int 0, .int 0, .int 0, .int (-1)])] ++ []))))))) rfl ?_
  refine JP_new (mc := 89) (ms := 3907) (k := 42) (n := 3336) (P := []) (t := (.inr (9, [.ref 1, .int 0, .ref 2, .ref 20, .ref 38, .ref 42, .null, .null, .int 0, .null, .null, .null, .null, .null, .null]) :: ([bA 700 (fun _ => 0)] ++ (toldC 2 T00 ++ (toldC 20 T00 ++ ([.inr (5, [.ref 1, .ref 39, .ref 40, .ref 41, .int 0, .int 0]), iA 701 (fun _ => 0), iA 701 (fun _ => 0), iA 701 (fun _ => 0)] ++ ([.inr (2, [.ref 38, .int 0, .ref 20, .int 0, .int 0, .int 0, .int (-1)])] ++ []))))))) (pc := 70) (L := 43) D9_init_70 ko0 t246 t247 t7 dm0 dc0 rfl rfl (by unfold WP; decide +kernel) (wl1 (P := [])) (wr1 (P := [])) rfl rfl ?_
  refine J_w (w2 := (.inr (9, [.ref 1, .int 0, .ref 2, .ref 20, .ref 38, .ref 42, .null, .null, .int 0, .null, .null, .null, .null, .null, .null]) :: ([bA 700 (fun _ => 0)] ++ (toldC 2 T00 ++ (toldC 20 T00 ++ ([.inr (5, [.ref 1, .ref 39, .ref 40, .ref 41, .int 0, .int 0]), iA 701 (fun _ => 0), iA 701 (fun _ => 0), iA 701 (fun _ => 0)] ++ ([.inr (2, [.ref 38, .int 0, .ref 20, .int 0, .int 0, .int 0, .int (-1)])] ++ [])))))) ++ [.inr (0, df0)]) rfl ?_
  refine J_st [.ref 43, .ref 0] rfl ?_
  refine J_dup (pc := 73) D9_init_73 rfl ?_
  refine J_callIN (pc := 74) (host := "TemperCellar") (i := 43) (ac := []) (rest := [.ref 43, .ref 0]) D9_init_74 m0_init_i (by decide) (c0_init (d := d) (P := (.inr (9, [.ref 1, .int 0, .ref 2, .ref 20, .ref 38, .ref 42, .null, .null, .int 0, .null, .null, .null, .null, .null, .null]) :: ([bA 700 (fun _ => 0)] ++ (toldC 2 T00 ++ (toldC 20 T00 ++ ([.inr (5, [.ref 1, .ref 39, .ref 40, .ref 41, .int 0, .int 0]), iA 701 (fun _ => 0), iA 701 (fun _ => 0), iA 701 (fun _ => 0)] ++ ([.inr (2, [.ref 38, .int 0, .ref 20, .int 0, .int 0, .int 0, .int (-1)])] ++ []))))))) (by unfold WP; decide +kernel)) (by omega) rfl rfl rfl (by decide +kernel) (by decide +kernel) rfl rfl (fun r w' hq hl => ?_)
  obtain ⟨rfl, rfl⟩ := hq
  refine ⟨rfl, ?_⟩
  refine J_w (w2 := (.inr (9, [.ref 1, .int 0, .ref 2, .ref 20, .ref 38, .ref 42, .null, .null, .int 0, .null, .null, .null, .null, .null, .null]) :: ([bA 700 (fun _ => 0)] ++ (toldC 2 T00 ++ (toldC 20 T00 ++ ([.inr (5, [.ref 1, .ref 39, .ref 40, .ref 41, .int 0, .int 0]), iA 701 (fun _ => 0), iA 701 (fun _ => 0), iA 701 (fun _ => 0)] ++ ([.inr (2, [.ref 38, .int 0, .ref 20, .int 0, .int 0, .int 0, .int (-1)])] ++ (celC 43 V00 ++ [])))))))) rfl ?_
  refine J_putF (pc := 77) D9_init_77 fp9_46 rfl rfl Fit.obj rfl ?_
  refine J_w (w2 := (.inr (9, [.ref 1, .int 0, .ref 2, .ref 20, .ref 38, .ref 42, .ref 43, .null, .int 0, .null, .null, .null, .null, .null, .null]) :: ([bA 700 (fun _ => 0)] ++ (toldC 2 T00 ++ (toldC 20 T00 ++ ([.inr (5, [.ref 1, .ref 39, .ref 40, .ref 41, .int 0, .int 0]), iA 701 (fun _ => 0), iA 701 (fun _ => 0), iA 701 (fun _ => 0)] ++ ([.inr (2, [.ref 38, .int 0, .ref 20, .int 0, .int 0, .int 0, .int (-1)])] ++ (celC 43 V00 ++ [])))))))) rfl ?_
  refine J_aload_n (pc := 80) D9_init_80 rfl ?_
  refine J_w (w2 := [] ++ (.inr (9, [.ref 1, .int 0, .ref 2, .ref 20, .ref 38, .ref 42, .ref 43, .null, .int 0, .null, .null, .null, .null, .null, .null]) :: ([bA 700 (fun _ => 0)] ++ (toldC 2 T00 ++ (toldC 20 T00 ++ ([.inr (5, [.ref 1, .ref 39, .ref 40, .ref 41, .int 0, .int 0]), iA 701 (fun _ => 0), iA 701 (fun _ => 0), iA 701 (fun _ => 0)] ++ ([.inr (2, [.ref 38, .int 0, .ref 20, .int 0, .int 0, .int 0, .int (-1)])] ++ (celC 43 V00 ++ [])))))))) rfl ?_
  refine JP_new (mc := 89) (ms := 3907) (k := 52) (n := 3422) (P := []) (t := (.inr (9, [.ref 1, .int 0, .ref 2, .ref 20, .ref 38, .ref 42, .ref 43, .null, .int 0, .null, .null, .null, .null, .null, .null]) :: ([bA 700 (fun _ => 0)] ++ (toldC 2 T00 ++ (toldC 20 T00 ++ ([.inr (5, [.ref 1, .ref 39, .ref 40, .ref 41, .int 0, .int 0]), iA 701 (fun _ => 0), iA 701 (fun _ => 0), iA 701 (fun _ => 0)] ++ ([.inr (2, [.ref 38, .int 0, .ref 20, .int 0, .int 0, .int 0, .int (-1)])] ++ (celC 43 V00 ++ [])))))))) (pc := 81) (L := 53) D9_init_81 ko0 t246 t247 t7 dm0 dc0 rfl rfl (by unfold WP; decide +kernel) (wl1 (P := [])) (wr1 (P := [])) rfl rfl ?_
  refine J_w (w2 := (.inr (9, [.ref 1, .int 0, .ref 2, .ref 20, .ref 38, .ref 42, .ref 43, .null, .int 0, .null, .null, .null, .null, .null, .null]) :: ([bA 700 (fun _ => 0)] ++ (toldC 2 T00 ++ (toldC 20 T00 ++ ([.inr (5, [.ref 1, .ref 39, .ref 40, .ref 41, .int 0, .int 0]), iA 701 (fun _ => 0), iA 701 (fun _ => 0), iA 701 (fun _ => 0)] ++ ([.inr (2, [.ref 38, .int 0, .ref 20, .int 0, .int 0, .int 0, .int (-1)])] ++ (celC 43 V00 ++ []))))))) ++ [.inr (0, df0)]) rfl ?_
  refine J_st [.ref 53, .ref 0] rfl ?_
  refine J_dup (pc := 84) D9_init_84 rfl ?_
  refine J_callIN (pc := 85) (host := "TemperCellar") (i := 53) (ac := []) (rest := [.ref 53, .ref 0]) D9_init_85 m0_init_i (by decide) (c0_init (d := d) (P := (.inr (9, [.ref 1, .int 0, .ref 2, .ref 20, .ref 38, .ref 42, .ref 43, .null, .int 0, .null, .null, .null, .null, .null, .null]) :: ([bA 700 (fun _ => 0)] ++ (toldC 2 T00 ++ (toldC 20 T00 ++ ([.inr (5, [.ref 1, .ref 39, .ref 40, .ref 41, .int 0, .int 0]), iA 701 (fun _ => 0), iA 701 (fun _ => 0), iA 701 (fun _ => 0)] ++ ([.inr (2, [.ref 38, .int 0, .ref 20, .int 0, .int 0, .int 0, .int (-1)])] ++ (celC 43 V00 ++ [])))))))) (by unfold WP; decide +kernel)) (by omega) rfl rfl rfl (by decide +kernel) (by decide +kernel) rfl rfl (fun r w' hq hl => ?_)
  obtain ⟨rfl, rfl⟩ := hq
  refine ⟨rfl, ?_⟩
  refine J_w (w2 := (.inr (9, [.ref 1, .int 0, .ref 2, .ref 20, .ref 38, .ref 42, .ref 43, .null, .int 0, .null, .null, .null, .null, .null, .null]) :: ([bA 700 (fun _ => 0)] ++ (toldC 2 T00 ++ (toldC 20 T00 ++ ([.inr (5, [.ref 1, .ref 39, .ref 40, .ref 41, .int 0, .int 0]), iA 701 (fun _ => 0), iA 701 (fun _ => 0), iA 701 (fun _ => 0)] ++ ([.inr (2, [.ref 38, .int 0, .ref 20, .int 0, .int 0, .int 0, .int (-1)])] ++ (celC 43 V00 ++ (celC 53 V00 ++ []))))))))) rfl ?_
  refine J_putF (pc := 88) D9_init_88 fp9_50 rfl rfl Fit.obj rfl ?_
  refine J_w (w2 := (.inr (9, [.ref 1, .int 0, .ref 2, .ref 20, .ref 38, .ref 42, .ref 43, .ref 53, .int 0, .null, .null, .null, .null, .null, .null]) :: ([bA 700 (fun _ => 0)] ++ (toldC 2 T00 ++ (toldC 20 T00 ++ ([.inr (5, [.ref 1, .ref 39, .ref 40, .ref 41, .int 0, .int 0]), iA 701 (fun _ => 0), iA 701 (fun _ => 0), iA 701 (fun _ => 0)] ++ ([.inr (2, [.ref 38, .int 0, .ref 20, .int 0, .int 0, .int 0, .int (-1)])] ++ (celC 43 V00 ++ (celC 53 V00 ++ []))))))))) rfl ?_
  refine J_aload_n (pc := 91) D9_init_91 rfl ?_
  refine J_w (w2 := [] ++ (.inr (9, [.ref 1, .int 0, .ref 2, .ref 20, .ref 38, .ref 42, .ref 43, .ref 53, .int 0, .null, .null, .null, .null, .null, .null]) :: ([bA 700 (fun _ => 0)] ++ (toldC 2 T00 ++ (toldC 20 T00 ++ ([.inr (5, [.ref 1, .ref 39, .ref 40, .ref 41, .int 0, .int 0]), iA 701 (fun _ => 0), iA 701 (fun _ => 0), iA 701 (fun _ => 0)] ++ ([.inr (2, [.ref 38, .int 0, .ref 20, .int 0, .int 0, .int 0, .int (-1)])] ++ (celC 43 V00 ++ (celC 53 V00 ++ []))))))))) rfl ?_
  refine JP_new (mc := 89) (ms := 3907) (k := 62) (n := 3508) (P := []) (t := (.inr (9, [.ref 1, .int 0, .ref 2, .ref 20, .ref 38, .ref 42, .ref 43, .ref 53, .int 0, .null, .null, .null, .null, .null, .null]) :: ([bA 700 (fun _ => 0)] ++ (toldC 2 T00 ++ (toldC 20 T00 ++ ([.inr (5, [.ref 1, .ref 39, .ref 40, .ref 41, .int 0, .int 0]), iA 701 (fun _ => 0), iA 701 (fun _ => 0), iA 701 (fun _ => 0)] ++ ([.inr (2, [.ref 38, .int 0, .ref 20, .int 0, .int 0, .int 0, .int (-1)])] ++ (celC 43 V00 ++ (celC 53 V00 ++ []))))))))) (pc := 92) (L := 63) D9_init_92 ko0 t246 t247 t7 dm0 dc0 rfl rfl (by unfold WP; decide +kernel) (wl1 (P := [])) (wr1 (P := [])) rfl rfl ?_
  refine J_w (w2 := (.inr (9, [.ref 1, .int 0, .ref 2, .ref 20, .ref 38, .ref 42, .ref 43, .ref 53, .int 0, .null, .null, .null, .null, .null, .null]) :: ([bA 700 (fun _ => 0)] ++ (toldC 2 T00 ++ (toldC 20 T00 ++ ([.inr (5, [.ref 1, .ref 39, .ref 40, .ref 41, .int 0, .int 0]), iA 701 (fun _ => 0), iA 701 (fun _ => 0), iA 701 (fun _ => 0)] ++ ([.inr (2, [.ref 38, .int 0, .ref 20, .int 0, .int 0, .int 0, .int (-1)])] ++ (celC 43 V00 ++ (celC 53 V00 ++ [])))))))) ++ [.inr (0, df0)]) rfl ?_
  refine J_st [.ref 63, .ref 0] rfl ?_
  refine J_dup (pc := 95) D9_init_95 rfl ?_
  refine J_callIN (pc := 96) (host := "TemperCellar") (i := 63) (ac := []) (rest := [.ref 63, .ref 0]) D9_init_96 m0_init_i (by decide) (c0_init (d := d) (P := (.inr (9, [.ref 1, .int 0, .ref 2, .ref 20, .ref 38, .ref 42, .ref 43, .ref 53, .int 0, .null, .null, .null, .null, .null, .null]) :: ([bA 700 (fun _ => 0)] ++ (toldC 2 T00 ++ (toldC 20 T00 ++ ([.inr (5, [.ref 1, .ref 39, .ref 40, .ref 41, .int 0, .int 0]), iA 701 (fun _ => 0), iA 701 (fun _ => 0), iA 701 (fun _ => 0)] ++ ([.inr (2, [.ref 38, .int 0, .ref 20, .int 0, .int 0, .int 0, .int (-1)])] ++ (celC 43 V00 ++ (celC 53 V00 ++ []))))))))) (by unfold WP; decide +kernel)) (by omega) rfl rfl rfl (by decide +kernel) (by decide +kernel) rfl rfl (fun r w' hq hl => ?_)
  obtain ⟨rfl, rfl⟩ := hq
  refine ⟨rfl, ?_⟩
  refine J_w (w2 := (.inr (9, [.ref 1, .int 0, .ref 2, .ref 20, .ref 38, .ref 42, .ref 43, .ref 53, .int 0, .null, .null, .null, .null, .null, .null]) :: ([bA 700 (fun _ => 0)] ++ (toldC 2 T00 ++ (toldC 20 T00 ++ ([.inr (5, [.ref 1, .ref 39, .ref 40, .ref 41, .int 0, .int 0]), iA 701 (fun _ => 0), iA 701 (fun _ => 0), iA 701 (fun _ => 0)] ++ ([.inr (2, [.ref 38, .int 0, .ref 20, .int 0, .int 0, .int 0, .int (-1)])] ++ (celC 43 V00 ++ (celC 53 V00 ++ (celC 63 V00 ++ [])))))))))) rfl ?_
  refine J_putF (pc := 99) D9_init_99 fp9_53 rfl rfl Fit.obj rfl ?_
  refine J_w (w2 := (.inr (9, [.ref 1, .int 0, .ref 2, .ref 20, .ref 38, .ref 42, .ref 43, .ref 53, .int 0, .ref 63, .null, .null, .null, .null, .null]) :: ([bA 700 (fun _ => 0)] ++ (toldC 2 T00 ++ (toldC 20 T00 ++ ([.inr (5, [.ref 1, .ref 39, .ref 40, .ref 41, .int 0, .int 0]), iA 701 (fun _ => 0), iA 701 (fun _ => 0), iA 701 (fun _ => 0)] ++ ([.inr (2, [.ref 38, .int 0, .ref 20, .int 0, .int 0, .int 0, .int (-1)])] ++ (celC 43 V00 ++ (celC 53 V00 ++ (celC 63 V00 ++ [])))))))))) rfl ?_
  refine J_aload_n (pc := 102) D9_init_102 rfl ?_
  refine J_w (w2 := [] ++ (.inr (9, [.ref 1, .int 0, .ref 2, .ref 20, .ref 38, .ref 42, .ref 43, .ref 53, .int 0, .ref 63, .null, .null, .null, .null, .null]) :: ([bA 700 (fun _ => 0)] ++ (toldC 2 T00 ++ (toldC 20 T00 ++ ([.inr (5, [.ref 1, .ref 39, .ref 40, .ref 41, .int 0, .int 0]), iA 701 (fun _ => 0), iA 701 (fun _ => 0), iA 701 (fun _ => 0)] ++ ([.inr (2, [.ref 38, .int 0, .ref 20, .int 0, .int 0, .int 0, .int (-1)])] ++ (celC 43 V00 ++ (celC 53 V00 ++ (celC 63 V00 ++ [])))))))))) rfl ?_
  refine JP_new (mc := 89) (ms := 3907) (k := 72) (n := 3594) (P := []) (t := (.inr (9, [.ref 1, .int 0, .ref 2, .ref 20, .ref 38, .ref 42, .ref 43, .ref 53, .int 0, .ref 63, .null, .null, .null, .null, .null]) :: ([bA 700 (fun _ => 0)] ++ (toldC 2 T00 ++ (toldC 20 T00 ++ ([.inr (5, [.ref 1, .ref 39, .ref 40, .ref 41, .int 0, .int 0]), iA 701 (fun _ => 0), iA 701 (fun _ => 0), iA 701 (fun _ => 0)] ++ ([.inr (2, [.ref 38, .int 0, .ref 20, .int 0, .int 0, .int 0, .int (-1)])] ++ (celC 43 V00 ++ (celC 53 V00 ++ (celC 63 V00 ++ [])))))))))) (pc := 103) (L := 73) D9_init_103 ko8 t313 t314 t8 dm8 dc8 rfl rfl (by unfold WP; decide +kernel) (wl1 (P := [])) (wr1 (P := [])) rfl rfl ?_
  refine J_w (w2 := (.inr (9, [.ref 1, .int 0, .ref 2, .ref 20, .ref 38, .ref 42, .ref 43, .ref 53, .int 0, .ref 63, .null, .null, .null, .null, .null]) :: ([bA 700 (fun _ => 0)] ++ (toldC 2 T00 ++ (toldC 20 T00 ++ ([.inr (5, [.ref 1, .ref 39, .ref 40, .ref 41, .int 0, .int 0]), iA 701 (fun _ => 0), iA 701 (fun _ => 0), iA 701 (fun _ => 0)] ++ ([.inr (2, [.ref 38, .int 0, .ref 20, .int 0, .int 0, .int 0, .int (-1)])] ++ (celC 43 V00 ++ (celC 53 V00 ++ (celC 63 V00 ++ []))))))))) ++ [.inr (8, df8)]) rfl ?_
  refine J_st [.ref 73, .ref 0] rfl ?_
  refine J_dup (pc := 106) D9_init_106 rfl ?_
  refine J_aload_n (pc := 107) D9_init_107 rfl ?_
  refine J_getf (pc := 108) D9_init_108 fl9_18 rfl rfl ?_
  refine J_aload_n (pc := 111) D9_init_111 rfl ?_
  refine J_getf (pc := 112) D9_init_112 fl9_53 rfl rfl ?_
  refine J_callI (pc := 115) (i := 73) (ac := [.ref 2, .ref 63]) (rest := [.ref 73, .ref 0]) D9_init_115 m8_init_i t315 (c8_init (d := d) (P := (.inr (9, [.ref 1, .int 0, .ref 2, .ref 20, .ref 38, .ref 42, .ref 43, .ref 53, .int 0, .ref 63, .null, .null, .null, .null, .null]) :: ([bA 700 (fun _ => 0)] ++ (toldC 2 T00 ++ (toldC 20 T00 ++ ([.inr (5, [.ref 1, .ref 39, .ref 40, .ref 41, .int 0, .int 0]), iA 701 (fun _ => 0), iA 701 (fun _ => 0), iA 701 (fun _ => 0)] ++ ([.inr (2, [.ref 38, .int 0, .ref 20, .int 0, .int 0, .int 0, .int (-1)])] ++ (celC 43 V00 ++ (celC 53 V00 ++ (celC 63 V00 ++ [])))))))))) (by unfold WP; decide +kernel) (by decide +kernel) (by decide +kernel)) (by omega) rfl rfl rfl (by decide +kernel) (by decide +kernel) rfl rfl (fun r w' hq hl => ?_)
  obtain ⟨rfl, rfl⟩ := hq
  refine ⟨rfl, ?_⟩
  refine J_w (w2 := (.inr (9, [.ref 1, .int 0, .ref 2, .ref 20, .ref 38, .ref 42, .ref 43, .ref 53, .int 0, .ref 63, .null, .null, .null, .null, .null]) :: ([bA 700 (fun _ => 0)] ++ (toldC 2 T00 ++ (toldC 20 T00 ++ ([.inr (5, [.ref 1, .ref 39, .ref 40, .ref 41, .int 0, .int 0]), iA 701 (fun _ => 0), iA 701 (fun _ => 0), iA 701 (fun _ => 0)] ++ ([.inr (2, [.ref 38, .int 0, .ref 20, .int 0, .int 0, .int 0, .int (-1)])] ++ (celC 43 V00 ++ (celC 53 V00 ++ (celC 63 V00 ++ ([.inr (8, [.ref 2, .ref 63, .int 0, .int 0, .int 0, .ref 74, .ref 75]), iA 10 (fun _ => 0), lA 64 (fun _ => 0)] ++ []))))))))))) rfl ?_
  refine J_putF (pc := 118) D9_init_118 fp9_61 rfl rfl Fit.obj rfl ?_
  refine J_w (w2 := (.inr (9, [.ref 1, .int 0, .ref 2, .ref 20, .ref 38, .ref 42, .ref 43, .ref 53, .int 0, .ref 63, .ref 73, .null, .null, .null, .null]) :: ([bA 700 (fun _ => 0)] ++ (toldC 2 T00 ++ (toldC 20 T00 ++ ([.inr (5, [.ref 1, .ref 39, .ref 40, .ref 41, .int 0, .int 0]), iA 701 (fun _ => 0), iA 701 (fun _ => 0), iA 701 (fun _ => 0)] ++ ([.inr (2, [.ref 38, .int 0, .ref 20, .int 0, .int 0, .int 0, .int (-1)])] ++ (celC 43 V00 ++ (celC 53 V00 ++ (celC 63 V00 ++ ([.inr (8, [.ref 2, .ref 63, .int 0, .int 0, .int 0, .ref 74, .ref 75]), iA 10 (fun _ => 0), lA 64 (fun _ => 0)] ++ []))))))))))) rfl ?_
  refine J_aload_n (pc := 121) D9_init_121 rfl ?_
  refine J_w (w2 := [] ++ (.inr (9, [.ref 1, .int 0, .ref 2, .ref 20, .ref 38, .ref 42, .ref 43, .ref 53, .int 0, .ref 63, .ref 73, .null, .null, .null, .null]) :: ([bA 700 (fun _ => 0)] ++ (toldC 2 T00 ++ (toldC 20 T00 ++ ([.inr (5, [.ref 1, .ref 39, .ref 40, .ref 41, .int 0, .int 0]), iA 701 (fun _ => 0), iA 701 (fun _ => 0), iA 701 (fun _ => 0)] ++ ([.inr (2, [.ref 38, .int 0, .ref 20, .int 0, .int 0, .int 0, .int (-1)])] ++ (celC 43 V00 ++ (celC 53 V00 ++ (celC 63 V00 ++ ([.inr (8, [.ref 2, .ref 63, .int 0, .int 0, .int 0, .ref 74, .ref 75]), iA 10 (fun _ => 0), lA 64 (fun _ => 0)] ++ []))))))))))) rfl ?_
  refine JP_new (mc := 89) (ms := 3907) (k := 75) (n := 3675) (P := []) (t := (.inr (9, [.ref 1, .int 0, .ref 2, .ref 20, .ref 38, .ref 42, .ref 43, .ref 53, .int 0, .ref 63, .ref 73, .null, .null, .null, .null]) :: ([bA 700 (fun _ => 0)] ++ (toldC 2 T00 ++ (toldC 20 T00 ++ ([.inr (5, [.ref 1, .ref 39, .ref 40, .ref 41, .int 0, .int 0]), iA 701 (fun _ => 0), iA 701 (fun _ => 0), iA 701 (fun _ => 0)] ++ ([.inr (2, [.ref 38, .int 0, .ref 20, .int 0, .int 0, .int 0, .int (-1)])] ++ (celC 43 V00 ++ (celC 53 V00 ++ (celC 63 V00 ++ ([.inr (8, [.ref 2, .ref 63, .int 0, .int 0, .int 0, .ref 74, .ref 75]), iA 10 (fun _ => 0), lA 64 (fun _ => 0)] ++ []))))))))))) (pc := 122) (L := 76) D9_init_122 ko7 t344 t345 t9 dm7 dc7 rfl rfl (by unfold WP; decide +kernel) (wl1 (P := [])) (wr1 (P := [])) rfl rfl ?_
  refine J_w (w2 := (.inr (9, [.ref 1, .int 0, .ref 2, .ref 20, .ref 38, .ref 42, .ref 43, .ref 53, .int 0, .ref 63, .ref 73, .null, .null, .null, .null]) :: ([bA 700 (fun _ => 0)] ++ (toldC 2 T00 ++ (toldC 20 T00 ++ ([.inr (5, [.ref 1, .ref 39, .ref 40, .ref 41, .int 0, .int 0]), iA 701 (fun _ => 0), iA 701 (fun _ => 0), iA 701 (fun _ => 0)] ++ ([.inr (2, [.ref 38, .int 0, .ref 20, .int 0, .int 0, .int 0, .int (-1)])] ++ (celC 43 V00 ++ (celC 53 V00 ++ (celC 63 V00 ++ ([.inr (8, [.ref 2, .ref 63, .int 0, .int 0, .int 0, .ref 74, .ref 75]), iA 10 (fun _ => 0), lA 64 (fun _ => 0)] ++ [])))))))))) ++ [.inr (7, df7)]) rfl ?_
  refine J_st [.ref 76, .ref 0] rfl ?_
  refine J_dup (pc := 125) D9_init_125 rfl ?_
  refine J_callIN (pc := 126) (host := "TemperCellar") (i := 76) (ac := []) (rest := [.ref 76, .ref 0]) D9_init_126 m7_init_i (by decide) (c7_init (d := d) (P := (.inr (9, [.ref 1, .int 0, .ref 2, .ref 20, .ref 38, .ref 42, .ref 43, .ref 53, .int 0, .ref 63, .ref 73, .null, .null, .null, .null]) :: ([bA 700 (fun _ => 0)] ++ (toldC 2 T00 ++ (toldC 20 T00 ++ ([.inr (5, [.ref 1, .ref 39, .ref 40, .ref 41, .int 0, .int 0]), iA 701 (fun _ => 0), iA 701 (fun _ => 0), iA 701 (fun _ => 0)] ++ ([.inr (2, [.ref 38, .int 0, .ref 20, .int 0, .int 0, .int 0, .int (-1)])] ++ (celC 43 V00 ++ (celC 53 V00 ++ (celC 63 V00 ++ ([.inr (8, [.ref 2, .ref 63, .int 0, .int 0, .int 0, .ref 74, .ref 75]), iA 10 (fun _ => 0), lA 64 (fun _ => 0)] ++ []))))))))))) (by unfold WP; decide +kernel)) (by omega) rfl rfl rfl (by decide +kernel) (by decide +kernel) rfl rfl (fun r w' hq hl => ?_)
  obtain ⟨rfl, rfl⟩ := hq
  refine ⟨rfl, ?_⟩
  refine J_w (w2 := (.inr (9, [.ref 1, .int 0, .ref 2, .ref 20, .ref 38, .ref 42, .ref 43, .ref 53, .int 0, .ref 63, .ref 73, .null, .null, .null, .null]) :: ([bA 700 (fun _ => 0)] ++ (toldC 2 T00 ++ (toldC 20 T00 ++ ([.inr (5, [.ref 1, .ref 39, .ref 40, .ref 41, .int 0, .int 0]), iA 701 (fun _ => 0), iA 701 (fun _ => 0), iA 701 (fun _ => 0)] ++ ([.inr (2, [.ref 38, .int 0, .ref 20, .int 0, .int 0, .int 0, .int (-1)])] ++ (celC 43 V00 ++ (celC 53 V00 ++ (celC 63 V00 ++ ([.inr (8, [.ref 2, .ref 63, .int 0, .int 0, .int 0, .ref 74, .ref 75]), iA 10 (fun _ => 0), lA 64 (fun _ => 0)] ++ (undC 76 0 (fun _ _ => 0) ++ [])))))))))))) rfl ?_
  refine J_putF (pc := 129) D9_init_129 fp9_68 rfl rfl Fit.obj rfl ?_
  refine J_w (w2 := (.inr (9, [.ref 1, .int 0, .ref 2, .ref 20, .ref 38, .ref 42, .ref 43, .ref 53, .int 0, .ref 63, .ref 73, .ref 76, .null, .null, .null]) :: ([bA 700 (fun _ => 0)] ++ (toldC 2 T00 ++ (toldC 20 T00 ++ ([.inr (5, [.ref 1, .ref 39, .ref 40, .ref 41, .int 0, .int 0]), iA 701 (fun _ => 0), iA 701 (fun _ => 0), iA 701 (fun _ => 0)] ++ ([.inr (2, [.ref 38, .int 0, .ref 20, .int 0, .int 0, .int 0, .int (-1)])] ++ (celC 43 V00 ++ (celC 53 V00 ++ (celC 63 V00 ++ ([.inr (8, [.ref 2, .ref 63, .int 0, .int 0, .int 0, .ref 74, .ref 75]), iA 10 (fun _ => 0), lA 64 (fun _ => 0)] ++ (undC 76 0 (fun _ _ => 0) ++ [])))))))))))) rfl ?_
  refine J_aload_n (pc := 132) D9_init_132 rfl ?_
  refine J_w (w2 := [] ++ (.inr (9, [.ref 1, .int 0, .ref 2, .ref 20, .ref 38, .ref 42, .ref 43, .ref 53, .int 0, .ref 63, .ref 73, .ref 76, .null, .null, .null]) :: ([bA 700 (fun _ => 0)] ++ (toldC 2 T00 ++ (toldC 20 T00 ++ ([.inr (5, [.ref 1, .ref 39, .ref 40, .ref 41, .int 0, .int 0]), iA 701 (fun _ => 0), iA 701 (fun _ => 0), iA 701 (fun _ => 0)] ++ ([.inr (2, [.ref 38, .int 0, .ref 20, .int 0, .int 0, .int 0, .int (-1)])] ++ (celC 43 V00 ++ (celC 53 V00 ++ (celC 63 V00 ++ ([.inr (8, [.ref 2, .ref 63, .int 0, .int 0, .int 0, .ref 74, .ref 75]), iA 10 (fun _ => 0), lA 64 (fun _ => 0)] ++ (undC 76 0 (fun _ _ => 0) ++ [])))))))))))) rfl ?_
  refine JP_new (mc := 89) (ms := 3907) (k := 79) (n := 3739) (P := []) (t := (.inr (9, [.ref 1, .int 0, .ref 2, .ref 20, .ref 38, .ref 42, .ref 43, .ref 53, .int 0, .ref 63, .ref 73, .ref 76, .null, .null, .null]) :: ([bA 700 (fun _ => 0)] ++ (toldC 2 T00 ++ (toldC 20 T00 ++ ([.inr (5, [.ref 1, .ref 39, .ref 40, .ref 41, .int 0, .int 0]), iA 701 (fun _ => 0), iA 701 (fun _ => 0), iA 701 (fun _ => 0)] ++ ([.inr (2, [.ref 38, .int 0, .ref 20, .int 0, .int 0, .int 0, .int (-1)])] ++ (celC 43 V00 ++ (celC 53 V00 ++ (celC 63 V00 ++ ([.inr (8, [.ref 2, .ref 63, .int 0, .int 0, .int 0, .ref 74, .ref 75]), iA 10 (fun _ => 0), lA 64 (fun _ => 0)] ++ (undC 76 0 (fun _ _ => 0) ++ [])))))))))))) (pc := 133) (L := 80) D9_init_133 ko3 t364 t365 t10 dm3 dc3 rfl rfl (by unfold WP; decide +kernel) (wl1 (P := [])) (wr1 (P := [])) rfl rfl ?_
  refine J_w (w2 := (.inr (9, [.ref 1, .int 0, .ref 2, .ref 20, .ref 38, .ref 42, .ref 43, .ref 53, .int 0, .ref 63, .ref 73, .ref 76, .null, .null, .null]) :: ([bA 700 (fun _ => 0)] ++ (toldC 2 T00 ++ (toldC 20 T00 ++ ([.inr (5, [.ref 1, .ref 39, .ref 40, .ref 41, .int 0, .int 0]), iA 701 (fun _ => 0), iA 701 (fun _ => 0), iA 701 (fun _ => 0)] ++ ([.inr (2, [.ref 38, .int 0, .ref 20, .int 0, .int 0, .int 0, .int (-1)])] ++ (celC 43 V00 ++ (celC 53 V00 ++ (celC 63 V00 ++ ([.inr (8, [.ref 2, .ref 63, .int 0, .int 0, .int 0, .ref 74, .ref 75]), iA 10 (fun _ => 0), lA 64 (fun _ => 0)] ++ (undC 76 0 (fun _ _ => 0) ++ []))))))))))) ++ [.inr (3, df3)]) rfl ?_
  refine J_st [.ref 80, .ref 0] rfl ?_
  refine J_dup (pc := 136) D9_init_136 rfl ?_
  refine J_callIN (pc := 137) (host := "TemperCellar") (i := 80) (ac := []) (rest := [.ref 80, .ref 0]) D9_init_137 m3_init_i (by decide) (c3_init (d := d) (P := (.inr (9, [.ref 1, .int 0, .ref 2, .ref 20, .ref 38, .ref 42, .ref 43, .ref 53, .int 0, .ref 63, .ref 73, .ref 76, .null, .null, .null]) :: ([bA 700 (fun _ => 0)] ++ (toldC 2 T00 ++ (toldC 20 T00 ++ ([.inr (5, [.ref 1, .ref 39, .ref 40, .ref 41, .int 0, .int 0]), iA 701 (fun _ => 0), iA 701 (fun _ => 0), iA 701 (fun _ => 0)] ++ ([.inr (2, [.ref 38, .int 0, .ref 20, .int 0, .int 0, .int 0, .int (-1)])] ++ (celC 43 V00 ++ (celC 53 V00 ++ (celC 63 V00 ++ ([.inr (8, [.ref 2, .ref 63, .int 0, .int 0, .int 0, .ref 74, .ref 75]), iA 10 (fun _ => 0), lA 64 (fun _ => 0)] ++ (undC 76 0 (fun _ _ => 0) ++ [])))))))))))) (by unfold WP; decide +kernel)) (by omega) rfl rfl rfl (by decide +kernel) (by decide +kernel) rfl rfl (fun r w' hq hl => ?_)
  obtain ⟨rfl, rfl⟩ := hq
  refine ⟨rfl, ?_⟩
  refine J_w (w2 := (.inr (9, [.ref 1, .int 0, .ref 2, .ref 20, .ref 38, .ref 42, .ref 43, .ref 53, .int 0, .ref 63, .ref 73, .ref 76, .null, .null, .null]) :: ([bA 700 (fun _ => 0)] ++ (toldC 2 T00 ++ (toldC 20 T00 ++ ([.inr (5, [.ref 1, .ref 39, .ref 40, .ref 41, .int 0, .int 0]), iA 701 (fun _ => 0), iA 701 (fun _ => 0), iA 701 (fun _ => 0)] ++ ([.inr (2, [.ref 38, .int 0, .ref 20, .int 0, .int 0, .int 0, .int (-1)])] ++ (celC 43 V00 ++ (celC 53 V00 ++ (celC 63 V00 ++ ([.inr (8, [.ref 2, .ref 63, .int 0, .int 0, .int 0, .ref 74, .ref 75]), iA 10 (fun _ => 0), lA 64 (fun _ => 0)] ++ (undC 76 0 (fun _ _ => 0) ++ (seeC 80 0 (-1) (fun _ _ => 0) ++ []))))))))))))) rfl ?_
  refine J_putF (pc := 140) D9_init_140 fp9_75 rfl rfl Fit.obj rfl ?_
  refine J_w (w2 := (.inr (9, [.ref 1, .int 0, .ref 2, .ref 20, .ref 38, .ref 42, .ref 43, .ref 53, .int 0, .ref 63, .ref 73, .ref 76, .ref 80, .null, .null]) :: ([bA 700 (fun _ => 0)] ++ (toldC 2 T00 ++ (toldC 20 T00 ++ ([.inr (5, [.ref 1, .ref 39, .ref 40, .ref 41, .int 0, .int 0]), iA 701 (fun _ => 0), iA 701 (fun _ => 0), iA 701 (fun _ => 0)] ++ ([.inr (2, [.ref 38, .int 0, .ref 20, .int 0, .int 0, .int 0, .int (-1)])] ++ (celC 43 V00 ++ (celC 53 V00 ++ (celC 63 V00 ++ ([.inr (8, [.ref 2, .ref 63, .int 0, .int 0, .int 0, .ref 74, .ref 75]), iA 10 (fun _ => 0), lA 64 (fun _ => 0)] ++ (undC 76 0 (fun _ _ => 0) ++ (seeC 80 0 (-1) (fun _ _ => 0) ++ []))))))))))))) rfl ?_
  refine J_aload_n (pc := 143) D9_init_143 rfl ?_
  refine J_w (w2 := [] ++ (.inr (9, [.ref 1, .int 0, .ref 2, .ref 20, .ref 38, .ref 42, .ref 43, .ref 53, .int 0, .ref 63, .ref 73, .ref 76, .ref 80, .null, .null]) :: ([bA 700 (fun _ => 0)] ++ (toldC 2 T00 ++ (toldC 20 T00 ++ ([.inr (5, [.ref 1, .ref 39, .ref 40, .ref 41, .int 0, .int 0]), iA 701 (fun _ => 0), iA 701 (fun _ => 0), iA 701 (fun _ => 0)] ++ ([.inr (2, [.ref 38, .int 0, .ref 20, .int 0, .int 0, .int 0, .int (-1)])] ++ (celC 43 V00 ++ (celC 53 V00 ++ (celC 63 V00 ++ ([.inr (8, [.ref 2, .ref 63, .int 0, .int 0, .int 0, .ref 74, .ref 75]), iA 10 (fun _ => 0), lA 64 (fun _ => 0)] ++ (undC 76 0 (fun _ _ => 0) ++ (seeC 80 0 (-1) (fun _ _ => 0) ++ []))))))))))))) rfl ?_
  refine JP_new (mc := 89) (ms := 3907) (k := 86) (n := 3891) (P := []) (t := (.inr (9, [.ref 1, .int 0, .ref 2, .ref 20, .ref 38, .ref 42, .ref 43, .ref 53, .int 0, .ref 63, .ref 73, .ref 76, .ref 80, .null, .null]) :: ([bA 700 (fun _ => 0)] ++ (toldC 2 T00 ++ (toldC 20 T00 ++ ([.inr (5, [.ref 1, .ref 39, .ref 40, .ref 41, .int 0, .int 0]), iA 701 (fun _ => 0), iA 701 (fun _ => 0), iA 701 (fun _ => 0)] ++ ([.inr (2, [.ref 38, .int 0, .ref 20, .int 0, .int 0, .int 0, .int (-1)])] ++ (celC 43 V00 ++ (celC 53 V00 ++ (celC 63 V00 ++ ([.inr (8, [.ref 2, .ref 63, .int 0, .int 0, .int 0, .ref 74, .ref 75]), iA 10 (fun _ => 0), lA 64 (fun _ => 0)] ++ (undC 76 0 (fun _ _ => 0) ++ (seeC 80 0 (-1) (fun _ _ => 0) ++ []))))))))))))) (pc := 144) (L := 87) D9_init_144 ko4 t398 t399 t11 dm4 dc4 rfl rfl (by unfold WP; decide +kernel) (wl1 (P := [])) (wr1 (P := [])) rfl rfl ?_
  refine J_w (w2 := (.inr (9, [.ref 1, .int 0, .ref 2, .ref 20, .ref 38, .ref 42, .ref 43, .ref 53, .int 0, .ref 63, .ref 73, .ref 76, .ref 80, .null, .null]) :: ([bA 700 (fun _ => 0)] ++ (toldC 2 T00 ++ (toldC 20 T00 ++ ([.inr (5, [.ref 1, .ref 39, .ref 40, .ref 41, .int 0, .int 0]), iA 701 (fun _ => 0), iA 701 (fun _ => 0), iA 701 (fun _ => 0)] ++ ([.inr (2, [.ref 38, .int 0, .ref 20, .int 0, .int 0, .int 0, .int (-1)])] ++ (celC 43 V00 ++ (celC 53 V00 ++ (celC 63 V00 ++ ([.inr (8, [.ref 2, .ref 63, .int 0, .int 0, .int 0, .ref 74, .ref 75]), iA 10 (fun _ => 0), lA 64 (fun _ => 0)] ++ (undC 76 0 (fun _ _ => 0) ++ (seeC 80 0 (-1) (fun _ _ => 0) ++ [])))))))))))) ++ [.inr (4, df4)]) rfl ?_
  refine J_st [.ref 87, .ref 0] rfl ?_
  refine J_dup (pc := 147) D9_init_147 rfl ?_
  refine J_aload_n (pc := 148) D9_init_148 rfl ?_
  refine J_getf (pc := 149) D9_init_149 fl9_18 rfl rfl ?_
  refine J_aload_n (pc := 152) D9_init_152 rfl ?_
  refine J_getf (pc := 153) D9_init_153 fl9_46 rfl rfl ?_
  refine J_callI (pc := 156) (i := 87) (ac := [.ref 2, .ref 43]) (rest := [.ref 87, .ref 0]) D9_init_156 m4_init_i t400 (c4_init (d := d) (P := (.inr (9, [.ref 1, .int 0, .ref 2, .ref 20, .ref 38, .ref 42, .ref 43, .ref 53, .int 0, .ref 63, .ref 73, .ref 76, .ref 80, .null, .null]) :: ([bA 700 (fun _ => 0)] ++ (toldC 2 T00 ++ (toldC 20 T00 ++ ([.inr (5, [.ref 1, .ref 39, .ref 40, .ref 41, .int 0, .int 0]), iA 701 (fun _ => 0), iA 701 (fun _ => 0), iA 701 (fun _ => 0)] ++ ([.inr (2, [.ref 38, .int 0, .ref 20, .int 0, .int 0, .int 0, .int (-1)])] ++ (celC 43 V00 ++ (celC 53 V00 ++ (celC 63 V00 ++ ([.inr (8, [.ref 2, .ref 63, .int 0, .int 0, .int 0, .ref 74, .ref 75]), iA 10 (fun _ => 0), lA 64 (fun _ => 0)] ++ (undC 76 0 (fun _ _ => 0) ++ (seeC 80 0 (-1) (fun _ _ => 0) ++ []))))))))))))) (by unfold WP; decide +kernel) (by decide +kernel) (by decide +kernel)) (by omega) rfl rfl rfl (by decide +kernel) (by decide +kernel) rfl rfl (fun r w' hq hl => ?_)
  obtain ⟨rfl, rfl⟩ := hq
  refine ⟨rfl, ?_⟩
  refine J_w (w2 := (.inr (9, [.ref 1, .int 0, .ref 2, .ref 20, .ref 38, .ref 42, .ref 43, .ref 53, .int 0, .ref 63, .ref 73, .ref 76, .ref 80, .null, .null]) :: ([bA 700 (fun _ => 0)] ++ (toldC 2 T00 ++ (toldC 20 T00 ++ ([.inr (5, [.ref 1, .ref 39, .ref 40, .ref 41, .int 0, .int 0]), iA 701 (fun _ => 0), iA 701 (fun _ => 0), iA 701 (fun _ => 0)] ++ ([.inr (2, [.ref 38, .int 0, .ref 20, .int 0, .int 0, .int 0, .int (-1)])] ++ (celC 43 V00 ++ (celC 53 V00 ++ (celC 63 V00 ++ ([.inr (8, [.ref 2, .ref 63, .int 0, .int 0, .int 0, .ref 74, .ref 75]), iA 10 (fun _ => 0), lA 64 (fun _ => 0)] ++ (undC 76 0 (fun _ _ => 0) ++ (seeC 80 0 (-1) (fun _ _ => 0) ++ ([.inr (4, [.ref 2, .ref 43, .int 0, .ref 88]), iA 8 (fun _ => 0)] ++ [])))))))))))))) rfl ?_
  refine J_putF (pc := 159) D9_init_159 fp9_82 rfl rfl Fit.obj rfl ?_
  refine J_w (w2 := (.inr (9, [.ref 1, .int 0, .ref 2, .ref 20, .ref 38, .ref 42, .ref 43, .ref 53, .int 0, .ref 63, .ref 73, .ref 76, .ref 80, .ref 87, .null]) :: ([bA 700 (fun _ => 0)] ++ (toldC 2 T00 ++ (toldC 20 T00 ++ ([.inr (5, [.ref 1, .ref 39, .ref 40, .ref 41, .int 0, .int 0]), iA 701 (fun _ => 0), iA 701 (fun _ => 0), iA 701 (fun _ => 0)] ++ ([.inr (2, [.ref 38, .int 0, .ref 20, .int 0, .int 0, .int 0, .int (-1)])] ++ (celC 43 V00 ++ (celC 53 V00 ++ (celC 63 V00 ++ ([.inr (8, [.ref 2, .ref 63, .int 0, .int 0, .int 0, .ref 74, .ref 75]), iA 10 (fun _ => 0), lA 64 (fun _ => 0)] ++ (undC 76 0 (fun _ _ => 0) ++ (seeC 80 0 (-1) (fun _ _ => 0) ++ ([.inr (4, [.ref 2, .ref 43, .int 0, .ref 88]), iA 8 (fun _ => 0)] ++ [])))))))))))))) rfl ?_
  refine J_aload_n (pc := 162) D9_init_162 rfl ?_
  refine J_iconst (pc := 163) (v := (nI 4)) D9_init_163 (by decide) ?_
  refine JP_newi (mc := 89) (ms := 3907) (k := 88) (n := 3903) (N := 4) (P := []) (t := (.inr (9, [.ref 1, .int 0, .ref 2, .ref 20, .ref 38, .ref 42, .ref 43, .ref 53, .int 0, .ref 63, .ref 73, .ref 76, .ref 80, .ref 87, .null]) :: ([bA 700 (fun _ => 0)] ++ (toldC 2 T00 ++ (toldC 20 T00 ++ ([.inr (5, [.ref 1, .ref 39, .ref 40, .ref 41, .int 0, .int 0]), iA 701 (fun _ => 0), iA 701 (fun _ => 0), iA 701 (fun _ => 0)] ++ ([.inr (2, [.ref 38, .int 0, .ref 20, .int 0, .int 0, .int 0, .int (-1)])] ++ (celC 43 V00 ++ (celC 53 V00 ++ (celC 63 V00 ++ ([.inr (8, [.ref 2, .ref 63, .int 0, .int 0, .int 0, .ref 74, .ref 75]), iA 10 (fun _ => 0), lA 64 (fun _ => 0)] ++ (undC 76 0 (fun _ _ => 0) ++ (seeC 80 0 (-1) (fun _ _ => 0) ++ ([.inr (4, [.ref 2, .ref 43, .int 0, .ref 88]), iA 8 (fun _ => 0)] ++ [])))))))))))))) (pc := 164) (L := 89) D9_init_164 rfl rfl rfl rfl rfl (by unfold WP; decide +kernel) (wl1 (P := [])) (wr1 (P := [])) rfl rfl (fun _ => ?_)
  refine J_w (w2 := (.inr (9, [.ref 1, .int 0, .ref 2, .ref 20, .ref 38, .ref 42, .ref 43, .ref 53, .int 0, .ref 63, .ref 73, .ref 76, .ref 80, .ref 87, .null]) :: ([bA 700 (fun _ => 0)] ++ (toldC 2 T00 ++ (toldC 20 T00 ++ ([.inr (5, [.ref 1, .ref 39, .ref 40, .ref 41, .int 0, .int 0]), iA 701 (fun _ => 0), iA 701 (fun _ => 0), iA 701 (fun _ => 0)] ++ ([.inr (2, [.ref 38, .int 0, .ref 20, .int 0, .int 0, .int 0, .int (-1)])] ++ (celC 43 V00 ++ (celC 53 V00 ++ (celC 63 V00 ++ ([.inr (8, [.ref 2, .ref 63, .int 0, .int 0, .int 0, .ref 74, .ref 75]), iA 10 (fun _ => 0), lA 64 (fun _ => 0)] ++ (undC 76 0 (fun _ _ => 0) ++ (seeC 80 0 (-1) (fun _ _ => 0) ++ ([.inr (4, [.ref 2, .ref 43, .int 0, .ref 88]), iA 8 (fun _ => 0)] ++ ([iA 4 (fun _ => 0)] ++ []))))))))))))))) rfl ?_
  refine J_st [.ref 89, .ref 0] rfl ?_
  refine J_putF (pc := 166) D9_init_166 fp9_86 rfl rfl Fit.arr rfl ?_
  refine J_w (w2 := (.inr (9, [.ref 1, .int 0, .ref 2, .ref 20, .ref 38, .ref 42, .ref 43, .ref 53, .int 0, .ref 63, .ref 73, .ref 76, .ref 80, .ref 87, .ref 89]) :: ([bA 700 (fun _ => 0)] ++ (toldC 2 T00 ++ (toldC 20 T00 ++ ([.inr (5, [.ref 1, .ref 39, .ref 40, .ref 41, .int 0, .int 0]), iA 701 (fun _ => 0), iA 701 (fun _ => 0), iA 701 (fun _ => 0)] ++ ([.inr (2, [.ref 38, .int 0, .ref 20, .int 0, .int 0, .int 0, .int (-1)])] ++ (celC 43 V00 ++ (celC 53 V00 ++ (celC 63 V00 ++ ([.inr (8, [.ref 2, .ref 63, .int 0, .int 0, .int 0, .ref 74, .ref 75]), iA 10 (fun _ => 0), lA 64 (fun _ => 0)] ++ (undC 76 0 (fun _ _ => 0) ++ (seeC 80 0 (-1) (fun _ _ => 0) ++ ([.inr (4, [.ref 2, .ref 43, .int 0, .ref 88]), iA 8 (fun _ => 0)] ++ ([iA 4 (fun _ => 0)] ++ []))))))))))))))) rfl ?_
  refine J_aload_n (pc := 169) D9_init_169 rfl ?_
  refine J_getf (pc := 170) D9_init_170 fl9_46 rfl rfl ?_
  refine J_aload_n (pc := 173) D9_init_173 rfl ?_
  refine J_getf (pc := 174) D9_init_174 fl9_18 rfl rfl ?_
  refine J_callV (pc := 177) (ι := [43, 44, 45, 46, 47, 48, 49, 50, 51, 52, 2, 3, 4, 5, 6, 7, 8, 9, 10, 11, 12, 13, 14, 15, 16, 17, 18, 19]) (ac := [.ref 10]) D9_init_177 m0_layDown_v t419 (c0_layDown (d := d) (V := V00) T00_w) (by omega) rfl rfl ⟨rfl, rfl⟩ rfl rfl rfl rfl rfl (fun r w' hq hl => ?_)
  obtain ⟨rfl, rfl⟩ := hq
  exact J_vret (pc := 180) D9_init_180 rfl ⟨rfl, rfl⟩
def sM0 (k : Nat) : Int32 := bif Nat.beq k 30 then -1 else bif Nat.beq k 58 then -1 else 0
theorem c10_init {d : Nat} : Tr (d + 2) 39 12131 m10_init [.ref 0] [.inr (10, df10)] (fun r w' => r = none ∧ ∃ M', w' = modW sM0 (fun _ _ => 0) (fun _ => 0, fun _ => 0) M' ∧ SI 0 (fun _ _ => 0) 0 (fun _ => (0, 0, 0, fun _ _ => 0)) M' 5 10 8) := by
  refine Tr.intro (by decide) rfl ?_
  have hW : WP [] [.inr (10, df10)] := by unfold WP; decide +kernel
  refine J_w (w2 := [] ++ [.inr (10, df10)]) rfl ?_
  refine J_aload_n (pc := 0) D10_init_0 rfl ?_
  refine J_objInit (pc := 1) D10_init_1 t1217 (by omega) rfl ?_
  refine J_aload_n (pc := 4) D10_init_4 rfl ?_
  refine J_sipush (pc := 5) (v := (nI 700)) D10_init_5 (by decide) ?_
  refine JP_newi (pc := 8) (L := 1) D10_init_8 rfl rfl rfl rfl rfl hW (wl1 (P := [])) (wr1 (P := [])) rfl rfl (fun hW => ?_)
  refine JP_putF (pc := 10) D10_init_10 fp10_7 rfl Fit.arr rfl hW (wr0 1 rfl) (fun hW => ?_)
  refine J_aload_n (pc := 13) D10_init_13 rfl ?_
  refine J_bipush (pc := 14) (v := (nI 12)) D10_init_14 (by decide) ?_
  refine JP_newi (pc := 16) (L := 2) D10_init_16 rfl rfl rfl rfl rfl hW (wl1 (P := [])) (wr1 (P := [])) rfl rfl (fun hW => ?_)
  refine JP_putF (pc := 18) D10_init_18 fp10_13 rfl Fit.arr rfl hW (wr0 2 rfl) (fun hW => ?_)
  refine J_aload_n (pc := 21) D10_init_21 rfl ?_
  refine J_bipush (pc := 22) (v := (nI 10)) D10_init_22 (by decide) ?_
  refine JP_newi (pc := 24) (L := 3) D10_init_24 rfl rfl rfl rfl rfl hW (wl1 (P := [])) (wr1 (P := [])) rfl rfl (fun hW => ?_)
  refine JP_putF (pc := 26) D10_init_26 fp10_16 rfl Fit.arr rfl hW (wr0 3 rfl) (fun hW => ?_)
  refine J_aload_n (pc := 29) D10_init_29 rfl ?_
  refine J_bipush (pc := 30) (v := (nI 10)) D10_init_30 (by decide) ?_
  refine JP_newi (pc := 32) (L := 4) D10_init_32 rfl rfl rfl rfl rfl hW (wl1 (P := [])) (wr1 (P := [])) rfl rfl (fun hW => ?_)
  refine JP_putF (pc := 34) D10_init_34 fp10_19 rfl Fit.arr rfl hW (wr0 4 rfl) (fun hW => ?_)
  refine J_aload_n (pc := 37) D10_init_37 rfl ?_
  refine J_bipush (pc := 38) (v := (nI 20)) D10_init_38 (by decide) ?_
  refine JP_newi (pc := 40) (L := 5) D10_init_40 rfl rfl rfl rfl rfl hW (wl1 (P := [])) (wr1 (P := [])) rfl rfl (fun hW => ?_)
  refine JP_putF (pc := 42) D10_init_42 fp10_22 rfl Fit.arr rfl hW (wr0 5 rfl) (fun hW => ?_)
  refine J_aload_n (pc := 45) D10_init_45 rfl ?_
  refine J_bipush (pc := 46) (v := (nI 20)) D10_init_46 (by decide) ?_
  refine JP_newi (pc := 48) (L := 6) D10_init_48 rfl rfl rfl rfl rfl hW (wl1 (P := [])) (wr1 (P := [])) rfl rfl (fun hW => ?_)
  refine JP_putF (pc := 50) D10_init_50 fp10_25 rfl Fit.arr rfl hW (wr0 6 rfl) (fun hW => ?_)
  refine J_aload_n (pc := 53) D10_init_53 rfl ?_
  refine J_bipush (pc := 54) (v := (nI 20)) D10_init_54 (by decide) ?_
  refine JP_newi (pc := 56) (L := 7) D10_init_56 rfl rfl rfl rfl rfl hW (wl1 (P := [])) (wr1 (P := [])) rfl rfl (fun hW => ?_)
  refine JP_putF (pc := 58) D10_init_58 fp10_28 rfl Fit.arr rfl hW (wr0 7 rfl) (fun hW => ?_)
  refine J_aload_n (pc := 61) D10_init_61 rfl ?_
  refine J_bipush (pc := 62) (v := (nI 20)) D10_init_62 (by decide) ?_
  refine JP_newi (pc := 64) (L := 8) D10_init_64 rfl rfl rfl rfl rfl hW (wl1 (P := [])) (wr1 (P := [])) rfl rfl (fun hW => ?_)
  refine JP_putF (pc := 66) D10_init_66 fp10_31 rfl Fit.arr rfl hW (wr0 8 rfl) (fun hW => ?_)
  refine J_aload_n (pc := 69) D10_init_69 rfl ?_
  refine J_bipush (pc := 70) (v := (nI 20)) D10_init_70 (by decide) ?_
  refine JP_newi (pc := 72) (L := 9) D10_init_72 rfl rfl rfl rfl rfl hW (wl1 (P := [])) (wr1 (P := [])) rfl rfl (fun hW => ?_)
  refine JP_putF (pc := 74) D10_init_74 fp10_34 rfl Fit.arr rfl hW (wr0 9 rfl) (fun hW => ?_)
  refine J_aload_n (pc := 77) D10_init_77 rfl ?_
  refine J_bipush (pc := 78) (v := (nI 20)) D10_init_78 (by decide) ?_
  refine JP_newi (pc := 80) (L := 10) D10_init_80 rfl rfl rfl rfl rfl hW (wl1 (P := [])) (wr1 (P := [])) rfl rfl (fun hW => ?_)
  refine JP_putF (pc := 82) D10_init_82 fp10_37 rfl Fit.arr rfl hW (wr0 10 rfl) (fun hW => ?_)
  refine J_aload_n (pc := 85) D10_init_85 rfl ?_
  refine J_bipush (pc := 86) (v := (nI 16)) D10_init_86 (by decide) ?_
  refine JP_newi (pc := 88) (L := 11) D10_init_88 rfl rfl rfl rfl rfl hW (wl1 (P := [])) (wr1 (P := [])) rfl rfl (fun hW => ?_)
  refine JP_putF (pc := 90) D10_init_90 fp10_40 rfl Fit.arr rfl hW (wr0 11 rfl) (fun hW => ?_)
  refine J_aload_n (pc := 93) D10_init_93 rfl ?_
  refine J_bipush (pc := 94) (v := (nI 16)) D10_init_94 (by decide) ?_
  refine JP_newi (pc := 96) (L := 12) D10_init_96 rfl rfl rfl rfl rfl hW (wl1 (P := [])) (wr1 (P := [])) rfl rfl (fun hW => ?_)
  refine JP_putF (pc := 98) D10_init_98 fp10_43 rfl Fit.arr rfl hW (wr0 12 rfl) (fun hW => ?_)
  refine J_aload_n (pc := 101) D10_init_101 rfl ?_
  refine J_bipush (pc := 102) (v := (nI 16)) D10_init_102 (by decide) ?_
  refine JP_newi (pc := 104) (L := 13) D10_init_104 rfl rfl rfl rfl rfl hW (wl1 (P := [])) (wr1 (P := [])) rfl rfl (fun hW => ?_)
  refine JP_putF (pc := 106) D10_init_106 fp10_46 rfl Fit.arr rfl hW (wr0 13 rfl) (fun hW => ?_)
  refine J_aload_n (pc := 109) D10_init_109 rfl ?_
  refine J_bipush (pc := 110) (v := (nI 16)) D10_init_110 (by decide) ?_
  refine JP_newi (pc := 112) (L := 14) D10_init_112 rfl rfl rfl rfl rfl hW (wl1 (P := [])) (wr1 (P := [])) rfl rfl (fun hW => ?_)
  refine JP_putF (pc := 114) D10_init_114 fp10_49 rfl Fit.arr rfl hW (wr0 14 rfl) (fun hW => ?_)
  refine J_aload_n (pc := 117) D10_init_117 rfl ?_
  refine J_bipush (pc := 118) (v := (nI 6)) D10_init_118 (by decide) ?_
  refine JP_newi (pc := 120) (L := 15) D10_init_120 rfl rfl rfl rfl rfl hW (wl1 (P := [])) (wr1 (P := [])) rfl rfl (fun hW => ?_)
  refine JP_putF (pc := 122) D10_init_122 fp10_52 rfl Fit.arr rfl hW (wr0 15 rfl) (fun hW => ?_)
  refine J_aload_n (pc := 125) D10_init_125 rfl ?_
  refine J_bipush (pc := 126) (v := (nI 6)) D10_init_126 (by decide) ?_
  refine JP_newi (pc := 128) (L := 16) D10_init_128 rfl rfl rfl rfl rfl hW (wl1 (P := [])) (wr1 (P := [])) rfl rfl (fun hW => ?_)
  refine JP_putF (pc := 130) D10_init_130 fp10_55 rfl Fit.arr rfl hW (wr0 16 rfl) (fun hW => ?_)
  refine J_aload_n (pc := 133) D10_init_133 rfl ?_
  refine J_sipush (pc := 134) (v := (nI 128)) D10_init_134 (by decide) ?_
  refine JP_newi (pc := 137) (L := 17) D10_init_137 rfl rfl rfl rfl rfl hW (wl1 (P := [])) (wr1 (P := [])) rfl rfl (fun hW => ?_)
  refine JP_putF (pc := 139) D10_init_139 fp10_58 rfl Fit.arr rfl hW (wr0 17 rfl) (fun hW => ?_)
  refine J_aload_n (pc := 142) D10_init_142 rfl ?_
  refine J_sipush (pc := 143) (v := (nI 128)) D10_init_143 (by decide) ?_
  refine JP_newi (pc := 146) (L := 18) D10_init_146 rfl rfl rfl rfl rfl hW (wl1 (P := [])) (wr1 (P := [])) rfl rfl (fun hW => ?_)
  refine JP_putF (pc := 148) D10_init_148 fp10_61 rfl Fit.arr rfl hW (wr0 18 rfl) (fun hW => ?_)
  refine J_aload_n (pc := 151) D10_init_151 rfl ?_
  refine J_iconst (pc := 152) (v := (-1)) D10_init_152 (by decide) ?_
  refine JP_putf (pc := 153) D10_init_153 fp10_64 Fit.int rfl hW rfl (fun hW => ?_)
  refine J_aload_n (pc := 156) D10_init_156 rfl ?_
  refine J_bipush (pc := 157) (v := (nI 7)) D10_init_157 (by decide) ?_
  refine JP_newl (pc := 159) (L := 19) D10_init_159 rfl rfl rfl rfl rfl hW (wl1 (P := [])) (wr1 (P := [])) rfl rfl (fun hW => ?_)
  refine JP_putF (pc := 161) D10_init_161 fp10_68 rfl Fit.arr rfl hW (wr0 19 rfl) (fun hW => ?_)
  refine J_aload_n (pc := 164) D10_init_164 rfl ?_
  refine J_bipush (pc := 165) (v := (nI 64)) D10_init_165 (by decide) ?_
  refine JP_newl (pc := 167) (L := 20) D10_init_167 rfl rfl rfl rfl rfl hW (wl1 (P := [])) (wr1 (P := [])) rfl rfl (fun hW => ?_)
  refine JP_putF (pc := 169) D10_init_169 fp10_72 rfl Fit.arr rfl hW (wr0 20 rfl) (fun hW => ?_)
  refine J_aload_n (pc := 172) D10_init_172 rfl ?_
  refine J_bipush (pc := 173) (v := (nI 23)) D10_init_173 (by decide) ?_
  refine JP_newi (pc := 175) (L := 21) D10_init_175 rfl rfl rfl rfl rfl hW (wl1 (P := [])) (wr1 (P := [])) rfl rfl (fun hW => ?_)
  refine JP_putF (pc := 177) D10_init_177 fp10_75 rfl Fit.arr rfl hW (wr0 21 rfl) (fun hW => ?_)
  refine J_aload_n (pc := 180) D10_init_180 rfl ?_
  refine J_bipush (pc := 181) (v := (nI 23)) D10_init_181 (by decide) ?_
  refine JP_newi (pc := 183) (L := 22) D10_init_183 rfl rfl rfl rfl rfl hW (wl1 (P := [])) (wr1 (P := [])) rfl rfl (fun hW => ?_)
  refine JP_putF (pc := 185) D10_init_185 fp10_78 rfl Fit.arr rfl hW (wr0 22 rfl) (fun hW => ?_)
  refine J_aload_n (pc := 188) D10_init_188 rfl ?_
  refine J_bipush (pc := 189) (v := (nI 23)) D10_init_189 (by decide) ?_
  refine JP_newi (pc := 191) (L := 23) D10_init_191 rfl rfl rfl rfl rfl hW (wl1 (P := [])) (wr1 (P := [])) rfl rfl (fun hW => ?_)
  refine JP_putF (pc := 193) D10_init_193 fp10_81 rfl Fit.arr rfl hW (wr0 23 rfl) (fun hW => ?_)
  refine J_aload_n (pc := 196) D10_init_196 rfl ?_
  refine J_bipush (pc := 197) (v := (nI 115)) D10_init_197 (by decide) ?_
  refine JP_newi (pc := 199) (L := 24) D10_init_199 rfl rfl rfl rfl rfl hW (wl1 (P := [])) (wr1 (P := [])) rfl rfl (fun hW => ?_)
  refine JP_putF (pc := 201) D10_init_201 fp10_84 rfl Fit.arr rfl hW (wr0 24 rfl) (fun hW => ?_)
  refine J_aload_n (pc := 204) D10_init_204 rfl ?_
  refine J_sipush (pc := 205) (v := (nI 230)) D10_init_205 (by decide) ?_
  refine JP_newi (pc := 208) (L := 25) D10_init_208 rfl rfl rfl rfl rfl hW (wl1 (P := [])) (wr1 (P := [])) rfl rfl (fun hW => ?_)
  refine JP_putF (pc := 210) D10_init_210 fp10_87 rfl Fit.arr rfl hW (wr0 25 rfl) (fun hW => ?_)
  refine J_aload_n (pc := 213) D10_init_213 rfl ?_
  refine J_sipush (pc := 214) (v := (nI 230)) D10_init_214 (by decide) ?_
  refine JP_newi (pc := 217) (L := 26) D10_init_217 rfl rfl rfl rfl rfl hW (wl1 (P := [])) (wr1 (P := [])) rfl rfl (fun hW => ?_)
  refine JP_putF (pc := 219) D10_init_219 fp10_90 rfl Fit.arr rfl hW (wr0 26 rfl) (fun hW => ?_)
  refine J_aload_n (pc := 222) D10_init_222 rfl ?_
  refine J_sipush (pc := 223) (v := (nI 230)) D10_init_223 (by decide) ?_
  refine JP_newi (pc := 226) (L := 27) D10_init_226 rfl rfl rfl rfl rfl hW (wl1 (P := [])) (wr1 (P := [])) rfl rfl (fun hW => ?_)
  refine JP_putF (pc := 228) D10_init_228 fp10_93 rfl Fit.arr rfl hW (wr0 27 rfl) (fun hW => ?_)
  refine J_aload_n (pc := 231) D10_init_231 rfl ?_
  refine J_sipush (pc := 232) (v := (nI 230)) D10_init_232 (by decide) ?_
  refine JP_newi (pc := 235) (L := 28) D10_init_235 rfl rfl rfl rfl rfl hW (wl1 (P := [])) (wr1 (P := [])) rfl rfl (fun hW => ?_)
  refine JP_putF (pc := 237) D10_init_237 fp10_96 rfl Fit.arr rfl hW (wr0 28 rfl) (fun hW => ?_)
  refine J_aload_n (pc := 240) D10_init_240 rfl ?_
  refine J_sipush (pc := 241) (v := (nI 230)) D10_init_241 (by decide) ?_
  refine JP_newi (pc := 244) (L := 29) D10_init_244 rfl rfl rfl rfl rfl hW (wl1 (P := [])) (wr1 (P := [])) rfl rfl (fun hW => ?_)
  refine JP_putF (pc := 246) D10_init_246 fp10_99 rfl Fit.arr rfl hW (wr0 29 rfl) (fun hW => ?_)
  refine J_aload_n (pc := 249) D10_init_249 rfl ?_
  refine J_sipush (pc := 250) (v := (nI 184)) D10_init_250 (by decide) ?_
  refine JP_newi (pc := 253) (L := 30) D10_init_253 rfl rfl rfl rfl rfl hW (wl1 (P := [])) (wr1 (P := [])) rfl rfl (fun hW => ?_)
  refine JP_putF (pc := 255) D10_init_255 fp10_102 rfl Fit.arr rfl hW (wr0 30 rfl) (fun hW => ?_)
  refine J_aload_n (pc := 258) D10_init_258 rfl ?_
  refine J_bipush (pc := 259) (v := (nI 10)) D10_init_259 (by decide) ?_
  refine JP_newi (pc := 261) (L := 31) D10_init_261 rfl rfl rfl rfl rfl hW (wl1 (P := [])) (wr1 (P := [])) rfl rfl (fun hW => ?_)
  refine JP_putF (pc := 263) D10_init_263 fp10_105 rfl Fit.arr rfl hW (wr0 31 rfl) (fun hW => ?_)
  refine J_aload_n (pc := 266) D10_init_266 rfl ?_
  refine J_iconst (pc := 267) (v := (nI 4)) D10_init_267 (by decide) ?_
  refine JP_newi (pc := 268) (L := 32) D10_init_268 rfl rfl rfl rfl rfl hW (wl1 (P := [])) (wr1 (P := [])) rfl rfl (fun hW => ?_)
  refine JP_putF (pc := 270) D10_init_270 fp10_108 rfl Fit.arr rfl hW (wr0 32 rfl) (fun hW => ?_)
  refine J_aload_n (pc := 273) D10_init_273 rfl ?_
  refine J_bipush (pc := 274) (v := (nI 8)) D10_init_274 (by decide) ?_
  refine JP_newi (pc := 276) (L := 33) D10_init_276 rfl rfl rfl rfl rfl hW (wl1 (P := [])) (wr1 (P := [])) rfl rfl (fun hW => ?_)
  refine JP_putF (pc := 278) D10_init_278 fp10_111 rfl Fit.arr rfl hW (wr0 33 rfl) (fun hW => ?_)
  refine J_aload_n (pc := 281) D10_init_281 rfl ?_
  refine J_sipush (pc := 282) (v := (nI 9216)) D10_init_282 (by decide) ?_
  refine JP_newi (pc := 285) (L := 34) D10_init_285 rfl rfl rfl rfl rfl hW (wl1 (P := [])) (wr1 (P := [])) rfl rfl (fun hW => ?_)
  refine JP_putF (pc := 287) D10_init_287 fp10_114 rfl Fit.arr rfl hW (wr0 34 rfl) (fun hW => ?_)
  refine J_aload_n (pc := 290) D10_init_290 rfl ?_
  refine J_iconst (pc := 291) (v := (-1)) D10_init_291 (by decide) ?_
  refine JP_putf (pc := 292) D10_init_292 fp10_117 Fit.int rfl hW rfl (fun hW => ?_)
  refine J_aload_n (pc := 295) D10_init_295 rfl ?_
  refine J_bipush (pc := 296) (v := (nI 24)) D10_init_296 (by decide) ?_
  refine JP_newi (pc := 298) (L := 35) D10_init_298 rfl rfl rfl rfl rfl hW (wl1 (P := [])) (wr1 (P := [])) rfl rfl (fun hW => ?_)
  refine JP_putF (pc := 300) D10_init_300 fp10_120 rfl Fit.arr rfl hW (wr0 35 rfl) (fun hW => ?_)
  refine J_aload_n (pc := 303) D10_init_303 rfl ?_
  refine J_bipush (pc := 304) (v := (nI 24)) D10_init_304 (by decide) ?_
  refine JP_newi (pc := 306) (L := 36) D10_init_306 rfl rfl rfl rfl rfl hW (wl1 (P := [])) (wr1 (P := [])) rfl rfl (fun hW => ?_)
  refine JP_putF (pc := 308) D10_init_308 fp10_123 rfl Fit.arr rfl hW (wr0 36 rfl) (fun hW => ?_)
  refine J_aload_n (pc := 311) D10_init_311 rfl ?_
  refine J_bipush (pc := 312) (v := (nI 24)) D10_init_312 (by decide) ?_
  refine JP_newz (pc := 314) (L := 37) D10_init_314 rfl rfl rfl rfl rfl hW (wl1 (P := [])) (wr1 (P := [])) rfl rfl (fun hW => ?_)
  refine JP_putF (pc := 316) D10_init_316 fp10_126 rfl Fit.arr rfl hW (wr0 37 rfl) (fun hW => ?_)
  refine J_aload_n (pc := 319) D10_init_319 rfl ?_
  refine J_bipush (pc := 320) (v := (nI 24)) D10_init_320 (by decide) ?_
  refine JP_newi (pc := 322) (L := 38) D10_init_322 rfl rfl rfl rfl rfl hW (wl1 (P := [])) (wr1 (P := [])) rfl rfl (fun hW => ?_)
  refine JP_putF (pc := 324) D10_init_324 fp10_130 rfl Fit.arr rfl hW (wr0 38 rfl) (fun hW => ?_)
  refine J_aload_n (pc := 327) D10_init_327 rfl ?_
  refine J_bipush (pc := 328) (v := (nI 24)) D10_init_328 (by decide) ?_
  refine JP_newz (pc := 330) (L := 39) D10_init_330 rfl rfl rfl rfl rfl hW (wl1 (P := [])) (wr1 (P := [])) rfl rfl (fun hW => ?_)
  refine JP_putF (pc := 332) D10_init_332 fp10_133 rfl Fit.arr rfl hW (wr0 39 rfl) (fun hW => ?_)
  refine J_aload_n (pc := 335) D10_init_335 rfl ?_
  refine J_w (w2 := modW sM0 (fun _ _ => 0) (fun _ => 0, fun _ => 0) (fun _ => (0, 0, 0, fun _ _ => 0))) rfl ?_
  refine J_callVT (pc := 336) (ac := []) D10_init_336 m10_begins_v t1218 (c10_begins (d := d) rfl T00_w) (by omega) rfl rfl rfl rfl rfl rfl rfl (fun r w' hq hl => ?_)
  obtain ⟨rfl, hq⟩ := hq
  exact J_vret (pc := 339) D10_init_339 rfl ⟨rfl, hq⟩
