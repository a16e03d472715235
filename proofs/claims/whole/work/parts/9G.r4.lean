/-! THE LAW'S START (own program mod_r4.py) -/
theorem SubF.mid (P wc R : List EC) : SubF (P ++ (wc.map (rcF (fun k => P.length + k)) ++ R)) (fun k => P.length + k) wc := ⟨fun k c h => by
  rw [List.getElem?_append_right (Nat.le_add_right _ _), Nat.add_sub_cancel_left, List.getElem?_append_left (by rw [List.length_map]; exact (List.getElem?_eq_some_iff.mp h).1), List.getElem?_map, h]; rfl, fun _ _ _ _ h => by simpa using h⟩
theorem PutF.mid {P wc w' R : List EC} (hl : w'.length = wc.length) : PutF (P ++ (wc.map (rcF (fun k => P.length + k)) ++ R)) (fun k => P.length + k) w' (P ++ (w'.map (rcF (fun k => P.length + k)) ++ R)) := ⟨by simp only [List.length_append, List.length_map, hl], fun k c h => by
  rw [List.getElem?_append_right (Nat.le_add_right _ _), Nat.add_sub_cancel_left, List.getElem?_append_left (by rw [List.length_map]; exact (List.getElem?_eq_some_iff.mp h).1), List.getElem?_map, h]; rfl, fun i hi => by
  by_cases h : i < P.length
  · rw [List.getElem?_append_left h, List.getElem?_append_left h]
  · have : w'.length ≤ i - P.length := Nat.not_lt.mp (fun q => hi (i - P.length) q (by dsimp only; omega))
    rw [List.getElem?_append_right (by omega), List.getElem?_append_right (by rw [List.length_map]; exact this), List.getElem?_append_right (by omega), List.getElem?_append_right (by rw [List.length_map, ← hl]; exact this), List.length_map, List.length_map, hl]⟩
abbrev Vb0 : CV := layF T00 0 V00
def tcB0 : List EC := tcZ (nI 0) 0 T00 Vb0 (V00, (0, 0, 0), (fun _ => 0), (fun _ => 0), 1, 29) (0, fun _ _ => 0) (0, -1, fun _ _ => 0) (1, 19, 0, fun _ => 0) (fun _ => 0) V00 (0, 0, (fun _ => 0), (fun _ => 0), (fun _ => 0), fun _ => 0) (0, 72, 0, 0, 0, -1) T00
def io0 : List Nat := [0, 2, 3, 4, 5, 6, 7, 8, 9, 10, 11, 12, 13, 14, 15, 16, 17, 18, 19, 43, 44, 45, 46, 47, 48, 49, 50, 51, 52, 63, 64, 65, 66, 67, 68, 69, 70, 71, 72, 73, 74, 75, 76, 77, 78, 79, 80, 81, 82, 83, 84, 85, 86, 87, 88, 89, 53, 54, 55, 56, 57, 58, 59, 60, 61, 62, 38, 1, 39, 40, 41, 42, 20, 21, 22, 23, 24, 25, 26, 27, 28, 29, 30, 31, 32, 33, 34, 35, 36, 37]
theorem tc0_sub : Sub (tc0 Vb0) io0 tcB0 := ⟨rfl, rfl⟩
theorem tcB0_l : tcB0.length = 90 := rfl
theorem tcB0_w : wfw 90 tcB0 = true := rfl
/-- the law's locals at the loop's head; the long array lies at 130 -/
abbrev lsL (i : Nat) : List (Nat × Value) := [(4, .int (nI i)), (3, .ref 130), (2, .ref 90), (1, .ref 0), (0, .retAddr 1000)]
set_option maxRecDepth 100000 in
theorem L_start {L : Nat} {xs : Nat → Int32} (kk : ∀ M', SI 0 (fun _ _ => 0) 0 (fun _ => (0, 0, 0, fun _ _ => 0)) M' 5 10 8 → JL L xs 23 (lsL 0) [] (tcB0 ++ ((modW sM0 (fun _ _ => 0) (fun _ => 0, fun _ => 0) M').map (rcF (fun k => 90 + k)) ++ [lA 1 (fun _ => 0)])) 131 16118) : JL L xs 0 [(0, .retAddr 1000)] [] [] 0 0 := by
  refine L_new (pc := 0) DL_0 ko9 t25 t26 t1 dm9 dc9 rfl rfl rfl rfl rfl ?_
  refine L_dup (pc := 3) DL_3 rfl ?_
  refine L_init (pc := 4) (w0 := []) (dc := 4) DL_4 m9_init_i t27 (c9_init (d := 0)) (fun _ => rfl) (by omega) rfl rfl rfl rfl (by omega) (by omega) (fun r w' hq hl => ?_)
  obtain ⟨rfl, rfl⟩ := hq
  refine ⟨rfl, ?_⟩
  refine L_w (w2 := tc0 Vb0) (by
    show (tc0 Vb0).map (rcF (fun k => 0 + k)) = _
    rw [show (fun k => 0 + k) = (fun k : Nat => k) from funext fun k => Nat.zero_add k]
    exact (List.map_congr_left (fun c _ => rcF_id c)).trans (List.map_id _)) ?_
  refine L_astore_n (pc := 7) DL_7 rfl ?_
  refine L_lk [(1, .ref 0), (0, .retAddr 1000)] rfl ?_
  refine L_sub (ρ := rn io0) tc0_sub.f (ls2 := [(1, .ref 0), (0, .retAddr 1000)]) (st2 := []) rfl rfl ?_
  refine L_new (pc := 8) DL_8 ko10 t1212 t1213 t12 dm10 dc10 tcB0_w rfl rfl rfl rfl ?_
  refine L_dup (pc := 11) DL_11 rfl ?_
  refine L_init (pc := 12) (w0 := tcB0) (dc := 2) DL_12 m10_init_i t1214 (c10_init (d := 0)) (fun _ => rfl) (by omega) rfl tcB0_w rfl rfl (by omega) (by omega) (fun r w' hq hl => ?_)
  obtain ⟨rfl, M', rfl, hM⟩ := hq
  refine ⟨rfl, ?_⟩
  refine L_w (w2 := tcB0 ++ (modW sM0 (fun _ _ => 0) (fun _ => 0, fun _ => 0) M').map (rcF (fun k => 90 + k))) rfl ?_
  refine L_astore_n (pc := 15) DL_15 rfl ?_
  refine L_iconst (pc := 16) (v := nI 1) DL_16 (by decide) ?_
  refine L_newl (pc := 17) DL_17 rfl rfl rfl rfl rfl rfl rfl rfl ?_
  rw [List.append_assoc]
  refine L_astore_n (pc := 19) DL_19 rfl ?_
  refine L_iconst (pc := 20) (v := nI 0) DL_20 (by decide) ?_
  refine L_istore (pc := 21) DL_21 rfl ?_
  refine L_lk (lsL 0) rfl ?_
  exact kk M' hM
