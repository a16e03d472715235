/-! constructors over any prefix (own; walks by program mod_r1.py) -/
def WP (P t : List EC) : Prop := wfw (P.length + t.length) (P ++ t) = true
theorem wfv_mono {a b : Nat} (h : a ≤ b) {v : Value} (hv : wfv a v = true) : wfv b v = true := by
  cases v <;> first | rfl | exact Nat.ble_eq_true_of_le (Nat.le_trans (Nat.le_of_ble_eq_true hv) h)
theorem wfc_mono {a b : Nat} (h : a ≤ b) {c : EC} (hc : wfc a c = true) : wfc b c = true := by
  cases c with
  | inl a => rfl
  | inr o => exact List.all_eq_true.mpr (fun v hv => wfv_mono h (List.all_eq_true.mp hc v hv))
theorem wfw_mono {a b : Nat} (h : a ≤ b) {w : List EC} (hw : wfw a w = true) : wfw b w = true := List.all_eq_true.mpr (fun c hc => wfc_mono h (List.all_eq_true.mp hw c hc))
theorem wfl_mono {a b : Nat} (h : a ≤ b) {ls : List (Nat × Value)} (hw : wfl a ls = true) : wfl b ls = true := List.all_eq_true.mpr (fun c hc => wfv_mono h (List.all_eq_true.mp hw c hc))
theorem wfs_mono {a b : Nat} (h : a ≤ b) {st : List Value} (hw : st.all (wfv a) = true) : st.all (wfv b) = true := List.all_eq_true.mpr (fun c hc => wfv_mono h (List.all_eq_true.mp hw c hc))
theorem WP.app {P t c : List EC} (h : WP P t) (hc : wfw (P.length + t.length + c.length) c = true) : WP P (t ++ c) := by
  unfold WP
  rw [← List.append_assoc, List.length_append, ← Nat.add_assoc]
  unfold wfw at hc ⊢
  rw [List.all_append, hc, Bool.and_true]
  exact wfw_mono (by omega) h
theorem WP.put {P t : List EC} {ci kf : Nat} {fs : List Value} {v : Value} (h : WP P (.inr (ci, fs) :: t)) (hv : wfv (P.length + (t.length + 1)) v = true) : WP P (.inr (ci, fs.set kf v) :: t) := by
  unfold WP wfw at h ⊢
  rw [List.all_append, List.all_cons, Bool.and_eq_true, Bool.and_eq_true] at h ⊢
  refine ⟨h.1, List.all_eq_true.mpr (fun x hx => ?_), h.2.2⟩
  rcases List.mem_or_eq_of_mem_set hx with h1 | h1
  · exact List.all_eq_true.mp h.2.1 x h1
  · rw [h1]
    exact hv
theorem WP.len {P t : List EC} (h : WP P t) {L : Nat} (hl : t.length = L) : wfw (P ++ t).length (P ++ t) = true ∧ (P ++ t).length = P.length + L := by
  rw [List.length_append, hl]
  exact ⟨by unfold WP at h; rw [hl] at h; exact h, rfl⟩
theorem wr0 {P : List EC} {L : Nat} (j : Nat) (h : Nat.blt j L = true) : wfv (P.length + L) (.ref (P.length + j)) = true := Nat.ble_eq_true_of_le (Nat.add_lt_add_left (Nat.le_of_ble_eq_true h) _)
theorem wra {P : List EC} {L a : Nat} (h : a < P.length) : wfv (P.length + L) (.ref a) = true := Nat.ble_eq_true_of_le (Nat.lt_of_lt_of_le h (Nat.le_add_right _ _))
theorem wr1 {P : List EC} : [Value.ref P.length].all (wfv (P.length + 1)) = true := List.all_eq_true.mpr (fun x hx => by
  rw [List.mem_singleton.mp hx]
  exact wr0 0 rfl)
theorem wl1 {P : List EC} : wfl (P.length + 1) [(0, .ref P.length)] = true := List.all_eq_true.mpr (fun x hx => by
  rw [List.mem_singleton.mp hx]
  exact wr0 0 rfl)
theorem wl2 {P : List EC} {a : Nat} (ha : a < P.length) : wfl (P.length + 1) [(0, .ref P.length), (1, .ref a)] = true := by
  refine List.all_eq_true.mpr (fun x hx => ?_)
  simp only [List.mem_cons, List.not_mem_nil, or_false] at hx
  rcases hx with rfl | rfl
  · exact wr0 0 rfl
  · exact wra ha
theorem wl3 {P : List EC} {a b : Nat} (ha : a < P.length) (hb : b < P.length) : wfl (P.length + 1) [(0, .ref P.length), (1, .ref a), (2, .ref b)] = true := by
  refine List.all_eq_true.mpr (fun x hx => ?_)
  simp only [List.mem_cons, List.not_mem_nil, or_false] at hx
  rcases hx with rfl | rfl | rfl
  · exact wr0 0 rfl
  · exact wra ha
  · exact wra hb
section JP
variable {M : JM} {d mc ms n0 pc k n : Nat} {ls : List (Nat × Value)} {st : List Value} {Q : Option Value → List EC → Prop} {P t : List EC}
theorem JP_newa {N L : Nat} {x : Int32} {at9 : ArrayType} {ty : FieldType} {a0 : vp_A} (tt : Nat) (hd : decode M.2.1 pc = .ok (.newarray at9, 2)) (hty : newarray.typeOf at9 = ty) (hca : Cond.arrayClass ty ∈ T0) (ht : ∀ aC, (tys aC)[tt]? = some (aC ty, ty)) (ha : ∀ cA : ClassId, vp_cell cA a0 = arrV cA N (fun _ => defaultValue ty)) (hR : ∀ U c1 c2, va_RA U c1 ty → va_RA U c2 ty → c1 = c2) (hx : x = nI N) (hN : Nat.ble (N * componentBytes ty) 536870912 = true) (hN2 : Nat.blt N 2147483648 = true) (hl : t.length = L) (hL : Nat.ble 1 L = true) (hW : WP P t) (hA : wfl (P.length + 1) ls = true) (hB : st.all (wfv (P.length + 1)) = true) (hkm : Nat.ble (k + 1) mc = true) (hnm : Nat.ble (n + N) ms = true)
    (kk : WP P (t ++ [.inl (ty, a0)]) → J M d mc ms n0 (pc + 2) ls (.ref (P.length + L) :: st) (P ++ (t ++ [.inl (ty, a0)])) (k + 1) (n + N) Q) : J M d mc ms n0 pc ls (.int x :: st) (P ++ t) k n Q := by
  obtain ⟨h1, h2⟩ := hW.len hl
  have h3 := Nat.le_of_ble_eq_true hL
  refine J_newa tt hd hty hca ht ha hR hx hN hN2 h1 (by rw [h2]; exact wfl_mono (by omega) hA) (by rw [h2]; exact wfs_mono (by omega) hB) hkm hnm ?_
  rw [h2, List.append_assoc]
  exact kk (hW.app (c := [.inl (ty, a0)]) rfl)
theorem JP_newi {N L : Nat} {x : Int32} (hd : decode M.2.1 pc = .ok (.newarray .int, 2)) (hx : x = nI N) (hN : Nat.ble (N * 4) 536870912 = true) (hN2 : Nat.blt N 2147483648 = true) (hl : t.length = L) (hL : Nat.ble 1 L = true) (hW : WP P t) (hA : wfl (P.length + 1) ls = true) (hB : st.all (wfv (P.length + 1)) = true) (hkm : Nat.ble (k + 1) mc = true) (hnm : Nat.ble (n + N) ms = true)
    (kk : WP P (t ++ [iA N (fun _ => 0)]) → J M d mc ms n0 (pc + 2) ls (.ref (P.length + L) :: st) (P ++ (t ++ [iA N (fun _ => 0)])) (k + 1) (n + N) Q) : J M d mc ms n0 pc ls (.int x :: st) (P ++ t) k n Q := JP_newa (ty := .int) (a0 := (N, .inl (fun _ => 0))) 0 hd rfl t81 (fun _ => rfl) (fun _ => rfl) (fun U c1 c2 h1 h2 => Option.some.inj ((va_nm_int h1).symm.trans (va_nm_int h2))) hx hN hN2 hl hL hW hA hB hkm hnm kk
theorem JP_newb {N L : Nat} {x : Int32} (hd : decode M.2.1 pc = .ok (.newarray .byte, 2)) (hx : x = nI N) (hN : Nat.ble (N * 1) 536870912 = true) (hN2 : Nat.blt N 2147483648 = true) (hl : t.length = L) (hL : Nat.ble 1 L = true) (hW : WP P t) (hA : wfl (P.length + 1) ls = true) (hB : st.all (wfv (P.length + 1)) = true) (hkm : Nat.ble (k + 1) mc = true) (hnm : Nat.ble (n + N) ms = true)
    (kk : WP P (t ++ [bA N (fun _ => 0)]) → J M d mc ms n0 (pc + 2) ls (.ref (P.length + L) :: st) (P ++ (t ++ [bA N (fun _ => 0)])) (k + 1) (n + N) Q) : J M d mc ms n0 pc ls (.int x :: st) (P ++ t) k n Q := JP_newa (ty := .byte) (a0 := (N, .inl (fun _ => 0))) 1 hd rfl t80 (fun _ => rfl) (fun _ => rfl) (fun U c1 c2 h1 h2 => Option.some.inj ((va_nm_byte h1).symm.trans (va_nm_byte h2))) hx hN hN2 hl hL hW hA hB hkm hnm kk
theorem JP_newz {N L : Nat} {x : Int32} (hd : decode M.2.1 pc = .ok (.newarray .boolean, 2)) (hx : x = nI N) (hN : Nat.ble (N * 1) 536870912 = true) (hN2 : Nat.blt N 2147483648 = true) (hl : t.length = L) (hL : Nat.ble 1 L = true) (hW : WP P t) (hA : wfl (P.length + 1) ls = true) (hB : st.all (wfv (P.length + 1)) = true) (hkm : Nat.ble (k + 1) mc = true) (hnm : Nat.ble (n + N) ms = true)
    (kk : WP P (t ++ [zA N (fun _ => 0)]) → J M d mc ms n0 (pc + 2) ls (.ref (P.length + L) :: st) (P ++ (t ++ [zA N (fun _ => 0)])) (k + 1) (n + N) Q) : J M d mc ms n0 pc ls (.int x :: st) (P ++ t) k n Q := JP_newa (ty := .boolean) (a0 := (N, .inl (fun _ => 0))) 2 hd rfl t397 (fun _ => rfl) (fun _ => rfl) (fun U c1 c2 h1 h2 => Option.some.inj ((va_nm_boolean h1).symm.trans (va_nm_boolean h2))) hx hN hN2 hl hL hW hA hB hkm hnm kk
theorem JP_newl {N L : Nat} {x : Int32} (hd : decode M.2.1 pc = .ok (.newarray .long, 2)) (hx : x = nI N) (hN : Nat.ble (N * 8) 536870912 = true) (hN2 : Nat.blt N 2147483648 = true) (hl : t.length = L) (hL : Nat.ble 1 L = true) (hW : WP P t) (hA : wfl (P.length + 1) ls = true) (hB : st.all (wfv (P.length + 1)) = true) (hkm : Nat.ble (k + 1) mc = true) (hnm : Nat.ble (n + N) ms = true)
    (kk : WP P (t ++ [lA N (fun _ => 0)]) → J M d mc ms n0 (pc + 2) ls (.ref (P.length + L) :: st) (P ++ (t ++ [lA N (fun _ => 0)])) (k + 1) (n + N) Q) : J M d mc ms n0 pc ls (.int x :: st) (P ++ t) k n Q := JP_newa (ty := .long) (a0 := (N, .inr (.inl (fun _ => 0)))) 3 hd rfl t343 (fun _ => rfl) (fun _ => rfl) (fun U c1 c2 h1 h2 => Option.some.inj ((va_nm_long h1).symm.trans (va_nm_long h2))) hx hN hN2 hl hL hW hA hB hkm hnm kk
theorem JP_putF {idx ci kf : Nat} {fs : List Value} {v : Value} {ty : FieldType} (hd : decode M.2.1 pc = .ok (.putfield idx, 3)) (hk : FP M.1.cls idx ci kf ty true) (hi : M.1.name = "<init>") (hv : Fit ty v) (hf : Nat.blt kf fs.length = true) (hW : WP P (.inr (ci, fs) :: t)) (hvw : wfv (P.length + (t.length + 1)) v = true)
    (kk : WP P (.inr (ci, fs.set kf v) :: t) → J M d mc ms n0 (pc + 3) ls st (P ++ .inr (ci, fs.set kf v) :: t) k n Q) : J M d mc ms n0 pc ls (v :: .ref P.length :: st) (P ++ .inr (ci, fs) :: t) k n Q := by
  refine J_putF hd hk hi (by rw [List.getElem?_append_right (Nat.le_refl _), Nat.sub_self]; rfl) hv hf ?_
  rw [List.set_append_right _ _ (Nat.le_refl _), Nat.sub_self]
  exact kk (hW.put hvw)
theorem JP_putf {idx ci kf : Nat} {fs : List Value} {v : Value} {ty : FieldType} (hd : decode M.2.1 pc = .ok (.putfield idx, 3)) (hk : FP M.1.cls idx ci kf ty false) (hv : Fit ty v) (hf : Nat.blt kf fs.length = true) (hW : WP P (.inr (ci, fs) :: t)) (hvw : wfv (P.length + (t.length + 1)) v = true)
    (kk : WP P (.inr (ci, fs.set kf v) :: t) → J M d mc ms n0 (pc + 3) ls st (P ++ .inr (ci, fs.set kf v) :: t) k n Q) : J M d mc ms n0 pc ls (v :: .ref P.length :: st) (P ++ .inr (ci, fs) :: t) k n Q := by
  refine J_putf hd hk (by rw [List.getElem?_append_right (Nat.le_refl _), Nat.sub_self]; rfl) hv hf ?_
  rw [List.set_append_right _ _ (Nat.le_refl _), Nat.sub_self]
  exact kk (hW.put hvw)
theorem JP_getf {idx ci kf : Nat} {fs : List Value} {v : Value} (hd : decode M.2.1 pc = .ok (.getfield idx, 3)) (hk : FL M.1.cls idx ci kf) (hv : fs[kf]? = some v) (kk : J M d mc ms n0 (pc + 3) ls (v :: st) (P ++ .inr (ci, fs) :: t) k n Q) : J M d mc ms n0 pc ls (.ref P.length :: st) (P ++ .inr (ci, fs) :: t) k n Q := J_getf hd hk (by rw [List.getElem?_append_right (Nat.le_refl _), Nat.sub_self]; rfl) hv kk
theorem JP_new {idx ci N L : Nat} {C : String} {T : u_T} {ty : Nat → FieldType} {fs : List Value} (hd : decode M.2.1 pc = .ok (.new idx, 3)) (hk : kOk ci C T N ty) (hcl : Cond.classLink M.1.cls idx C ∈ T0) (hin : Cond.instantiable C N ∈ T0) (hii : Cond.initialized C ∈ T0) (hfs : (List.range N).map (fun j => defaultValue (ty j)) = (List.range N).map (vp_V fs)) (hfc : ∀ z ad, fs.map (cv z ad) = fs) (hl : t.length = L) (hL : Nat.ble 1 L = true) (hW : WP P t) (hA : wfl (P.length + 1) ls = true) (hB : st.all (wfv (P.length + 1)) = true) (hkm : Nat.ble (k + 1) mc = true) (hnm : Nat.ble (n + N) ms = true)
    (kk : J M d mc ms n0 (pc + 3) ls (.ref (P.length + L) :: st) (P ++ (t ++ [.inr (ci, fs)])) (k + 1) (n + N) Q) : J M d mc ms n0 pc ls st (P ++ t) k n Q := by
  obtain ⟨h1, h2⟩ := hW.len hl
  have h3 := Nat.le_of_ble_eq_true hL
  refine J_new hd hk hcl hin hii (fun j hj => List.map_inj_left.mp hfs j (List.mem_range.mpr hj)) hfc h1 (by rw [h2]; exact wfl_mono (by omega) hA) (by rw [h2]; exact wfs_mono (by omega) hB) hkm hnm ?_
  rw [h2, List.append_assoc]
  exact kk
end JP
def df0 : List Value := [.int 0, .long 0, .int 0, .null, .null, .null, .null, .null, .null, .null, .null, .null]
def df1 : List Value := [.null, .null, .null, .null, .int 0, .int 0]
def df2 : List Value := [.null, .int 0, .null, .int 0, .int 0, .int 0, .int 0]
def df3 : List Value := [.int 0, .int 0, .null, .null, .null, .null, .null, .null]
def df4 : List Value := [.null, .null, .int 0, .null]
def df5 : List Value := [.null, .null, .null, .null, .int 0, .int 0]
def df6 : List Value := [.int 0, .null, .null, .int 0, .null, .null, .null, .null, .null, .null, .int 0, .null, .null, .null, .null, .int 0, .int 0, .null]
def df7 : List Value := [.int 0, .null, .null, .null]
def df8 : List Value := [.null, .null, .int 0, .int 0, .int 0, .null, .null]
def df9 : List Value := [.null, .int 0, .null, .null, .null, .null, .null, .null, .int 0, .null, .null, .null, .null, .null, .null]
def df10 : List Value := [.int 0, .null, .int 0, .null, .null, .null, .null, .null, .null, .null, .null, .null, .null, .null, .null, .null, .null, .null, .null, .null, .int 0, .int 0, .int 0, .int 0, .int 0, .int 0, .int 0, .int 0, .int 0, .int 0, .int 0, .int 0, .int 0, .null, .null, .int 0, .null, .null, .null, .null, .null, .null, .null, .null, .null, .null, .int 0, .int 0, .int 0, .null, .null, .int 0, .int 0, .int 0, .null, .int 0, .null, .int 0, .int 0, .null, .null, .null, .null, .null]
theorem dm0 : (List.range 12).map (fun j => defaultValue (kt0 j)) = (List.range 12).map (vp_V df0) := by rfl
theorem dc0 (z ad : Nat → Nat) : df0.map (cv z ad) = df0 := rfl
theorem dm1 : (List.range 6).map (fun j => defaultValue (kt1 j)) = (List.range 6).map (vp_V df1) := by rfl
theorem dc1 (z ad : Nat → Nat) : df1.map (cv z ad) = df1 := rfl
theorem dm2 : (List.range 7).map (fun j => defaultValue (kt2 j)) = (List.range 7).map (vp_V df2) := by rfl
theorem dc2 (z ad : Nat → Nat) : df2.map (cv z ad) = df2 := rfl
theorem dm3 : (List.range 8).map (fun j => defaultValue (kt3 j)) = (List.range 8).map (vp_V df3) := by rfl
theorem dc3 (z ad : Nat → Nat) : df3.map (cv z ad) = df3 := rfl
theorem dm4 : (List.range 4).map (fun j => defaultValue (kt4 j)) = (List.range 4).map (vp_V df4) := by rfl
theorem dc4 (z ad : Nat → Nat) : df4.map (cv z ad) = df4 := rfl
theorem dm5 : (List.range 6).map (fun j => defaultValue (kt5 j)) = (List.range 6).map (vp_V df5) := by rfl
theorem dc5 (z ad : Nat → Nat) : df5.map (cv z ad) = df5 := rfl
theorem dm6 : (List.range 18).map (fun j => defaultValue (kt6 j)) = (List.range 18).map (vp_V df6) := by rfl
theorem dc6 (z ad : Nat → Nat) : df6.map (cv z ad) = df6 := rfl
theorem dm7 : (List.range 4).map (fun j => defaultValue (kt7 j)) = (List.range 4).map (vp_V df7) := by rfl
theorem dc7 (z ad : Nat → Nat) : df7.map (cv z ad) = df7 := rfl
theorem dm8 : (List.range 7).map (fun j => defaultValue (kt8 j)) = (List.range 7).map (vp_V df8) := by rfl
theorem dc8 (z ad : Nat → Nat) : df8.map (cv z ad) = df8 := rfl
theorem dm9 : (List.range 15).map (fun j => defaultValue (kt9 j)) = (List.range 15).map (vp_V df9) := by rfl
theorem dc9 (z ad : Nat → Nat) : df9.map (cv z ad) = df9 := rfl
theorem dm10 : (List.range 64).map (fun j => defaultValue (kt10 j)) = (List.range 64).map (vp_V df10) := by rfl
theorem dc10 (z ad : Nat → Nat) : df10.map (cv z ad) = df10 := rfl
abbrev V00 : CV := (0, 0, 0, fun _ _ => 0)
theorem c0_init {d : Nat} {P : List EC} (hW : WP P [.inr (0, df0)]) : Tr (d + 1) 9 74 m0_init [.ref P.length] (P ++ [.inr (0, df0)]) (fun r w' => r = none ∧ w' = P ++ celC P.length V00) := by
  refine Tr.intro (by decide) rfl ?_
  refine J_aload_n (pc := 0) D0_init_0 rfl ?_
  refine J_objInit (pc := 1) D0_init_1 t251 (by omega) rfl ?_
  refine J_aload_n (pc := 4) D0_init_4 rfl ?_
  refine J_bipush (pc := 5) (v := (nI 10)) D0_init_5 (by decide) ?_
  refine JP_newi (pc := 7) (L := 1) D0_init_7 rfl rfl rfl rfl rfl hW wl1 wr1 rfl rfl (fun hW => ?_)
  refine JP_putF (pc := 9) D0_init_9 fp0_9 rfl Fit.arr rfl hW (wr0 1 rfl) (fun hW => ?_)
  refine J_aload_n (pc := 12) D0_init_12 rfl ?_
  refine J_bipush (pc := 13) (v := (nI 10)) D0_init_13 (by decide) ?_
  refine JP_newi (pc := 15) (L := 2) D0_init_15 rfl rfl rfl rfl rfl hW wl1 wr1 rfl rfl (fun hW => ?_)
  refine JP_putF (pc := 17) D0_init_17 fp0_15 rfl Fit.arr rfl hW (wr0 2 rfl) (fun hW => ?_)
  refine J_aload_n (pc := 20) D0_init_20 rfl ?_
  refine J_bipush (pc := 21) (v := (nI 10)) D0_init_21 (by decide) ?_
  refine JP_newi (pc := 23) (L := 3) D0_init_23 rfl rfl rfl rfl rfl hW wl1 wr1 rfl rfl (fun hW => ?_)
  refine JP_putF (pc := 25) D0_init_25 fp0_18 rfl Fit.arr rfl hW (wr0 3 rfl) (fun hW => ?_)
  refine J_aload_n (pc := 28) D0_init_28 rfl ?_
  refine J_bipush (pc := 29) (v := (nI 10)) D0_init_29 (by decide) ?_
  refine JP_newi (pc := 31) (L := 4) D0_init_31 rfl rfl rfl rfl rfl hW wl1 wr1 rfl rfl (fun hW => ?_)
  refine JP_putF (pc := 33) D0_init_33 fp0_21 rfl Fit.arr rfl hW (wr0 4 rfl) (fun hW => ?_)
  refine J_aload_n (pc := 36) D0_init_36 rfl ?_
  refine J_bipush (pc := 37) (v := (nI 10)) D0_init_37 (by decide) ?_
  refine JP_newi (pc := 39) (L := 5) D0_init_39 rfl rfl rfl rfl rfl hW wl1 wr1 rfl rfl (fun hW => ?_)
  refine JP_putF (pc := 41) D0_init_41 fp0_24 rfl Fit.arr rfl hW (wr0 5 rfl) (fun hW => ?_)
  refine J_aload_n (pc := 44) D0_init_44 rfl ?_
  refine J_bipush (pc := 45) (v := (nI 8)) D0_init_45 (by decide) ?_
  refine JP_newi (pc := 47) (L := 6) D0_init_47 rfl rfl rfl rfl rfl hW wl1 wr1 rfl rfl (fun hW => ?_)
  refine JP_putF (pc := 49) D0_init_49 fp0_27 rfl Fit.arr rfl hW (wr0 6 rfl) (fun hW => ?_)
  refine J_aload_n (pc := 52) D0_init_52 rfl ?_
  refine J_iconst (pc := 53) (v := (nI 5)) D0_init_53 (by decide) ?_
  refine JP_newi (pc := 54) (L := 7) D0_init_54 rfl rfl rfl rfl rfl hW wl1 wr1 rfl rfl (fun hW => ?_)
  refine JP_putF (pc := 56) D0_init_56 fp0_30 rfl Fit.arr rfl hW (wr0 7 rfl) (fun hW => ?_)
  refine J_aload_n (pc := 59) D0_init_59 rfl ?_
  refine J_iconst (pc := 60) (v := (nI 5)) D0_init_60 (by decide) ?_
  refine JP_newi (pc := 61) (L := 8) D0_init_61 rfl rfl rfl rfl rfl hW wl1 wr1 rfl rfl (fun hW => ?_)
  refine JP_putF (pc := 63) D0_init_63 fp0_33 rfl Fit.arr rfl hW (wr0 8 rfl) (fun hW => ?_)
  refine J_aload_n (pc := 66) D0_init_66 rfl ?_
  refine J_bipush (pc := 67) (v := (nI 6)) D0_init_67 (by decide) ?_
  refine JP_newi (pc := 69) (L := 9) D0_init_69 rfl rfl rfl rfl rfl hW wl1 wr1 rfl rfl (fun hW => ?_)
  refine JP_putF (pc := 71) D0_init_71 fp0_36 rfl Fit.arr rfl hW (wr0 9 rfl) (fun hW => ?_)
  exact J_vret (pc := 74) D0_init_74 rfl ⟨rfl, rfl⟩
theorem c7_init {d : Nat} {P : List EC} (hW : WP P [.inr (7, df7)]) : Tr (d + 1) 3 60 m7_init [.ref P.length] (P ++ [.inr (7, df7)]) (fun r w' => r = none ∧ w' = P ++ undC P.length 0 (fun _ _ => 0)) := by
  refine Tr.intro (by decide) rfl ?_
  refine J_aload_n (pc := 0) D7_init_0 rfl ?_
  refine J_objInit (pc := 1) D7_init_1 t349 (by omega) rfl ?_
  refine J_aload_n (pc := 4) D7_init_4 rfl ?_
  refine J_bipush (pc := 5) (v := (nI 20)) D7_init_5 (by decide) ?_
  refine JP_newi (pc := 7) (L := 1) D7_init_7 rfl rfl rfl rfl rfl hW wl1 wr1 rfl rfl (fun hW => ?_)
  refine JP_putF (pc := 9) D7_init_9 fp7_9 rfl Fit.arr rfl hW (wr0 1 rfl) (fun hW => ?_)
  refine J_aload_n (pc := 12) D7_init_12 rfl ?_
  refine J_bipush (pc := 13) (v := (nI 20)) D7_init_13 (by decide) ?_
  refine JP_newi (pc := 15) (L := 2) D7_init_15 rfl rfl rfl rfl rfl hW wl1 wr1 rfl rfl (fun hW => ?_)
  refine JP_putF (pc := 17) D7_init_17 fp7_15 rfl Fit.arr rfl hW (wr0 2 rfl) (fun hW => ?_)
  refine J_aload_n (pc := 20) D7_init_20 rfl ?_
  refine J_bipush (pc := 21) (v := (nI 20)) D7_init_21 (by decide) ?_
  refine JP_newi (pc := 23) (L := 3) D7_init_23 rfl rfl rfl rfl rfl hW wl1 wr1 rfl rfl (fun hW => ?_)
  refine JP_putF (pc := 25) D7_init_25 fp7_18 rfl Fit.arr rfl hW (wr0 3 rfl) (fun hW => ?_)
  exact J_vret (pc := 28) D7_init_28 rfl ⟨rfl, rfl⟩
theorem c3_init {d : Nat} {P : List EC} (hW : WP P [.inr (3, df3)]) : Tr (d + 1) 6 144 m3_init [.ref P.length] (P ++ [.inr (3, df3)]) (fun r w' => r = none ∧ w' = P ++ seeC P.length 0 (-1) (fun _ _ => 0)) := by
  refine Tr.intro (by decide) rfl ?_
  refine J_aload_n (pc := 0) D3_init_0 rfl ?_
  refine J_objInit (pc := 1) D3_init_1 t369 (by omega) rfl ?_
  refine J_aload_n (pc := 4) D3_init_4 rfl ?_
  refine J_iconst (pc := 5) (v := (-1)) D3_init_5 (by decide) ?_
  refine JP_putf (pc := 6) D3_init_6 fp3_9 Fit.int rfl hW rfl (fun hW => ?_)
  refine J_aload_n (pc := 9) D3_init_9 rfl ?_
  refine J_bipush (pc := 10) (v := (nI 24)) D3_init_10 (by decide) ?_
  refine JP_newi (pc := 12) (L := 1) D3_init_12 rfl rfl rfl rfl rfl hW wl1 wr1 rfl rfl (fun hW => ?_)
  refine JP_putF (pc := 14) D3_init_14 fp3_15 rfl Fit.arr rfl hW (wr0 1 rfl) (fun hW => ?_)
  refine J_aload_n (pc := 17) D3_init_17 rfl ?_
  refine J_bipush (pc := 18) (v := (nI 24)) D3_init_18 (by decide) ?_
  refine JP_newi (pc := 20) (L := 2) D3_init_20 rfl rfl rfl rfl rfl hW wl1 wr1 rfl rfl (fun hW => ?_)
  refine JP_putF (pc := 22) D3_init_22 fp3_19 rfl Fit.arr rfl hW (wr0 2 rfl) (fun hW => ?_)
  refine J_aload_n (pc := 25) D3_init_25 rfl ?_
  refine J_bipush (pc := 26) (v := (nI 24)) D3_init_26 (by decide) ?_
  refine JP_newz (pc := 28) (L := 3) D3_init_28 rfl rfl rfl rfl rfl hW wl1 wr1 rfl rfl (fun hW => ?_)
  refine JP_putF (pc := 30) D3_init_30 fp3_22 rfl Fit.arr rfl hW (wr0 3 rfl) (fun hW => ?_)
  refine J_aload_n (pc := 33) D3_init_33 rfl ?_
  refine J_bipush (pc := 34) (v := (nI 24)) D3_init_34 (by decide) ?_
  refine JP_newi (pc := 36) (L := 4) D3_init_36 rfl rfl rfl rfl rfl hW wl1 wr1 rfl rfl (fun hW => ?_)
  refine JP_putF (pc := 38) D3_init_38 fp3_26 rfl Fit.arr rfl hW (wr0 4 rfl) (fun hW => ?_)
  refine J_aload_n (pc := 41) D3_init_41 rfl ?_
  refine J_bipush (pc := 42) (v := (nI 24)) D3_init_42 (by decide) ?_
  refine JP_newz (pc := 44) (L := 5) D3_init_44 rfl rfl rfl rfl rfl hW wl1 wr1 rfl rfl (fun hW => ?_)
  refine JP_putF (pc := 46) D3_init_46 fp3_29 rfl Fit.arr rfl hW (wr0 5 rfl) (fun hW => ?_)
  refine J_aload_n (pc := 49) D3_init_49 rfl ?_
  refine J_bipush (pc := 50) (v := (nI 24)) D3_init_50 (by decide) ?_
  refine JP_newz (pc := 52) (L := 6) D3_init_52 rfl rfl rfl rfl rfl hW wl1 wr1 rfl rfl (fun hW => ?_)
  refine JP_putF (pc := 54) D3_init_54 fp3_32 rfl Fit.arr rfl hW (wr0 6 rfl) (fun hW => ?_)
  exact J_vret (pc := 57) D3_init_57 rfl ⟨rfl, rfl⟩
theorem c4_init {d : Nat} {P : List EC} (hW : WP P [.inr (4, df4)]) {a b : Nat} (ha : a < P.length) (hb : b < P.length) : Tr (d + 1) 1 8 m4_init [.ref P.length, .ref a, .ref b] (P ++ [.inr (4, df4)]) (fun r w' => r = none ∧ w' = P ++ [.inr (4, [.ref a, .ref b, .int 0, .ref (P.length + 1)]), iA 8 (fun _ => 0)]) := by
  refine Tr.intro (by decide) rfl ?_
  refine J_aload_n (pc := 0) D4_init_0 rfl ?_
  refine J_objInit (pc := 1) D4_init_1 t403 (by omega) rfl ?_
  refine J_aload_n (pc := 4) D4_init_4 rfl ?_
  refine J_bipush (pc := 5) (v := (nI 8)) D4_init_5 (by decide) ?_
  refine JP_newi (pc := 7) (L := 1) D4_init_7 rfl rfl rfl rfl rfl hW (wl3 ha hb) wr1 rfl rfl (fun hW => ?_)
  refine JP_putF (pc := 9) D4_init_9 fp4_9 rfl Fit.arr rfl hW (wr0 1 rfl) (fun hW => ?_)
  refine J_aload_n (pc := 12) D4_init_12 rfl ?_
  refine J_aload_n (pc := 13) D4_init_13 rfl ?_
  refine JP_putf (pc := 14) D4_init_14 fp4_15 Fit.obj rfl hW (wra ha) (fun hW => ?_)
  refine J_aload_n (pc := 17) D4_init_17 rfl ?_
  refine J_aload_n (pc := 18) D4_init_18 rfl ?_
  refine JP_putf (pc := 19) D4_init_19 fp4_19 Fit.obj rfl hW (wra hb) (fun hW => ?_)
  exact J_vret (pc := 22) D4_init_22 rfl ⟨rfl, rfl⟩
theorem c5_init {d : Nat} {P : List EC} (hW : WP P [.inr (5, df5)]) {a : Nat} (ha : a < P.length) : Tr (d + 1) 3 2103 m5_init [.ref P.length, .ref a] (P ++ [.inr (5, df5)]) (fun r w' => r = none ∧ w' = P ++ [.inr (5, [.ref a, .ref (P.length + 1), .ref (P.length + 2), .ref (P.length + 3), .int 0, .int 0]), iA 701 (fun _ => 0), iA 701 (fun _ => 0), iA 701 (fun _ => 0)]) := by
  refine Tr.intro (by decide) rfl ?_
  refine J_aload_n (pc := 0) D5_init_0 rfl ?_
  refine J_objInit (pc := 1) D5_init_1 t193 (by omega) rfl ?_
  refine J_aload_n (pc := 4) D5_init_4 rfl ?_
  refine J_sipush (pc := 5) (v := (nI 701)) D5_init_5 (by decide) ?_
  refine JP_newi (pc := 8) (L := 1) D5_init_8 rfl rfl rfl rfl rfl hW (wl2 ha) wr1 rfl rfl (fun hW => ?_)
  refine JP_putF (pc := 10) D5_init_10 fp5_9 rfl Fit.arr rfl hW (wr0 1 rfl) (fun hW => ?_)
  refine J_aload_n (pc := 13) D5_init_13 rfl ?_
  refine J_sipush (pc := 14) (v := (nI 701)) D5_init_14 (by decide) ?_
  refine JP_newi (pc := 17) (L := 2) D5_init_17 rfl rfl rfl rfl rfl hW (wl2 ha) wr1 rfl rfl (fun hW => ?_)
  refine JP_putF (pc := 19) D5_init_19 fp5_15 rfl Fit.arr rfl hW (wr0 2 rfl) (fun hW => ?_)
  refine J_aload_n (pc := 22) D5_init_22 rfl ?_
  refine J_sipush (pc := 23) (v := (nI 701)) D5_init_23 (by decide) ?_
  refine JP_newi (pc := 26) (L := 3) D5_init_26 rfl rfl rfl rfl rfl hW (wl2 ha) wr1 rfl rfl (fun hW => ?_)
  refine JP_putF (pc := 28) D5_init_28 fp5_18 rfl Fit.arr rfl hW (wr0 3 rfl) (fun hW => ?_)
  refine J_aload_n (pc := 31) D5_init_31 rfl ?_
  refine J_aload_n (pc := 32) D5_init_32 rfl ?_
  refine JP_putF (pc := 33) D5_init_33 fp5_21 rfl Fit.arr rfl hW (wra ha) (fun hW => ?_)
  exact J_vret (pc := 36) D5_init_36 rfl ⟨rfl, rfl⟩
theorem c2_init {d : Nat} {P : List EC} (hW : WP P [.inr (2, df2)]) {a b : Nat} (ha : a < P.length) (hb : b < P.length) : Tr (d + 1) 0 0 m2_init [.ref P.length, .ref a, .ref b] (P ++ [.inr (2, df2)]) (fun r w' => r = none ∧ w' = P ++ [.inr (2, [.ref a, .int 0, .ref b, .int 0, .int 0, .int 0, .int (-1)])]) := by
  refine Tr.intro (by decide) rfl ?_
  refine J_aload_n (pc := 0) D2_init_0 rfl ?_
  refine J_objInit (pc := 1) D2_init_1 t221 (by omega) rfl ?_
  refine J_aload_n (pc := 4) D2_init_4 rfl ?_
  refine J_iconst (pc := 5) (v := (-1)) D2_init_5 (by decide) ?_
  refine JP_putf (pc := 6) D2_init_6 fp2_9 Fit.int rfl hW rfl (fun hW => ?_)
  refine J_aload_n (pc := 9) D2_init_9 rfl ?_
  refine J_aload_n (pc := 10) D2_init_10 rfl ?_
  refine JP_putF (pc := 11) D2_init_11 fp2_15 rfl Fit.obj rfl hW (wra ha) (fun hW => ?_)
  refine J_aload_n (pc := 14) D2_init_14 rfl ?_
  refine J_aload_n (pc := 15) D2_init_15 rfl ?_
  refine JP_putf (pc := 16) D2_init_16 fp2_19 Fit.obj rfl hW (wra hb) (fun hW => ?_)
  exact J_vret (pc := 19) D2_init_19 rfl ⟨rfl, rfl⟩
theorem c8_init {d : Nat} {P : List EC} (hW : WP P [.inr (8, df8)]) {a b : Nat} (ha : a < P.length) (hb : b < P.length) : Tr (d + 1) 2 74 m8_init [.ref P.length, .ref a, .ref b] (P ++ [.inr (8, df8)]) (fun r w' => r = none ∧ w' = P ++ [.inr (8, [.ref a, .ref b, .int 0, .int 0, .int 0, .ref (P.length + 1), .ref (P.length + 2)]), iA 10 (fun _ => 0), lA 64 (fun _ => 0)]) := by
  refine Tr.intro (by decide) rfl ?_
  refine J_aload_n (pc := 0) D8_init_0 rfl ?_
  refine J_objInit (pc := 1) D8_init_1 t318 (by omega) rfl ?_
  refine J_aload_n (pc := 4) D8_init_4 rfl ?_
  refine J_bipush (pc := 5) (v := (nI 10)) D8_init_5 (by decide) ?_
  refine JP_newi (pc := 7) (L := 1) D8_init_7 rfl rfl rfl rfl rfl hW (wl3 ha hb) wr1 rfl rfl (fun hW => ?_)
  refine JP_putF (pc := 9) D8_init_9 fp8_9 rfl Fit.arr rfl hW (wr0 1 rfl) (fun hW => ?_)
  refine J_aload_n (pc := 12) D8_init_12 rfl ?_
  refine J_bipush (pc := 13) (v := (nI 64)) D8_init_13 (by decide) ?_
  refine JP_newl (pc := 15) (L := 2) D8_init_15 rfl rfl rfl rfl rfl hW (wl3 ha hb) wr1 rfl rfl (fun hW => ?_)
  refine JP_putF (pc := 17) D8_init_17 fp8_15 rfl Fit.arr rfl hW (wr0 2 rfl) (fun hW => ?_)
  refine J_aload_n (pc := 20) D8_init_20 rfl ?_
  refine J_aload_n (pc := 21) D8_init_21 rfl ?_
  refine JP_putf (pc := 22) D8_init_22 fp8_19 Fit.obj rfl hW (wra ha) (fun hW => ?_)
  refine J_aload_n (pc := 25) D8_init_25 rfl ?_
  refine J_aload_n (pc := 26) D8_init_26 rfl ?_
  refine JP_putf (pc := 27) D8_init_27 fp8_23 Fit.obj rfl hW (wra hb) (fun hW => ?_)
  exact J_vret (pc := 30) D8_init_30 rfl ⟨rfl, rfl⟩

theorem SubF.suf (P wc : List EC) : SubF (P ++ wc.map (rcF (fun k => P.length + k))) (fun k => P.length + k) wc := ⟨fun k c h => by
  rw [List.getElem?_append_right (Nat.le_add_right _ _), Nat.add_sub_cancel_left, List.getElem?_map, h]; rfl, fun _ _ _ _ h => by simpa using h⟩
theorem PutF.suf {P wc w' : List EC} (hl : w'.length = wc.length) : PutF (P ++ wc.map (rcF (fun k => P.length + k))) (fun k => P.length + k) w' (P ++ w'.map (rcF (fun k => P.length + k))) := ⟨by rw [List.length_append, List.length_append, List.length_map, List.length_map, hl], fun k c h => by
  rw [List.getElem?_append_right (Nat.le_add_right _ _), Nat.add_sub_cancel_left, List.getElem?_map, h]; rfl, fun i hi => by
  by_cases h : i < P.length
  · rw [List.getElem?_append_left h, List.getElem?_append_left h]
  · have : w'.length ≤ i - P.length := Nat.not_lt.mp (fun q => hi (i - P.length) q (by dsimp only; omega))
    rw [List.getElem?_append_right (by omega), List.getElem?_append_right (by omega), List.getElem?_eq_none (by rw [List.length_map]; exact this), List.getElem?_eq_none (by rw [List.length_map, ← hl]; exact this)]⟩
def lwA : Nat → Nat → Int32 := upA (upA (fun _ _ => 0) 0 (fun _ => -1)) 1 (fun _ => -1)
theorem c1_init {d : Nat} {P : List EC} (hW : WP P [.inr (1, df1)]) : Tr (d + 2) 4 134 m1_init [.ref P.length] (P ++ [.inr (1, df1)]) (fun r w' => r = none ∧ w' = P ++ lawC P.length (fun _ => 0) lwA) := by
  refine Tr.intro (by decide) rfl ?_
  refine J_aload_n (pc := 0) D1_init_0 rfl ?_
  refine J_objInit (pc := 1) D1_init_1 t44 (by omega) rfl ?_
  refine J_aload_n (pc := 4) D1_init_4 rfl ?_
  refine J_iconst (pc := 5) (v := (nI 3)) D1_init_5 (by decide) ?_
  refine JP_newi (pc := 6) (L := 1) D1_init_6 rfl rfl rfl rfl rfl hW wl1 wr1 rfl rfl (fun hW => ?_)
  refine JP_putF (pc := 8) D1_init_8 fp1_9 rfl Fit.arr rfl hW (wr0 1 rfl) (fun hW => ?_)
  refine J_aload_n (pc := 11) D1_init_11 rfl ?_
  refine J_iconst (pc := 12) (v := (nI 3)) D1_init_12 (by decide) ?_
  refine JP_newi (pc := 13) (L := 2) D1_init_13 rfl rfl rfl rfl rfl hW wl1 wr1 rfl rfl (fun hW => ?_)
  refine JP_putF (pc := 15) D1_init_15 fp1_15 rfl Fit.arr rfl hW (wr0 2 rfl) (fun hW => ?_)
  refine J_aload_n (pc := 18) D1_init_18 rfl ?_
  refine J_bipush (pc := 19) (v := (nI 64)) D1_init_19 (by decide) ?_
  refine JP_newi (pc := 21) (L := 3) D1_init_21 rfl rfl rfl rfl rfl hW wl1 wr1 rfl rfl (fun hW => ?_)
  refine JP_putF (pc := 23) D1_init_23 fp1_18 rfl Fit.arr rfl hW (wr0 3 rfl) (fun hW => ?_)
  refine J_aload_n (pc := 26) D1_init_26 rfl ?_
  refine J_bipush (pc := 27) (v := (nI 64)) D1_init_27 (by decide) ?_
  refine JP_newi (pc := 29) (L := 4) D1_init_29 rfl rfl rfl rfl rfl hW wl1 wr1 rfl rfl (fun hW => ?_)
  refine JP_putF (pc := 31) D1_init_31 fp1_21 rfl Fit.arr rfl hW (wr0 4 rfl) (fun hW => ?_)
  refine J_aload_n (pc := 34) D1_init_34 rfl ?_
  refine J_w (w2 := P ++ (lawC 0 (fun _ => 0) (fun _ _ => 0)).map (rcF (fun k => P.length + k))) rfl ?_
  refine J_gV (pc := 35) (ac := []) D1_init_35 m1_clear_v t45 (c1_clear (d := d)) (by omega) rfl rfl (SubF.suf P _) rfl rfl rfl rfl rfl (fun r w' hq hl => ⟨_, PutF.suf hl, ?_⟩)
  obtain ⟨rfl, rfl⟩ := hq
  exact J_vret (pc := 38) D1_init_38 rfl ⟨rfl, rfl⟩
abbrev T00 : TV := (fun _ => 0, fun _ _ => 0, fun _ => 0, lwA)
theorem c6_init {d : Nat} {P : List EC} (hW : WP P [.inr (6, df6)]) : Tr (d + 3) 17 242 m6_init [.ref P.length] (P ++ [.inr (6, df6)]) (fun r w' => r = none ∧ w' = P ++ toldC P.length T00) := by
  refine Tr.intro (by decide) rfl ?_
  refine J_aload_n (pc := 0) D6_init_0 rfl ?_
  refine J_objInit (pc := 1) D6_init_1 t38 (by omega) rfl ?_
  refine J_aload_n (pc := 4) D6_init_4 rfl ?_
  refine J_iconst (pc := 5) (v := (nI 5)) D6_init_5 (by decide) ?_
  refine JP_newi (pc := 6) (L := 1) D6_init_6 rfl rfl rfl rfl rfl hW wl1 wr1 rfl rfl (fun hW => ?_)
  refine JP_putF (pc := 8) D6_init_8 fp6_9 rfl Fit.arr rfl hW (wr0 1 rfl) (fun hW => ?_)
  refine J_aload_n (pc := 11) D6_init_11 rfl ?_
  refine J_iconst (pc := 12) (v := (nI 5)) D6_init_12 (by decide) ?_
  refine JP_newi (pc := 13) (L := 2) D6_init_13 rfl rfl rfl rfl rfl hW wl1 wr1 rfl rfl (fun hW => ?_)
  refine JP_putF (pc := 15) D6_init_15 fp6_15 rfl Fit.arr rfl hW (wr0 2 rfl) (fun hW => ?_)
  refine J_aload_n (pc := 18) D6_init_18 rfl ?_
  refine J_bipush (pc := 19) (v := (nI 10)) D6_init_19 (by decide) ?_
  refine JP_newi (pc := 21) (L := 3) D6_init_21 rfl rfl rfl rfl rfl hW wl1 wr1 rfl rfl (fun hW => ?_)
  refine JP_putF (pc := 23) D6_init_23 fp6_18 rfl Fit.arr rfl hW (wr0 3 rfl) (fun hW => ?_)
  refine J_aload_n (pc := 26) D6_init_26 rfl ?_
  refine J_bipush (pc := 27) (v := (nI 10)) D6_init_27 (by decide) ?_
  refine JP_newi (pc := 29) (L := 4) D6_init_29 rfl rfl rfl rfl rfl hW wl1 wr1 rfl rfl (fun hW => ?_)
  refine JP_putF (pc := 31) D6_init_31 fp6_21 rfl Fit.arr rfl hW (wr0 4 rfl) (fun hW => ?_)
  refine J_aload_n (pc := 34) D6_init_34 rfl ?_
  refine J_bipush (pc := 35) (v := (nI 10)) D6_init_35 (by decide) ?_
  refine JP_newi (pc := 37) (L := 5) D6_init_37 rfl rfl rfl rfl rfl hW wl1 wr1 rfl rfl (fun hW => ?_)
  refine JP_putF (pc := 39) D6_init_39 fp6_24 rfl Fit.arr rfl hW (wr0 5 rfl) (fun hW => ?_)
  refine J_aload_n (pc := 42) D6_init_42 rfl ?_
  refine J_bipush (pc := 43) (v := (nI 10)) D6_init_43 (by decide) ?_
  refine JP_newi (pc := 45) (L := 6) D6_init_45 rfl rfl rfl rfl rfl hW wl1 wr1 rfl rfl (fun hW => ?_)
  refine JP_putF (pc := 47) D6_init_47 fp6_27 rfl Fit.arr rfl hW (wr0 6 rfl) (fun hW => ?_)
  refine J_aload_n (pc := 50) D6_init_50 rfl ?_
  refine J_bipush (pc := 51) (v := (nI 10)) D6_init_51 (by decide) ?_
  refine JP_newi (pc := 53) (L := 7) D6_init_53 rfl rfl rfl rfl rfl hW wl1 wr1 rfl rfl (fun hW => ?_)
  refine JP_putF (pc := 55) D6_init_55 fp6_30 rfl Fit.arr rfl hW (wr0 7 rfl) (fun hW => ?_)
  refine J_aload_n (pc := 58) D6_init_58 rfl ?_
  refine J_bipush (pc := 59) (v := (nI 10)) D6_init_59 (by decide) ?_
  refine JP_newi (pc := 61) (L := 8) D6_init_61 rfl rfl rfl rfl rfl hW wl1 wr1 rfl rfl (fun hW => ?_)
  refine JP_putF (pc := 63) D6_init_63 fp6_33 rfl Fit.arr rfl hW (wr0 8 rfl) (fun hW => ?_)
  refine J_aload_n (pc := 66) D6_init_66 rfl ?_
  refine J_bipush (pc := 67) (v := (nI 8)) D6_init_67 (by decide) ?_
  refine JP_newi (pc := 69) (L := 9) D6_init_69 rfl rfl rfl rfl rfl hW wl1 wr1 rfl rfl (fun hW => ?_)
  refine JP_putF (pc := 71) D6_init_71 fp6_36 rfl Fit.arr rfl hW (wr0 9 rfl) (fun hW => ?_)
  refine J_aload_n (pc := 74) D6_init_74 rfl ?_
  refine J_bipush (pc := 75) (v := (nI 8)) D6_init_75 (by decide) ?_
  refine JP_newi (pc := 77) (L := 10) D6_init_77 rfl rfl rfl rfl rfl hW wl1 wr1 rfl rfl (fun hW => ?_)
  refine JP_putF (pc := 79) D6_init_79 fp6_39 rfl Fit.arr rfl hW (wr0 10 rfl) (fun hW => ?_)
  refine J_aload_n (pc := 82) D6_init_82 rfl ?_
  refine J_bipush (pc := 83) (v := (nI 8)) D6_init_83 (by decide) ?_
  refine JP_newi (pc := 85) (L := 11) D6_init_85 rfl rfl rfl rfl rfl hW wl1 wr1 rfl rfl (fun hW => ?_)
  refine JP_putF (pc := 87) D6_init_87 fp6_42 rfl Fit.arr rfl hW (wr0 11 rfl) (fun hW => ?_)
  refine J_aload_n (pc := 90) D6_init_90 rfl ?_
  refine J_bipush (pc := 91) (v := (nI 8)) D6_init_91 (by decide) ?_
  refine JP_newi (pc := 93) (L := 12) D6_init_93 rfl rfl rfl rfl rfl hW wl1 wr1 rfl rfl (fun hW => ?_)
  refine JP_putF (pc := 95) D6_init_95 fp6_45 rfl Fit.arr rfl hW (wr0 12 rfl) (fun hW => ?_)
  refine J_aload_n (pc := 98) D6_init_98 rfl ?_
  have hW : WP P (.inr (6, [.int 0, .ref (P.length + 1), .ref (P.length + 2), .int 0, .ref (P.length + 3), .ref (P.length + 4), .ref (P.length + 5), .ref (P.length + 6), .ref (P.length + 7), .ref (P.length + 8), .int 0, .ref (P.length + 9), .ref (P.length + 10), .ref (P.length + 11), .ref (P.length + 12), .int 0, .int 0, .null]) :: [iA 5 (fun _ => 0), iA 5 (fun _ => 0), iA 10 (fun _ => 0), iA 10 (fun _ => 0), iA 10 (fun _ => 0), iA 10 (fun _ => 0), iA 10 (fun _ => 0), iA 10 (fun _ => 0), iA 8 (fun _ => 0), iA 8 (fun _ => 0), iA 8 (fun _ => 0), iA 8 (fun _ => 0)]) := hW
  refine J_w (w2 := P ++ (.inr (6, [.int 0, .ref (P.length + 1), .ref (P.length + 2), .int 0, .ref (P.length + 3), .ref (P.length + 4), .ref (P.length + 5), .ref (P.length + 6), .ref (P.length + 7), .ref (P.length + 8), .int 0, .ref (P.length + 9), .ref (P.length + 10), .ref (P.length + 11), .ref (P.length + 12), .int 0, .int 0, .null]) :: [iA 5 (fun _ => 0), iA 5 (fun _ => 0), iA 10 (fun _ => 0), iA 10 (fun _ => 0), iA 10 (fun _ => 0), iA 10 (fun _ => 0), iA 10 (fun _ => 0), iA 10 (fun _ => 0), iA 8 (fun _ => 0), iA 8 (fun _ => 0), iA 8 (fun _ => 0), iA 8 (fun _ => 0)])) rfl ?_
  generalize hX : (.inr (6, [.int 0, .ref (P.length + 1), .ref (P.length + 2), .int 0, .ref (P.length + 3), .ref (P.length + 4), .ref (P.length + 5), .ref (P.length + 6), .ref (P.length + 7), .ref (P.length + 8), .int 0, .ref (P.length + 9), .ref (P.length + 10), .ref (P.length + 11), .ref (P.length + 12), .int 0, .int 0, .null]) :: [iA 5 (fun _ => 0), iA 5 (fun _ => 0), iA 10 (fun _ => 0), iA 10 (fun _ => 0), iA 10 (fun _ => 0), iA 10 (fun _ => 0), iA 10 (fun _ => 0), iA 10 (fun _ => 0), iA 8 (fun _ => 0), iA 8 (fun _ => 0), iA 8 (fun _ => 0), iA 8 (fun _ => 0)]) = X at hW ⊢
  have hXl : X.length = 13 := by rw [← hX]; rfl
  refine JP_new (pc := 99) (L := 13) D6_init_99 ko1 t39 t40 t3 dm1 dc1 hXl rfl hW wl1 wr1 rfl rfl ?_
  refine J_dup (pc := 102) D6_init_102 rfl ?_
  have hl3 : (P ++ X).length = P.length + 13 := by rw [List.length_append, hXl]
  have hl4 : (P ++ (X ++ [Sum.inr (1, df1)])).length = P.length + 13 + 1 := by rw [List.length_append, List.length_append, hXl]; rfl
  have hW3 : WP (P ++ X) [.inr (1, df1)] := by
    have := hW.app (c := [.inr (1, df1)]) rfl
    unfold WP at this ⊢
    rw [List.append_assoc, hl3]
    rw [List.length_append, hXl] at this
    exact this
  refine J_callI (pc := 103) (i := P.length + 13) (ac := []) (rest := [.ref (P.length + 13), .ref P.length]) D6_init_103 m1_init_i t41 (by
    have := c1_init (d := d) hW3
    rw [List.append_assoc, hl3] at this
    exact this) (by omega) rfl rfl rfl (by rw [hl4]; exact wfl_mono (by omega) (wl1 (P := P))) (by rw [hl4]; exact List.all_eq_true.mpr (fun x hx => by
    simp only [List.mem_cons, List.not_mem_nil, or_false] at hx
    rcases hx with rfl | rfl
    · exact wr0 (L := 14) 13 rfl
    · exact wr0 (L := 14) 0 rfl)) rfl rfl (fun r w' hq hl => ?_)
  obtain ⟨rfl, rfl⟩ := hq
  refine ⟨rfl, ?_⟩
  rw [List.append_assoc]
  rw [← hX] at hW ⊢
  refine J_w (w2 := P ++ (.inr (6, [.int 0, .ref (P.length + 1), .ref (P.length + 2), .int 0, .ref (P.length + 3), .ref (P.length + 4), .ref (P.length + 5), .ref (P.length + 6), .ref (P.length + 7), .ref (P.length + 8), .int 0, .ref (P.length + 9), .ref (P.length + 10), .ref (P.length + 11), .ref (P.length + 12), .int 0, .int 0, .null]) :: ([iA 5 (fun _ => 0), iA 5 (fun _ => 0), iA 10 (fun _ => 0), iA 10 (fun _ => 0), iA 10 (fun _ => 0), iA 10 (fun _ => 0), iA 10 (fun _ => 0), iA 10 (fun _ => 0), iA 8 (fun _ => 0), iA 8 (fun _ => 0), iA 8 (fun _ => 0), iA 8 (fun _ => 0)] ++ lawC (P.length + 13) (fun _ => 0) lwA))) rfl ?_
  refine JP_putF (pc := 106) D6_init_106 fp6_51 rfl Fit.obj rfl (hW.app (c := lawC (P.length + 13) (fun _ => 0) lwA) ?_) (wr0 13 rfl) (fun hW => ?_)
  · exact List.all_eq_true.mpr (fun x hx => by
      simp only [lawC, List.mem_cons, List.not_mem_nil, or_false] at hx
      rcases hx with rfl | rfl | rfl | rfl | rfl
      · exact List.all_eq_true.mpr (fun x hx => by
          simp only [List.mem_cons, List.not_mem_nil, or_false] at hx
          rcases hx with rfl | rfl | rfl | rfl | rfl | rfl
          · exact wr0 (L := 18) 14 rfl
          · exact wr0 (L := 18) 15 rfl
          · exact wr0 (L := 18) 16 rfl
          · exact wr0 (L := 18) 17 rfl
          · rfl
          · rfl)
      · rfl
      · rfl
      · rfl
      · rfl)
  · exact J_vret (pc := 109) D6_init_109 rfl ⟨rfl, rfl⟩
