/-! THE MODEL: a text, whole (own program mod_q14.py) -/
theorem rdL_f {K : TK} {R : RS} (h : ¬ R.1.2.1 = 0) : ∀ g l, rdL K g l R = (l, R)
  | 0, _ => rfl
  | g + 1, l => by rw [rdL, if_neg (fun q => h q.1)]
theorem L10_tx117 {K : TK} {L cnt : Nat} (hK : KT K L cnt) {L0 : LL} {M : Nat → MR} {D : Nat} {s0 : Nat → Int32} {A0 : Nat → Nat → Int32} {x : Int32} (hD : 145 ≤ D) {Q : Option Value → List EC → Prop} : ∀ (g l : Nat) (s : Nat → Int32) (A : Nat → Nat → Int32) (R : RS), cnt ≤ R.1.1 + g → FLn s0 A0 s A → TP K.2.2.1 (A 1) L → CRl K L cnt s R.1 → (R.1.2.1 = 0 → GIv s A R ∧ s 21 = nI l) →
    (∀ (s' : Nat → Int32) (A' : Nat → Nat → Int32), FLn s0 A0 s' A' → CRl K L cnt s' (rdL K g l R).2.1 → ((rdL K g l R).2.1.2.1 = 0 → GIv s' A' (rdL K g l R).2 ∧ s' 21 = nI (rdL K g l R).1) → J m10_text D 0 0 40 139 [(0, .ref 0), (1, .int x)] [] (modW s' A' L0 M) 0 0 Q) → J m10_text D 0 0 40 117 [(0, .ref 0), (1, .int x)] [] (modW s A L0 M) 0 0 Q := by
  intro g
  induction g with
  | zero =>
    intro l s A R hg hF hTP h hG Kc
    by_cases h0 : R.1.2.1 = 0
    · have hm := h.2.2 h0
      have hc : R.1.1 = cnt := by have := hm.1; omega
      have hk : K.2.2.2.1 R.1.1 = nI 34 := (hK.end hm.1).mpr hc
      have hs := (kv_end hm.2.2.2.1).mpr hk
      have h27 : s 27 = 0 := by rw [h.1]; exact h0
      refine J_aload_n (pc := 117) D10_text_117 rfl ?_
      refine J_getf (pc := 118) D10_text_118 fl10_193 rfl rfl ?_
      rw [h27]
      refine J_if_ne (pc := 121) (tgt := 139) D10_text_121 (by decide) (fun h121 => absurd rfl h121) (fun h121 => ?_)
      refine J_aload_n (pc := 124) D10_text_124 rfl ?_
      refine J_getf (pc := 125) D10_text_125 fl10_158 rfl rfl ?_
      refine J_iconst (pc := 128) (v := (nI 4)) D10_text_128 (by decide) ?_
      rw [hs]
      refine J_icmp_eq (pc := 129) (tgt := 139) D10_text_129 (by decide) (fun h129 => ?_) (fun h129 => absurd rfl h129)
      exact Kc s A hF h hG
    · have h27 : ¬ s 27 = 0 := by rw [h.1]; exact h0
      refine J_aload_n (pc := 117) D10_text_117 rfl ?_
      refine J_getf (pc := 118) D10_text_118 fl10_193 rfl rfl ?_
      refine J_if_ne (pc := 121) (tgt := 139) D10_text_121 (by decide) (fun h121 => ?_) (fun h121 => absurd h121 h27)
      exact Kc s A hF h hG
  | succ g ih =>
    intro l s A R hg hF hTP h hG Kc
    by_cases h0 : R.1.2.1 = 0
    · have hm := h.2.2 h0
      have h27 : s 27 = 0 := by rw [h.1]; exact h0
      have hke := kv_end hm.2.2.2.1
      by_cases hk : K.2.2.2.1 R.1.1 = nI 34
      · have hs := hke.mpr hk
        rw [show rdL K (g + 1) l R = (l, R) from by rw [rdL, if_neg (fun q => q.2 hk)]] at Kc
        refine J_aload_n (pc := 117) D10_text_117 rfl ?_
        refine J_getf (pc := 118) D10_text_118 fl10_193 rfl rfl ?_
        rw [h27]
        refine J_if_ne (pc := 121) (tgt := 139) D10_text_121 (by decide) (fun h121 => absurd rfl h121) (fun h121 => ?_)
        refine J_aload_n (pc := 124) D10_text_124 rfl ?_
        refine J_getf (pc := 125) D10_text_125 fl10_158 rfl rfl ?_
        refine J_iconst (pc := 128) (v := (nI 4)) D10_text_128 (by decide) ?_
        rw [hs]
        refine J_icmp_eq (pc := 129) (tgt := 139) D10_text_129 (by decide) (fun h129 => ?_) (fun h129 => absurd rfl h129)
        exact Kc s A hF h hG
      · have hs : ¬ s 25 = nI 4 := fun q => hk (hke.mp q)
        rw [show rdL K (g + 1) l R = rdL K g (l + 1) (linR K R) from by rw [rdL, if_pos ⟨h0, hk⟩]] at Kc
        refine J_aload_n (pc := 117) D10_text_117 rfl ?_
        refine J_getf (pc := 118) D10_text_118 fl10_193 rfl rfl ?_
        rw [h27]
        refine J_if_ne (pc := 121) (tgt := 139) D10_text_121 (by decide) (fun h121 => absurd rfl h121) (fun h121 => ?_)
        refine J_aload_n (pc := 124) D10_text_124 rfl ?_
        refine J_getf (pc := 125) D10_text_125 fl10_158 rfl rfl ?_
        refine J_iconst (pc := 128) (v := (nI 4)) D10_text_128 (by decide) ?_
        refine J_icmp_eq (pc := 129) (tgt := 139) D10_text_129 (by decide) (fun h129 => absurd h129 hs) (fun h129 => ?_)
        refine J_aload_n (pc := 132) D10_text_132 rfl ?_
        refine J_callVT (pc := 133) (ac := []) D10_text_133 m10_line_v t1465 (c10_line (D := D - 1) hK (by omega) hTP h h0 (hG h0).1) (by omega) rfl rfl rfl rfl rfl rfl rfl (fun r w' hq hl => ?_)
        obtain ⟨rfl, s2, A2, rfl, f2, b2, g2⟩ := hq
        refine J_goto (pc := 136) (tgt := 117) D10_text_136 (by decide) ?_
        by_cases hl0 : (linR K R).1.2.1 = 0
        · exact ih (l + 1) s2 A2 (linR K R) (by have := lin_p hl0; omega) (hF.tr f2) (f2.tp hTP) b2 (fun q => ⟨(g2 q).1, by rw [(g2 q).2, (hG h0).2, nI_add]⟩) Kc
        · rw [show rdL K g (l + 1) (linR K R) = (l + 1, linR K R) from rdL_f hl0 g (l + 1)] at Kc
          have h27b : ¬ s2 27 = 0 := by rw [b2.1]; exact hl0
          refine J_aload_n (pc := 117) D10_text_117 rfl ?_
          refine J_getf (pc := 118) D10_text_118 fl10_193 rfl rfl ?_
          refine J_if_ne (pc := 121) (tgt := 139) D10_text_121 (by decide) (fun k121 => ?_) (fun k121 => absurd k121 h27b)
          exact Kc s2 A2 (hF.tr f2) b2 (fun q => absurd q hl0)
    · have h27 : ¬ s 27 = 0 := by rw [h.1]; exact h0
      rw [show rdL K (g + 1) l R = (l, R) from by rw [rdL, if_neg (fun q => h0 q.1)]] at Kc
      refine J_aload_n (pc := 117) D10_text_117 rfl ?_
      refine J_getf (pc := 118) D10_text_118 fl10_193 rfl rfl ?_
      refine J_if_ne (pc := 121) (tgt := 139) D10_text_121 (by decide) (fun h121 => ?_) (fun h121 => absurd h121 h27)
      exact Kc s A hF h hG
/-- the end of a text -/
def txM (s : Nat → Int32) (A : Nat → Nat → Int32) (L0 : LL) (M : Nat → MR) (X : Nat × RS) (V : CV) : Option Value → List EC → Prop := fun r w' =>
  if X.2.1.2.1 = 0 then r = some (.int (nI X.1)) ∧ ∃ s' A' M', w' = modW s' A' L0 M' ∧ RT A' (tvR X.2) (npR X.2) (nbR X.2) (nnR X.2) ∧ CR False (npR X.2) (nbR X.2) (nnR X.2) (M' 0) (layF (tvR X.2) (nbR X.2) V) ∧ (∀ n, n < nnR X.2 → ∃ v, v ≤ 99 ∧ arR X.2 12 n = nI v) ∧ (∀ k, k < 3 ∨ 19 < k → A' k = A k) ∧ (∀ i, i ≠ 0 → M' i = M i) ∧ (s' 57 = nI 0 ∧ s' 58 = -1 ∧ s' 46 = nI 0 ∧ s' 47 = nI 0 ∧ s' 29 = X.2.1.2.1 ∧ s' 30 = X.2.1.2.2 ∧ s' 2 = nI 0) ∧ ∀ k, (k < 20 ∧ k ≠ 0 ∧ k ≠ 2) ∨ (32 < k ∧ k ≠ 46 ∧ k ≠ 47 ∧ k ≠ 57 ∧ k ≠ 58) → s' k = s k
  else r = some (.int (-1)) ∧ ∃ s' A', w' = modW s' A' L0 M ∧ (∀ k, k < 3 ∨ 19 < k → A' k = A k) ∧ (∀ k i, i < hfK k → A' k i = A k i) ∧ (s' 29 = X.2.1.2.1 ∧ s' 30 = X.2.1.2.2 ∧ s' 2 = nI 0) ∧ ∀ k, (k < 20 ∧ k ≠ 0 ∧ k ≠ 2) ∨ 32 < k → s' k = s k
theorem L10_tx139 {K : TK} {L cnt : Nat} (hK : KT K L cnt) {L0 : LL} {M : Nat → MR} {D : Nat} {s0 s : Nat → Int32} {A0 A : Nat → Nat → Int32} {x : Int32} (hD : 5 ≤ D) {X : Nat × RS} {V : CV} (hF : FLn s0 A0 s A) (h : CRl K L cnt s X.2.1) (hG : X.2.1.2.1 = 0 → GIv s A X.2 ∧ s 21 = nI X.1) (e2 : s0 2 = nI 0) {s9 : Nat → Int32} {A9 : Nat → Nat → Int32} (h9 : ∀ k, (k < 20 ∧ k ≠ 0 ∧ k ≠ 2) ∨ 32 < k → s0 k = s9 k) (hA9 : ∀ k, k < 3 ∨ 19 < k → A0 k = A9 k) (hB9 : ∀ k i, i < hfK k → A0 k i = A9 k i) : J m10_text D 0 0 40 139 [(0, .ref 0), (1, .int x)] [] (modW s A L0 M) 0 0 (txM s9 A9 L0 M X V) := by
  refine J_aload_n (pc := 139) D10_text_139 rfl ?_
  refine J_aload_n (pc := 140) D10_text_140 rfl ?_
  refine J_getf (pc := 141) D10_text_141 fl10_193 rfl rfl ?_
  refine J_mput (pc := 144) D10_text_144 fp10_288 ms_29 ?_
  refine J_aload_n (pc := 147) D10_text_147 rfl ?_
  refine J_aload_n (pc := 148) D10_text_148 rfl ?_
  refine J_getf (pc := 149) D10_text_149 fl10_196 rfl rfl ?_
  refine J_mput (pc := 152) D10_text_152 fp10_64 ms_30 ?_
  refine J_w (w2 := modW (updI (updI s 29 (s 27)) 30 (s 28)) A L0 M) rfl ?_
  refine J_aload_n (pc := 155) D10_text_155 rfl ?_
  refine J_getf (pc := 156) D10_text_156 fl10_193 rfl rfl ?_
  rw [show (updI (updI s 29 (s 27)) 30 (s 28)) 27 = X.2.1.2.1 from h.1]
  refine J_if_eq (pc := 159) (tgt := 164) D10_text_159 (by decide) (fun h159 => ?_) (fun h159 => ?_)
  · have h159' := eq_true h159
    obtain ⟨g1, g2⟩ := hG h159
    refine J_mono (L10_tx164 (K := K) (V := V) hD g1.1 g1.2.1) ?_
    rintro r w' ⟨rfl, s', A', M', rfl, q1, q2, q3, q4, ⟨q5, q6, q7, q8, q9, q10⟩, q11⟩
    unfold txM
    rw [if_pos h159]
    refine ⟨by rw [g2], s', A', M', rfl, q1, q2, g1.2.2.1, fun k hk => (q3 k hk).trans ((hF.2.1 k hk).trans (hA9 k hk)), q4, ⟨q5, q6, q7, q8, q9.trans h.1, q10.trans h.2.1, ?_⟩, fun k hk => ?_⟩
    · rw [q11 2 (by decide) (by decide) (by decide) (by decide) (by decide) (by decide)]; exact (hF.1 2 (by decide)).trans e2
    · rw [q11 k (by omega) (by omega) (by omega) (by omega) (by omega) (by omega), hF.1 k (by omega)]
      exact h9 k (by omega)
  · refine J_iconst (pc := 162) (v := (-1)) D10_text_162 (by decide) ?_
    refine J_iret (pc := 163) D10_text_163 rfl ?_
    unfold txM
    rw [if_neg h159]
    refine ⟨rfl, _, A, rfl, fun k hk => (hF.2.1 k hk).trans (hA9 k hk), fun k i hi => (hF.2.2 k i hi).trans (hB9 k i hi), ⟨h.1, h.2.1, (hF.1 2 (by decide)).trans e2⟩, fun k hk => ?_⟩
    rw [updI_n (by omega), updI_n (by omega), hF.1 k (by omega)]
    exact h9 k hk
theorem L10_tx47 {L0 : LL} {M : Nat → MR} {D : Nat} {s : Nat → Int32} {A0 : Nat → Nat → Int32} {x : Int32} (hD : 5 ≤ D) {Q : Option Value → List EC → Prop} : ∀ (g k : Nat) (A : Nat → Nat → Int32), k + g = 6 → (∀ j, j ≠ 3 → A j = A0 j) → (∀ i, i < 6 → A 3 i = A0 3 i) → (∀ i, i < k → A 3 (6 + i) = nI 0) →
    (∀ A, (∀ j, j ≠ 3 → A j = A0 j) → (∀ i, i < 6 → A 3 i = A0 3 i) → (∀ i, i < 6 → A 3 (6 + i) = nI 0) → J m10_text D 0 0 40 65 [(0, .ref 0), (1, .int x)] [] (modW s A L0 M) 0 0 Q) → J m10_text D 0 0 40 47 [(0, .ref 0), (1, .int x), (2, .int (nI k))] [] (modW s A L0 M) 0 0 Q := by
  intro g
  induction g with
  | zero =>
    intro k A hk h1 h2 h3 Kc
    have e6 : k = 6 := by omega
    subst e6
    refine J_iload_n (pc := 47) D10_text_47 rfl ?_
    refine J_bipush (pc := 48) (v := (nI 6)) D10_text_48 (by decide) ?_
    refine J_icmp_ge (pc := 50) (tgt := 65) D10_text_50 (by decide) (fun h50 => ?_) (fun h50 => absurd (nI_le (by omega) (by omega)) h50)
    refine J_lk [(0, .ref 0), (1, .int x)] rfl ?_
    exact Kc A h1 h2 h3
  | succ g ih =>
    intro k A hk h1 h2 h3 Kc
    refine J_iload_n (pc := 47) D10_text_47 rfl ?_
    refine J_bipush (pc := 48) (v := (nI 6)) D10_text_48 (by decide) ?_
    refine J_icmp_ge (pc := 50) (tgt := 65) D10_text_50 (by decide) (fun h50 => absurd h50 (nI_ge (by omega) (by omega))) (fun h50 => ?_)
    refine J_aload_n (pc := 53) D10_text_53 rfl ?_
    refine J_iload_n (pc := 54) D10_text_54 rfl ?_
    refine J_iconst (pc := 55) (v := (nI 0)) D10_text_55 (by decide) ?_
    refine J_callVT (pc := 56) (ac := [.int _, .int _]) D10_text_56 m10_reads_v t1431 (c10_reads (d := D - 2) (k := k) (by omega)) (by omega) rfl rfl rfl rfl rfl rfl rfl (fun r w' hq hl => ?_)
    obtain ⟨rfl, rfl⟩ := hq
    refine J_iinc (pc := 59) D10_text_59 rfl (nI_inc _) rfl ?_
    refine J_goto (pc := 62) (tgt := 47) D10_text_62 (by decide) ?_
    refine ih (k + 1) _ (by omega) (fun j hj => (upA_n hj).trans (h1 j hj)) (fun i hi => ?_) (fun i hi => ?_) Kc
    · rw [upA_s, pk_un (by omega)]; exact h2 i hi
    · rw [upA_s]
      by_cases e : i = k
      · rw [e, pk_us]
      · rw [pk_un (by omega)]; exact h3 i (by omega)
theorem L10_tx67 {L0 : LL} {M : Nat → MR} {D : Nat} {s : Nat → Int32} {A0 : Nat → Nat → Int32} {x : Int32} {Q : Option Value → List EC → Prop} : ∀ (g k : Nat) (A : Nat → Nat → Int32), k + g = 6 → 3 ≤ k → (∀ j, j ≠ 16 → j ≠ 17 → A j = A0 j) → (∀ i, i < 3 → A 16 i = A0 16 i ∧ A 17 i = A0 17 i) → (∀ i, 3 ≤ i → i < k → A 16 i = nI 0 ∧ A 17 i = nI 0) →
    (∀ A, (∀ j, j ≠ 16 → j ≠ 17 → A j = A0 j) → (∀ i, i < 3 → A 16 i = A0 16 i ∧ A 17 i = A0 17 i) → (∀ i, 3 ≤ i → i < 6 → A 16 i = nI 0 ∧ A 17 i = nI 0) → J m10_text D 0 0 40 93 [(0, .ref 0), (1, .int x)] [] (modW s A L0 M) 0 0 Q) → J m10_text D 0 0 40 67 [(0, .ref 0), (1, .int x), (2, .int (nI k))] [] (modW s A L0 M) 0 0 Q := by
  intro g
  induction g with
  | zero =>
    intro k A hk hk3 h1 h2 h3 Kc
    have e6 : k = 6 := by omega
    subst e6
    refine J_iload_n (pc := 67) D10_text_67 rfl ?_
    refine J_bipush (pc := 68) (v := (nI 6)) D10_text_68 (by decide) ?_
    refine J_icmp_ge (pc := 70) (tgt := 93) D10_text_70 (by decide) (fun h70 => ?_) (fun h70 => absurd (nI_le (by omega) (by omega)) h70)
    refine J_lk [(0, .ref 0), (1, .int x)] rfl ?_
    exact Kc A h1 h2 h3
  | succ g ih =>
    intro k A hk hk3 h1 h2 h3 Kc
    refine J_iload_n (pc := 67) D10_text_67 rfl ?_
    refine J_bipush (pc := 68) (v := (nI 6)) D10_text_68 (by decide) ?_
    refine J_icmp_ge (pc := 70) (tgt := 93) D10_text_70 (by decide) (fun h70 => absurd h70 (nI_ge (by omega) (by omega))) (fun h70 => ?_)
    refine J_aload_n (pc := 73) D10_text_73 rfl ?_
    refine J_getf (pc := 74) D10_text_74 fl10_52 rfl rfl ?_
    refine J_iload_n (pc := 77) D10_text_77 rfl ?_
    refine J_iconst (pc := 78) (v := (nI 0)) D10_text_78 (by decide) ?_
    refine J_mast (pc := 79) D10_text_79 ma_16 rfl (by omega) rfl ?_
    refine J_aload_n (pc := 80) D10_text_80 rfl ?_
    refine J_getf (pc := 81) D10_text_81 fl10_55 rfl rfl ?_
    refine J_iload_n (pc := 84) D10_text_84 rfl ?_
    refine J_iconst (pc := 85) (v := (nI 0)) D10_text_85 (by decide) ?_
    refine J_mast (pc := 86) D10_text_86 ma_17 rfl (by omega) rfl ?_
    refine J_iinc (pc := 87) D10_text_87 rfl (nI_inc _) rfl ?_
    refine J_goto (pc := 90) (tgt := 67) D10_text_90 (by decide) ?_
    have hA16 : (upA (upA A 16 (upd (A 16) k (nI 0))) 17 (upd ((upA A 16 (upd (A 16) k (nI 0))) 17) k (nI 0))) 16 = upd (A 16) k (nI 0) := rfl
    have hA17 : (upA (upA A 16 (upd (A 16) k (nI 0))) 17 (upd ((upA A 16 (upd (A 16) k (nI 0))) 17) k (nI 0))) 17 = upd (A 17) k (nI 0) := rfl
    refine ih (k + 1) _ (by omega) (by omega) (fun j a b => by rw [upA_n b, upA_n a]; exact h1 j a b) (fun i hi => ?_) (fun i hi hi2 => ?_) Kc
    · rw [hA16, hA17, pk_un (by omega), pk_un (by omega)]; exact h2 i hi
    · rw [hA16, hA17]
      by_cases e : i = k
      · rw [e, pk_us, pk_us]; exact ⟨rfl, rfl⟩
      · rw [pk_un e, pk_un e]; exact h3 i hi (by omega)
theorem tokI {d : Nat} {s : Nat → Int32} {A : Nat → Nat → Int32} {L0 : LL} {M : Nat → MR} {K : TK} {L cnt : Nat} (hK : KT K L cnt) (hTP : TP K.2.2.1 (A 1) L) (e23 : s 23 = nI 0) (e22 : s 22 = nI L) : Tr (d + 5) 0 0 m10_token [.ref 0] (modW s A L0 M) (fun r w' => r = none ∧ ∃ s', w' = modW s' A L0 M ∧ (∀ k, k ≠ 23 → k ≠ 24 → k ≠ 25 → k ≠ 26 → s' k = s k) ∧ MTk K L cnt s' 0) := by
  refine Tr.intro (by decide) rfl (J_mono (L10_token (d := d) hK.1 hTP (Nat.zero_le _) e23 e22) ?_)
  rintro r w' ⟨rfl, s2, rfl, a, b, e⟩
  exact ⟨rfl, s2, rfl, a, MTk.of hK (Nat.zero_le _) ((a 22 (by decide) (by decide) (by decide) (by decide)).trans e22) rfl b e⟩
theorem GIv.ini {s : Nat → Int32} {A : Nat → Nat → Int32} {T : TV} (h3 : ∀ i, i < 6 → A 3 (6 + i) = nI 0) (h16 : ∀ i, 3 ≤ i → i < 6 → A 16 i = nI 0 ∧ A 17 i = nI 0) (e20 : s 20 = nI 0) (e31 : s 31 = nI 0) (e32 : s 32 = nI 0) : GIv s A (rd0 T) := by
  refine ⟨⟨h3 0 (by decide), h3 1 (by decide), h3 2 (by decide), h3 3 (by decide), h3 4 (by decide), h3 5 (by decide), fun p hp => absurd hp (by show ¬ p < 0; omega), fun p hp => absurd hp (by show ¬ p < 0; omega), fun p hp => absurd hp (by show ¬ p < 0; omega), fun k hk => Or.inl ⟨rfl, (h16 (3 + k) (by omega) (by omega)).1, (h16 (3 + k) (by omega) (by omega)).2⟩, ⟨0, by decide, rfl⟩, ⟨0, by decide, rfl⟩, fun p hp => absurd hp (by show ¬ p < 0; omega)⟩, rd0_w.1, fun p hp => absurd hp (by show ¬ p < 0; omega), ⟨rfl, Nat.zero_le _, e32, e31⟩, ⟨?_, ?_, fun k hk => ?_⟩, fun k _ => Or.inl rfl⟩
  · rw [e20, hb_0 (by decide)]; exact ⟨fun q => (by cases q), fun q => absurd (show nI 0 = 0 from rfl) q⟩
  · rw [e20, hb_0 (by decide)]; exact ⟨fun q => (by cases q), fun q => absurd (show nI 0 = 0 from rfl) q⟩
  · rw [e20, hb_0 (by omega)]; exact ⟨fun q => (by cases q), fun q => absurd (show (-1 : Int32) = -1 from rfl) q⟩
theorem c10_text {d : Nat} {s : Nat → Int32} {A : Nat → Nat → Int32} {L0 : LL} {M : Nat → MR} {K : TK} {X : TV} {V : CV} {t L : Nat} (ht : t ≤ 700) (hL : L ≤ t) (e2 : s 2 = nI t) (hTP : TP K.2.2.1 (A 1) t) : Tr (d + 150) 0 0 m10_text [.ref 0, .int (nI L)] (modW s A L0 M) (txM s A L0 M (txX K X L) V) := by
  obtain ⟨cnt, hK⟩ := txK_t (K := K) (L := L) (by omega)
  have hTP2 : TP (txK K L).2.2.1 (A 1) L := fun i hi => hTP i (by omega)
  unfold txX
  generalize txK K L = K2 at hK hTP2
  refine Tr.intro (by decide) rfl ?_
  refine J_aload_n (pc := 0) D10_text_0 rfl ?_
  refine J_iconst (pc := 1) (v := (nI 0)) D10_text_1 (by decide) ?_
  refine J_mput (pc := 2) D10_text_2 fp10_139 ms_0 ?_
  refine J_iload_n (pc := 5) D10_text_5 rfl ?_
  refine J_if_lt (pc := 6) (tgt := 17) D10_text_6 (by decide) (fun h6 => absurd h6 (nI_pos (by omega))) (fun h6 => ?_)
  refine J_iload_n (pc := 9) D10_text_9 rfl ?_
  refine J_aload_n (pc := 10) D10_text_10 rfl ?_
  refine J_getf (pc := 11) D10_text_11 fl10_142 rfl rfl ?_
  rw [show (updI s 0 (nI 0)) 2 = nI t from e2]
  refine J_icmp_le (pc := 14) (tgt := 20) D10_text_14 (by decide) (fun h14 => ?_) (fun h14 => absurd (nI_le hL (by omega)) h14)
  refine J_aload_n (pc := 20) D10_text_20 rfl ?_
  refine J_iload_n (pc := 21) D10_text_21 rfl ?_
  refine J_mput (pc := 22) D10_text_22 fp10_148 ms_22 ?_
  refine J_aload_n (pc := 25) D10_text_25 rfl ?_
  refine J_iconst (pc := 26) (v := (nI 0)) D10_text_26 (by decide) ?_
  refine J_mput (pc := 27) D10_text_27 fp10_142 ms_2 ?_
  refine J_aload_n (pc := 30) D10_text_30 rfl ?_
  refine J_iconst (pc := 31) (v := (nI 0)) D10_text_31 (by decide) ?_
  refine J_mput (pc := 32) D10_text_32 fp10_145 ms_23 ?_
  refine J_aload_n (pc := 35) D10_text_35 rfl ?_
  refine J_iconst (pc := 36) (v := (nI 0)) D10_text_36 (by decide) ?_
  refine J_mput (pc := 37) D10_text_37 fp10_193 ms_27 ?_
  refine J_aload_n (pc := 40) D10_text_40 rfl ?_
  refine J_iconst (pc := 41) (v := (-1)) D10_text_41 (by decide) ?_
  refine J_mput (pc := 42) D10_text_42 fp10_196 ms_28 ?_
  refine J_iconst (pc := 45) (v := (nI 0)) D10_text_45 (by decide) ?_
  refine J_istore_n (pc := 46) D10_text_46 rfl ?_
  refine L10_tx47 (by omega) 6 0 A (by omega) (fun _ _ => rfl) (fun _ _ => rfl) (fun i hi => absurd hi (by omega)) (fun A1 b1 b2 b3 => ?_)
  refine J_iconst (pc := 65) (v := (nI 3)) D10_text_65 (by decide) ?_
  refine J_istore_n (pc := 66) D10_text_66 rfl ?_
  refine L10_tx67 3 3 A1 (by omega) (by omega) (fun _ _ _ => rfl) (fun _ _ => ⟨rfl, rfl⟩) (fun i h1 h2 => absurd h2 (by omega)) (fun A2 c1 c2 c3 => ?_)
  have hTP3 : TP K2.2.2.1 (A2 1) L := by rw [c1 1 (by decide) (by decide), b1 1 (by decide)]; exact hTP2
  refine J_aload_n (pc := 93) D10_text_93 rfl ?_
  refine J_iconst (pc := 94) (v := (nI 0)) D10_text_94 (by decide) ?_
  refine J_mput (pc := 95) D10_text_95 fp10_222 ms_20 ?_
  refine J_aload_n (pc := 98) D10_text_98 rfl ?_
  refine J_iconst (pc := 99) (v := (nI 0)) D10_text_99 (by decide) ?_
  refine J_mput (pc := 100) D10_text_100 fp10_249 ms_21 ?_
  refine J_aload_n (pc := 103) D10_text_103 rfl ?_
  refine J_iconst (pc := 104) (v := (nI 0)) D10_text_104 (by decide) ?_
  refine J_mput (pc := 105) D10_text_105 fp10_282 ms_31 ?_
  refine J_aload_n (pc := 108) D10_text_108 rfl ?_
  refine J_iconst (pc := 109) (v := (nI 0)) D10_text_109 (by decide) ?_
  refine J_mput (pc := 110) D10_text_110 fp10_255 ms_32 ?_
  refine J_aload_n (pc := 113) D10_text_113 rfl ?_
  refine J_callVT (pc := 114) (ac := []) D10_text_114 m10_token_v t1435 (tokI (d := d + 144) hK hTP3 rfl rfl) (by omega) rfl rfl rfl rfl rfl rfl rfl (fun r w' hq hl => ?_)
  obtain ⟨rfl, s2, rfl, a2, b2t⟩ := hq
  have hcr : CRl K2 L cnt s2 (rd0 X).1 := ⟨(a2 27 (by decide) (by decide) (by decide) (by decide)), (a2 28 (by decide) (by decide) (by decide) (by decide)), fun _ => b2t⟩
  have h3' : ∀ i, i < 6 → A2 3 (6 + i) = nI 0 := fun i hi => by rw [c1 3 (by decide) (by decide)]; exact b3 i hi
  refine L10_tx117 hK (s0 := s2) (A0 := A2) (by omega) 700 0 s2 A2 (rd0 X) (by have := hK.2.1; have := hK.1; omega) FLn.rf hTP3 hcr (fun _ => ⟨GIv.ini h3' c3 (a2 20 (by decide) (by decide) (by decide) (by decide)) (a2 31 (by decide) (by decide) (by decide) (by decide)) (a2 32 (by decide) (by decide) (by decide) (by decide)), a2 21 (by decide) (by decide) (by decide) (by decide)⟩) (fun s3 A3 f3 b3' g3 => ?_)
  refine L10_tx139 hK (by omega) f3 b3' g3 ((a2 2 (by decide) (by decide) (by decide) (by decide))) (fun k hk => ?_) (fun k hk => ?_) (fun k i hi => ?_)
  · rw [a2 k (by omega) (by omega) (by omega) (by omega)]
    rw [updI_n (by omega), updI_n (by omega), updI_n (by omega), updI_n (by omega), updI_n (by omega), updI_n (by omega), updI_n (by omega), updI_n (by omega), updI_n (by omega), updI_n (by omega)]
  · rw [c1 k (by omega) (by omega), b1 k (by omega)]
  · by_cases e16 : k = 16
    · subst e16; rw [(c2 i hi).1, b1 16 (by decide)]
    · by_cases e17 : k = 17
      · subst e17; rw [(c2 i hi).2, b1 17 (by decide)]
      · rw [c1 k e16 e17]
        by_cases e3 : k = 3
        · subst e3; exact b2 i hi
        · rw [b1 k e3]
theorem ixB_le {t : Nat} {x : Int32} (h0 : ¬ x < 0) (h : x ≤ nI t) (ht : t < 2 ^ 31 - 1) : ixB (t + 1) x = true := by
  obtain ⟨j, hj, rfl⟩ := nI_of h0
  exact ixB_n (by have := (nI_leI hj (by omega)).mp h; omega) (by omega)
theorem c10_textN {d : Nat} {s : Nat → Int32} {A : Nat → Nat → Int32} {L0 : LL} {M : Nat → MR} {t : Nat} {x : Int32} (ht : t ≤ 700) (e2 : s 2 = nI t) (hx : ixB (t + 1) x = false) : Tr d 0 0 m10_text [.ref 0, .int x] (modW s A L0 M) (fun r w' => r = some (.int (-2)) ∧ w' = modW (updI s 0 (nI 0)) A L0 M) := by
  refine Tr.intro (by decide) rfl ?_
  refine J_aload_n (pc := 0) D10_text_0 rfl ?_
  refine J_iconst (pc := 1) (v := (nI 0)) D10_text_1 (by decide) ?_
  refine J_mput (pc := 2) D10_text_2 fp10_139 ms_0 ?_
  refine J_iload_n (pc := 5) D10_text_5 rfl ?_
  refine J_if_lt (pc := 6) (tgt := 17) D10_text_6 (by decide) (fun h6 => ?_) (fun h6 => ?_)
  · have h6' := Int32.not_le.mpr h6
    refine J_bipush (pc := 17) (v := (-2)) D10_text_17 (by decide) ?_
    refine J_iret (pc := 19) D10_text_19 rfl ?_
    exact ⟨rfl, rfl⟩
  · have h6' := Int32.not_lt.mp h6
    refine J_iload_n (pc := 9) D10_text_9 rfl ?_
    refine J_aload_n (pc := 10) D10_text_10 rfl ?_
    refine J_getf (pc := 11) D10_text_11 fl10_142 rfl rfl ?_
    rw [show (updI s 0 (nI 0)) 2 = nI t from e2]
    refine J_icmp_le (pc := 14) (tgt := 20) D10_text_14 (by decide) (fun h14 => absurd h14 (fun q => absurd (ixB_le h6 q (by omega)) (by rw [hx]; decide))) (fun h14 => ?_)
    refine J_bipush (pc := 17) (v := (-2)) D10_text_17 (by decide) ?_
    refine J_iret (pc := 19) D10_text_19 rfl ?_
    exact ⟨rfl, rfl⟩
