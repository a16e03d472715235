/-! THE LAW FROM ITS START, bottle's case as a premise (own) -/
theorem RT00 : RT (fun _ _ => 0) T00 0 0 0 :=
  ⟨rfl, rfl, rfl, rfl, rfl, rfl, fun p hp => absurd hp (Nat.not_lt_zero p), fun p hp => absurd hp (Nat.not_lt_zero p), fun p hp => absurd hp (Nat.not_lt_zero p), fun k hk => Or.inl ⟨by
    rcases (show k = 0 ∨ k = 1 ∨ k = 2 by omega) with rfl | rfl | rfl <;> rfl, rfl, rfl⟩, ⟨0, by omega, rfl⟩, ⟨0, by omega, rfl⟩, fun p hp => absurd hp (Nat.not_lt_zero p)⟩
theorem REL00 {M : Nat → MR} {I : CV} {K : TK} (h : SI 0 (fun _ _ => 0) 0 (fun _ => (0, 0, 0, fun _ _ => 0)) M 5 10 8) : REL 0 0 0 0 0 T00 Vb0 (0, fun _ _ => 0) (0, -1, fun _ _ => 0) I K (0, 72, 0, 0, 0, -1) sM0 (fun _ _ => 0) M :=
  ⟨RT00, T00_w, h.cr RT00 T00_w, UR.clear (s := sM0) (M := M) (U := (0, fun _ _ => 0)) (V := V00) (fun _ _ => 0) rfl, ⟨rfl, rfl, Nat.zero_le _, Or.inl rfl, fun i hi => absurd hi (Nat.not_lt_zero i)⟩, rfl, rfl, fun hh => absurd rfl hh, YI.lay (fun p hp => absurd hp (Nat.not_lt_zero p)), fun hh => absurd rfl hh, rfl, Nat.zero_le _, fun i hi => absurd hi (Nat.not_lt_zero i), rfl, rfl⟩
theorem L_all {L : Nat} {xs : Nat → Int32} (hL : L ≤ 3072) (h4 : CS4 L xs) : JL L xs 0 [(0, .retAddr 1000)] [] [] 0 0 :=
  L_start (fun _ hM => L_loop hL h4 (L + 1) 0 131 16118 (by omega) (by omega) (by omega) (by omega) (REL00 hM))
