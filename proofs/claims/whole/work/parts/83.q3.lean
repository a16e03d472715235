/-! THE MODEL: reading, small methods (own program mod_q3.py) -/
theorem kv_num {kd vl so va : Int32} (h : KVR kd (some vl) so va) : so = nI 2 ↔ kd = nI 29 := by
  rcases h with ⟨j, hj, rfl, rfl, rfl⟩ | ⟨j, hj, rfl, rfl, rfl⟩ | ⟨j, hj, rfl, rfl, rfl⟩ | ⟨j, hj, rfl, rfl, rfl⟩ | ⟨rfl, rfl, -⟩ | ⟨rfl, rfl, -⟩ | ⟨rfl, rfl, rfl⟩ | ⟨rfl, rfl, rfl⟩ | ⟨rfl, rfl, rfl⟩ | ⟨rfl, rfl⟩ | ⟨rfl, rfl⟩
  · revert j; decide
  · revert j; decide
  · revert j; decide
  · revert j; decide
  · decide
  · decide
  · decide
  · decide
  · decide
  · decide
  · decide
theorem kv_nam {kd vl so va : Int32} (h : KVR kd (some vl) so va) : so = nI 1 ↔ kd = nI 30 := by
  rcases h with ⟨j, hj, rfl, rfl, rfl⟩ | ⟨j, hj, rfl, rfl, rfl⟩ | ⟨j, hj, rfl, rfl, rfl⟩ | ⟨j, hj, rfl, rfl, rfl⟩ | ⟨rfl, rfl, -⟩ | ⟨rfl, rfl, -⟩ | ⟨rfl, rfl, rfl⟩ | ⟨rfl, rfl, rfl⟩ | ⟨rfl, rfl, rfl⟩ | ⟨rfl, rfl⟩ | ⟨rfl, rfl⟩
  · revert j; decide
  · revert j; decide
  · revert j; decide
  · revert j; decide
  · decide
  · decide
  · decide
  · decide
  · decide
  · decide
  · decide
theorem kv_end {kd vl so va : Int32} (h : KVR kd (some vl) so va) : so = nI 4 ↔ kd = nI 34 := by
  rcases h with ⟨j, hj, rfl, rfl, rfl⟩ | ⟨j, hj, rfl, rfl, rfl⟩ | ⟨j, hj, rfl, rfl, rfl⟩ | ⟨j, hj, rfl, rfl, rfl⟩ | ⟨rfl, rfl, -⟩ | ⟨rfl, rfl, -⟩ | ⟨rfl, rfl, rfl⟩ | ⟨rfl, rfl, rfl⟩ | ⟨rfl, rfl, rfl⟩ | ⟨rfl, rfl⟩ | ⟨rfl, rfl⟩
  · revert j; decide
  · revert j; decide
  · revert j; decide
  · revert j; decide
  · decide
  · decide
  · decide
  · decide
  · decide
  · decide
  · decide
theorem kv_or {kd vl so va : Int32} (h : KVR kd (some vl) so va) : (so = nI 0 ∧ va = nI 9) ↔ kd = nI 16 := by
  rcases h with ⟨j, hj, rfl, rfl, rfl⟩ | ⟨j, hj, rfl, rfl, rfl⟩ | ⟨j, hj, rfl, rfl, rfl⟩ | ⟨j, hj, rfl, rfl, rfl⟩ | ⟨rfl, rfl, -⟩ | ⟨rfl, rfl, -⟩ | ⟨rfl, rfl, rfl⟩ | ⟨rfl, rfl, rfl⟩ | ⟨rfl, rfl, rfl⟩ | ⟨rfl, rfl⟩ | ⟨rfl, rfl⟩
  · revert j; decide
  · revert j; decide
  · revert j; decide
  · revert j; decide
  · exact ⟨fun q => absurd q.1 (by decide), fun q => absurd q (by decide)⟩
  · exact ⟨fun q => absurd q.1 (by decide), fun q => absurd q (by decide)⟩
  · decide
  · decide
  · decide
  · exact ⟨fun q => absurd q.1 (by decide), fun q => absurd q (by decide)⟩
  · exact ⟨fun q => absurd q.1 (by decide), fun q => absurd q (by decide)⟩
theorem kv_and {kd vl so va : Int32} (h : KVR kd (some vl) so va) : (so = nI 0 ∧ va = nI 10) ↔ kd = nI 17 := by
  rcases h with ⟨j, hj, rfl, rfl, rfl⟩ | ⟨j, hj, rfl, rfl, rfl⟩ | ⟨j, hj, rfl, rfl, rfl⟩ | ⟨j, hj, rfl, rfl, rfl⟩ | ⟨rfl, rfl, -⟩ | ⟨rfl, rfl, -⟩ | ⟨rfl, rfl, rfl⟩ | ⟨rfl, rfl, rfl⟩ | ⟨rfl, rfl, rfl⟩ | ⟨rfl, rfl⟩ | ⟨rfl, rfl⟩
  · revert j; decide
  · revert j; decide
  · revert j; decide
  · revert j; decide
  · exact ⟨fun q => absurd q.1 (by decide), fun q => absurd q (by decide)⟩
  · exact ⟨fun q => absurd q.1 (by decide), fun q => absurd q (by decide)⟩
  · decide
  · decide
  · decide
  · exact ⟨fun q => absurd q.1 (by decide), fun q => absurd q (by decide)⟩
  · exact ⟨fun q => absurd q.1 (by decide), fun q => absurd q (by decide)⟩
theorem kv_not {kd vl so va : Int32} (h : KVR kd (some vl) so va) : (so = nI 0 ∧ va = nI 11) ↔ kd = nI 18 := by
  rcases h with ⟨j, hj, rfl, rfl, rfl⟩ | ⟨j, hj, rfl, rfl, rfl⟩ | ⟨j, hj, rfl, rfl, rfl⟩ | ⟨j, hj, rfl, rfl, rfl⟩ | ⟨rfl, rfl, -⟩ | ⟨rfl, rfl, -⟩ | ⟨rfl, rfl, rfl⟩ | ⟨rfl, rfl, rfl⟩ | ⟨rfl, rfl, rfl⟩ | ⟨rfl, rfl⟩ | ⟨rfl, rfl⟩
  · revert j; decide
  · revert j; decide
  · revert j; decide
  · revert j; decide
  · exact ⟨fun q => absurd q.1 (by decide), fun q => absurd q (by decide)⟩
  · exact ⟨fun q => absurd q.1 (by decide), fun q => absurd q (by decide)⟩
  · decide
  · decide
  · decide
  · exact ⟨fun q => absurd q.1 (by decide), fun q => absurd q (by decide)⟩
  · exact ⟨fun q => absurd q.1 (by decide), fun q => absurd q (by decide)⟩
theorem kv_s59 {kd vl so va : Int32} (h : KVR kd (some vl) so va) : (so = nI 3 ∧ va = nI 59) ↔ kd = nI 31 := by
  rcases h with ⟨j, hj, rfl, rfl, rfl⟩ | ⟨j, hj, rfl, rfl, rfl⟩ | ⟨j, hj, rfl, rfl, rfl⟩ | ⟨j, hj, rfl, rfl, rfl⟩ | ⟨rfl, rfl, -⟩ | ⟨rfl, rfl, -⟩ | ⟨rfl, rfl, rfl⟩ | ⟨rfl, rfl, rfl⟩ | ⟨rfl, rfl, rfl⟩ | ⟨rfl, rfl⟩ | ⟨rfl, rfl⟩
  · revert j; decide
  · revert j; decide
  · revert j; decide
  · revert j; decide
  · exact ⟨fun q => absurd q.1 (by decide), fun q => absurd q (by decide)⟩
  · exact ⟨fun q => absurd q.1 (by decide), fun q => absurd q (by decide)⟩
  · decide
  · decide
  · decide
  · exact ⟨fun q => absurd q.1 (by decide), fun q => absurd q (by decide)⟩
  · exact ⟨fun q => absurd q.1 (by decide), fun q => absurd q (by decide)⟩
theorem kv_s40 {kd vl so va : Int32} (h : KVR kd (some vl) so va) : (so = nI 3 ∧ va = nI 40) ↔ kd = nI 32 := by
  rcases h with ⟨j, hj, rfl, rfl, rfl⟩ | ⟨j, hj, rfl, rfl, rfl⟩ | ⟨j, hj, rfl, rfl, rfl⟩ | ⟨j, hj, rfl, rfl, rfl⟩ | ⟨rfl, rfl, -⟩ | ⟨rfl, rfl, -⟩ | ⟨rfl, rfl, rfl⟩ | ⟨rfl, rfl, rfl⟩ | ⟨rfl, rfl, rfl⟩ | ⟨rfl, rfl⟩ | ⟨rfl, rfl⟩
  · revert j; decide
  · revert j; decide
  · revert j; decide
  · revert j; decide
  · exact ⟨fun q => absurd q.1 (by decide), fun q => absurd q (by decide)⟩
  · exact ⟨fun q => absurd q.1 (by decide), fun q => absurd q (by decide)⟩
  · decide
  · decide
  · decide
  · exact ⟨fun q => absurd q.1 (by decide), fun q => absurd q (by decide)⟩
  · exact ⟨fun q => absurd q.1 (by decide), fun q => absurd q (by decide)⟩
theorem kv_s41 {kd vl so va : Int32} (h : KVR kd (some vl) so va) : (so = nI 3 ∧ va = nI 41) ↔ kd = nI 33 := by
  rcases h with ⟨j, hj, rfl, rfl, rfl⟩ | ⟨j, hj, rfl, rfl, rfl⟩ | ⟨j, hj, rfl, rfl, rfl⟩ | ⟨j, hj, rfl, rfl, rfl⟩ | ⟨rfl, rfl, -⟩ | ⟨rfl, rfl, -⟩ | ⟨rfl, rfl, rfl⟩ | ⟨rfl, rfl, rfl⟩ | ⟨rfl, rfl, rfl⟩ | ⟨rfl, rfl⟩ | ⟨rfl, rfl⟩
  · revert j; decide
  · revert j; decide
  · revert j; decide
  · revert j; decide
  · exact ⟨fun q => absurd q.1 (by decide), fun q => absurd q (by decide)⟩
  · exact ⟨fun q => absurd q.1 (by decide), fun q => absurd q (by decide)⟩
  · decide
  · decide
  · decide
  · exact ⟨fun q => absurd q.1 (by decide), fun q => absurd q (by decide)⟩
  · exact ⟨fun q => absurd q.1 (by decide), fun q => absurd q (by decide)⟩
theorem kv_s43 {kd vl so va : Int32} (h : KVR kd (some vl) so va) : (so = nI 3 ∧ va = nI 43) ↔ kd = nI 25 := by
  rcases h with ⟨j, hj, rfl, rfl, rfl⟩ | ⟨j, hj, rfl, rfl, rfl⟩ | ⟨j, hj, rfl, rfl, rfl⟩ | ⟨j, hj, rfl, rfl, rfl⟩ | ⟨rfl, rfl, -⟩ | ⟨rfl, rfl, -⟩ | ⟨rfl, rfl, rfl⟩ | ⟨rfl, rfl, rfl⟩ | ⟨rfl, rfl, rfl⟩ | ⟨rfl, rfl⟩ | ⟨rfl, rfl⟩
  · revert j; decide
  · revert j; decide
  · revert j; decide
  · revert j; decide
  · exact ⟨fun q => absurd q.1 (by decide), fun q => absurd q (by decide)⟩
  · exact ⟨fun q => absurd q.1 (by decide), fun q => absurd q (by decide)⟩
  · decide
  · decide
  · decide
  · exact ⟨fun q => absurd q.1 (by decide), fun q => absurd q (by decide)⟩
  · exact ⟨fun q => absurd q.1 (by decide), fun q => absurd q (by decide)⟩
theorem kv_s45 {kd vl so va : Int32} (h : KVR kd (some vl) so va) : (so = nI 3 ∧ va = nI 45) ↔ kd = nI 26 := by
  rcases h with ⟨j, hj, rfl, rfl, rfl⟩ | ⟨j, hj, rfl, rfl, rfl⟩ | ⟨j, hj, rfl, rfl, rfl⟩ | ⟨j, hj, rfl, rfl, rfl⟩ | ⟨rfl, rfl, -⟩ | ⟨rfl, rfl, -⟩ | ⟨rfl, rfl, rfl⟩ | ⟨rfl, rfl, rfl⟩ | ⟨rfl, rfl, rfl⟩ | ⟨rfl, rfl⟩ | ⟨rfl, rfl⟩
  · revert j; decide
  · revert j; decide
  · revert j; decide
  · revert j; decide
  · exact ⟨fun q => absurd q.1 (by decide), fun q => absurd q (by decide)⟩
  · exact ⟨fun q => absurd q.1 (by decide), fun q => absurd q (by decide)⟩
  · decide
  · decide
  · decide
  · exact ⟨fun q => absurd q.1 (by decide), fun q => absurd q (by decide)⟩
  · exact ⟨fun q => absurd q.1 (by decide), fun q => absurd q (by decide)⟩
theorem kv_s42 {kd vl so va : Int32} (h : KVR kd (some vl) so va) : (so = nI 3 ∧ va = nI 42) ↔ kd = nI 27 := by
  rcases h with ⟨j, hj, rfl, rfl, rfl⟩ | ⟨j, hj, rfl, rfl, rfl⟩ | ⟨j, hj, rfl, rfl, rfl⟩ | ⟨j, hj, rfl, rfl, rfl⟩ | ⟨rfl, rfl, -⟩ | ⟨rfl, rfl, -⟩ | ⟨rfl, rfl, rfl⟩ | ⟨rfl, rfl, rfl⟩ | ⟨rfl, rfl, rfl⟩ | ⟨rfl, rfl⟩ | ⟨rfl, rfl⟩
  · revert j; decide
  · revert j; decide
  · revert j; decide
  · revert j; decide
  · exact ⟨fun q => absurd q.1 (by decide), fun q => absurd q (by decide)⟩
  · exact ⟨fun q => absurd q.1 (by decide), fun q => absurd q (by decide)⟩
  · decide
  · decide
  · decide
  · exact ⟨fun q => absurd q.1 (by decide), fun q => absurd q (by decide)⟩
  · exact ⟨fun q => absurd q.1 (by decide), fun q => absurd q (by decide)⟩
theorem kv_s47 {kd vl so va : Int32} (h : KVR kd (some vl) so va) : (so = nI 3 ∧ va = nI 47) ↔ kd = nI 28 := by
  rcases h with ⟨j, hj, rfl, rfl, rfl⟩ | ⟨j, hj, rfl, rfl, rfl⟩ | ⟨j, hj, rfl, rfl, rfl⟩ | ⟨j, hj, rfl, rfl, rfl⟩ | ⟨rfl, rfl, -⟩ | ⟨rfl, rfl, -⟩ | ⟨rfl, rfl, rfl⟩ | ⟨rfl, rfl, rfl⟩ | ⟨rfl, rfl, rfl⟩ | ⟨rfl, rfl⟩ | ⟨rfl, rfl⟩
  · revert j; decide
  · revert j; decide
  · revert j; decide
  · revert j; decide
  · exact ⟨fun q => absurd q.1 (by decide), fun q => absurd q (by decide)⟩
  · exact ⟨fun q => absurd q.1 (by decide), fun q => absurd q (by decide)⟩
  · decide
  · decide
  · decide
  · exact ⟨fun q => absurd q.1 (by decide), fun q => absurd q (by decide)⟩
  · exact ⟨fun q => absurd q.1 (by decide), fun q => absurd q (by decide)⟩
theorem kv_cmp {kd vl so va : Int32} (h : KVR kd (some vl) so va) : (so = nI 3 ∧ (va = nI 60 ∨ va = nI 62 ∨ va = nI 61 ∨ nI 256 ≤ va)) ↔ (nI 19 ≤ kd ∧ kd ≤ nI 24) := by
  rcases h with ⟨j, hj, rfl, rfl, rfl⟩ | ⟨j, hj, rfl, rfl, rfl⟩ | ⟨j, hj, rfl, rfl, rfl⟩ | ⟨j, hj, rfl, rfl, rfl⟩ | ⟨rfl, rfl, -⟩ | ⟨rfl, rfl, -⟩ | ⟨rfl, rfl, rfl⟩ | ⟨rfl, rfl, rfl⟩ | ⟨rfl, rfl, rfl⟩ | ⟨rfl, rfl⟩ | ⟨rfl, rfl⟩
  · revert j; decide
  · revert j; decide
  · revert j; decide
  · revert j; decide
  · exact ⟨fun q => absurd q.1 (by decide), fun q => absurd q (by decide)⟩
  · exact ⟨fun q => absurd q.1 (by decide), fun q => absurd q (by decide)⟩
  · decide
  · decide
  · decide
  · exact ⟨fun q => absurd q.1 (by decide), fun q => absurd q (by decide)⟩
  · exact ⟨fun q => absurd q.1 (by decide), fun q => absurd q (by decide)⟩
theorem kv_cmv {kd vl so va : Int32} (h : KVR kd (some vl) so va) : (nI 19 ≤ kd ∧ kd ≤ nI 28) → va = sgM kd := by
  rcases h with ⟨j, hj, rfl, rfl, rfl⟩ | ⟨j, hj, rfl, rfl, rfl⟩ | ⟨j, hj, rfl, rfl, rfl⟩ | ⟨j, hj, rfl, rfl, rfl⟩ | ⟨rfl, rfl, -⟩ | ⟨rfl, rfl, -⟩ | ⟨rfl, rfl, rfl⟩ | ⟨rfl, rfl, rfl⟩ | ⟨rfl, rfl, rfl⟩ | ⟨rfl, rfl⟩ | ⟨rfl, rfl⟩
  · revert j; decide
  · revert j; decide
  · revert j; decide
  · revert j; decide
  · exact fun q => absurd q (by decide)
  · exact fun q => absurd q (by decide)
  · decide
  · decide
  · decide
  · exact fun q => absurd q (by decide)
  · exact fun q => absurd q (by decide)
theorem kv_lin {kd vl so va : Int32} (h : KVR kd (some vl) so va) : (so = nI 0 ∧ va ≤ nI 5) ↔ (kd = nI 0 ∨ kd = nI 1 ∨ kd = nI 2 ∨ kd = nI 3 ∨ kd = nI 4 ∨ kd = nI 5) := by
  rcases h with ⟨j, hj, rfl, rfl, rfl⟩ | ⟨j, hj, rfl, rfl, rfl⟩ | ⟨j, hj, rfl, rfl, rfl⟩ | ⟨j, hj, rfl, rfl, rfl⟩ | ⟨rfl, rfl, -⟩ | ⟨rfl, rfl, -⟩ | ⟨rfl, rfl, rfl⟩ | ⟨rfl, rfl, rfl⟩ | ⟨rfl, rfl, rfl⟩ | ⟨rfl, rfl⟩ | ⟨rfl, rfl⟩
  · revert j; decide
  · revert j; decide
  · revert j; decide
  · revert j; decide
  · exact ⟨fun q => absurd q.1 (by decide), fun q => absurd q (by decide)⟩
  · exact ⟨fun q => absurd q.1 (by decide), fun q => absurd q (by decide)⟩
  · decide
  · decide
  · decide
  · exact ⟨fun q => absurd q.1 (by decide), fun q => absurd q (by decide)⟩
  · exact ⟨fun q => absurd q.1 (by decide), fun q => absurd q (by decide)⟩
theorem kv_law {kd vl so va : Int32} (h : KVR kd (some vl) so va) : (so = nI 0 ∧ (nI 6 ≤ va ∧ va ≤ nI 8)) ↔ (nI 6 ≤ kd ∧ kd ≤ nI 8) := by
  rcases h with ⟨j, hj, rfl, rfl, rfl⟩ | ⟨j, hj, rfl, rfl, rfl⟩ | ⟨j, hj, rfl, rfl, rfl⟩ | ⟨j, hj, rfl, rfl, rfl⟩ | ⟨rfl, rfl, -⟩ | ⟨rfl, rfl, -⟩ | ⟨rfl, rfl, rfl⟩ | ⟨rfl, rfl, rfl⟩ | ⟨rfl, rfl, rfl⟩ | ⟨rfl, rfl⟩ | ⟨rfl, rfl⟩
  · revert j; decide
  · revert j; decide
  · revert j; decide
  · revert j; decide
  · exact ⟨fun q => absurd q.1 (by decide), fun q => absurd q (by decide)⟩
  · exact ⟨fun q => absurd q.1 (by decide), fun q => absurd q (by decide)⟩
  · decide
  · decide
  · decide
  · exact ⟨fun q => absurd q.1 (by decide), fun q => absurd q (by decide)⟩
  · exact ⟨fun q => absurd q.1 (by decide), fun q => absurd q (by decide)⟩
theorem kv_nms {kd vl so va : Int32} (h : KVR kd (some vl) so va) : (so = nI 0 ∧ nI 12 ≤ va) ↔ (nI 9 ≤ kd ∧ kd ≤ nI 15) := by
  rcases h with ⟨j, hj, rfl, rfl, rfl⟩ | ⟨j, hj, rfl, rfl, rfl⟩ | ⟨j, hj, rfl, rfl, rfl⟩ | ⟨j, hj, rfl, rfl, rfl⟩ | ⟨rfl, rfl, -⟩ | ⟨rfl, rfl, -⟩ | ⟨rfl, rfl, rfl⟩ | ⟨rfl, rfl, rfl⟩ | ⟨rfl, rfl, rfl⟩ | ⟨rfl, rfl⟩ | ⟨rfl, rfl⟩
  · revert j; decide
  · revert j; decide
  · revert j; decide
  · revert j; decide
  · exact ⟨fun q => absurd q.1 (by decide), fun q => absurd q (by decide)⟩
  · exact ⟨fun q => absurd q.1 (by decide), fun q => absurd q (by decide)⟩
  · decide
  · decide
  · decide
  · exact ⟨fun q => absurd q.1 (by decide), fun q => absurd q (by decide)⟩
  · exact ⟨fun q => absurd q.1 (by decide), fun q => absurd q (by decide)⟩
theorem kv_val {kd vl so va : Int32} (h : KVR kd (some vl) so va) (q : kd = nI 30) : va = vl := by
  rcases h with ⟨j, hj, rfl, -, -⟩ | ⟨j, hj, rfl, -, -⟩ | ⟨j, hj, rfl, -, -⟩ | ⟨j, hj, rfl, -, -⟩ | ⟨rfl, -, -⟩ | ⟨-, -, e⟩ | ⟨rfl, -, -⟩ | ⟨rfl, -, -⟩ | ⟨rfl, -, -⟩ | ⟨rfl, -⟩ | ⟨rfl, -⟩
  · exact absurd q (by revert j; decide)
  · exact absurd q (by revert j; decide)
  · exact absurd q (by revert j; decide)
  · exact absurd q (by revert j; decide)
  · exact absurd q (by decide)
  · exact (Option.some.inj e).symm
  all_goals exact absurd q (by decide)
theorem kv_nv {kd vl so va : Int32} (h : KVR kd (some vl) so va) (q : kd = nI 29) : NuV vl va := by
  rcases h with ⟨j, hj, rfl, -, -⟩ | ⟨j, hj, rfl, -, -⟩ | ⟨j, hj, rfl, -, -⟩ | ⟨j, hj, rfl, -, -⟩ | ⟨-, -, v, e, hn⟩ | ⟨rfl, -, -⟩ | ⟨rfl, -, -⟩ | ⟨rfl, -, -⟩ | ⟨rfl, -, -⟩ | ⟨rfl, -⟩ | ⟨rfl, -⟩
  · exact absurd q (by revert j; decide)
  · exact absurd q (by revert j; decide)
  · exact absurd q (by revert j; decide)
  · exact absurd q (by revert j; decide)
  · cases e; exact hn
  all_goals exact absurd q (by decide)
theorem kv_w8 {kd vl so va : Int32} (h : KVR kd (some vl) so va) (q : ∃ j, j < 9 ∧ kd = nI j) : va = kd := by
  obtain ⟨i, hi, q⟩ := q
  rcases h with ⟨j, hj, rfl, -, e⟩ | ⟨j, hj, rfl, -, -⟩ | ⟨j, hj, rfl, -, -⟩ | ⟨j, hj, rfl, -, -⟩ | ⟨rfl, -, -⟩ | ⟨rfl, -, -⟩ | ⟨rfl, -, -⟩ | ⟨rfl, -, -⟩ | ⟨rfl, -, -⟩ | ⟨rfl, -⟩ | ⟨rfl, -⟩
  · exact e
  all_goals exact absurd (nI_eqI (by omega) (by omega) q) (by omega)
theorem kv_n9 {kd vl so va : Int32} (h : KVR kd (some vl) so va) (q : nI 9 ≤ kd ∧ kd ≤ nI 15) : ∃ j, j < 7 ∧ kd = nI (9 + j) ∧ va = nI (12 + j) := by
  rcases h with ⟨j, hj, rfl, -, e⟩ | ⟨j, hj, e1, -, e2⟩ | ⟨j, hj, rfl, -, -⟩ | ⟨j, hj, rfl, -, -⟩ | ⟨rfl, -, -⟩ | ⟨rfl, -, -⟩ | ⟨rfl, -, -⟩ | ⟨rfl, -, -⟩ | ⟨rfl, -, -⟩ | ⟨rfl, -⟩ | ⟨rfl, -⟩
  · exact absurd ((nI_leI (by omega) (by omega)).mp q.1) (by omega)
  · exact ⟨j, hj, e1, e2⟩
  all_goals exact absurd ((nI_leI (by omega) (by omega)).mp q.2) (by omega)
/-- the reader's place and fault, on both sides -/
def CRl (K : TK) (L cnt : Nat) (s : Nat → Int32) (C : RC) : Prop := s 27 = C.2.1 ∧ s 28 = C.2.2 ∧ (C.2.1 = 0 → MTk K L cnt s C.1)
/-- but for the token at hand and the fault nothing has changed -/
def FS (s s' : Nat → Int32) : Prop := ∀ k, (k < 23 ∨ 28 < k) → s' k = s k
theorem FS.rf {s : Nat → Int32} : FS s s := fun _ _ => rfl
theorem FS.tr {s s' s'' : Nat → Int32} (h : FS s s') (h' : FS s' s'') : FS s s'' := fun k hk => (h' k hk).trans (h k hk)
theorem CRl.c {K : TK} {L cnt : Nat} {s s' : Nat → Int32} {C : RC} (h : CRl K L cnt s C) (e : ∀ k, 22 ≤ k → k ≤ 28 → s' k = s k) : CRl K L cnt s' C := ⟨(e 27 (by decide) (by decide)).trans h.1, (e 28 (by decide) (by decide)).trans h.2.1, fun q => (h.2.2 q).c (fun k hk => e k (by omega) (by omega))⟩
theorem refC_0 {K : TK} {f : Int32} {C : RC} (h : C.2.1 = 0) : refC K f C = (C.1, f, K.2.2.2.2.1 C.1) := if_pos h
theorem refC_n {K : TK} {f : Int32} {C : RC} (h : ¬ C.2.1 = 0) : refC K f C = C := if_neg h
theorem c10_wrong {d : Nat} {s : Nat → Int32} {A : Nat → Nat → Int32} {L0 : LL} {M : Nat → MR} {K : TK} {L cnt : Nat} {C : RC} (h : CRl K L cnt s C) {x : Int32} (hx : ¬ x = 0) : Tr d 0 0 m10_wrong [.ref 0, .int x] (modW s A L0 M) (fun r w' => r = none ∧ ∃ s', w' = modW s' A L0 M ∧ FS s s' ∧ CRl K L cnt s' (refC K x C)) := by
  obtain ⟨h1, h2, h3⟩ := h
  refine Tr.intro (by decide) rfl ?_
  refine J_aload_n (pc := 0) D10_wrong_0 rfl ?_
  refine J_getf (pc := 1) D10_wrong_1 fl10_193 rfl rfl ?_
  rw [h1]
  refine J_if_eq (pc := 4) (tgt := 8) D10_wrong_4 (by decide) (fun h4 => ?_) (fun h4 => ?_)
  · have h4' := eq_true h4
    refine J_aload_n (pc := 8) D10_wrong_8 rfl ?_
    refine J_iload_n (pc := 9) D10_wrong_9 rfl ?_
    refine J_mput (pc := 10) D10_wrong_10 fp10_193 ms_27 ?_
    refine J_aload_n (pc := 13) D10_wrong_13 rfl ?_
    refine J_aload_n (pc := 14) D10_wrong_14 rfl ?_
    refine J_getf (pc := 15) D10_wrong_15 fl10_155 rfl rfl ?_
    refine J_mput (pc := 18) D10_wrong_18 fp10_196 ms_28 ?_
    refine J_vret (pc := 21) D10_wrong_21 rfl ?_
    refine ⟨rfl, _, rfl, fun k hk => (updI_n (by omega)).trans (updI_n (by omega)), ?_⟩
    rw [refC_0 h4]
    exact ⟨rfl, (h3 h4).2.2.1, fun q => absurd q hx⟩
  · refine J_vret (pc := 7) D10_wrong_7 rfl ?_
    exact ⟨rfl, s, rfl, FS.rf, by rw [refC_n h4]; exact ⟨h1, h2, h3⟩⟩
theorem c10_isWord {d : Nat} {s : Nat → Int32} {A : Nat → Nat → Int32} {L0 : LL} {M : Nat → MR} {x : Int32} : TR d m10_isWord [.ref 0, .int x] (modW s A L0 M) (.int (i01 (s 27 = 0 ∧ (s 25 = nI 0 ∧ s 26 = x)))) := by
  refine Tr.intro (by decide) rfl ?_
  refine J_aload_n (pc := 0) D10_isWord_0 rfl ?_
  refine J_getf (pc := 1) D10_isWord_1 fl10_193 rfl rfl ?_
  refine J_if_ne (pc := 4) (tgt := 26) D10_isWord_4 (by decide) (fun h4 => ?_) (fun h4 => ?_)
  · refine J_iconst (pc := 26) (v := (nI 0)) D10_isWord_26 (by decide) ?_
    refine J_zret (pc := 27) D10_isWord_27 rfl (by decide) ?_
    exact ⟨rfl, congrArg (fun q => some (Value.int q)) (i01_f (fun q => h4 q.1)).symm⟩
  · have h4' := eq_true h4
    refine J_aload_n (pc := 7) D10_isWord_7 rfl ?_
    refine J_getf (pc := 8) D10_isWord_8 fl10_158 rfl rfl ?_
    refine J_if_ne (pc := 11) (tgt := 26) D10_isWord_11 (by decide) (fun h11 => ?_) (fun h11 => ?_)
    · refine J_iconst (pc := 26) (v := (nI 0)) D10_isWord_26 (by decide) ?_
      refine J_zret (pc := 27) D10_isWord_27 rfl (by decide) ?_
      exact ⟨rfl, congrArg (fun q => some (Value.int q)) (i01_f (fun q => h11 q.2.1)).symm⟩
    · have h11' := eq_true h11
      refine J_aload_n (pc := 14) D10_isWord_14 rfl ?_
      refine J_getf (pc := 15) D10_isWord_15 fl10_168 rfl rfl ?_
      refine J_iload_n (pc := 18) D10_isWord_18 rfl ?_
      refine J_icmp_ne (pc := 19) (tgt := 26) D10_isWord_19 (by decide) (fun h19 => ?_) (fun h19 => ?_)
      · refine J_iconst (pc := 26) (v := (nI 0)) D10_isWord_26 (by decide) ?_
        refine J_zret (pc := 27) D10_isWord_27 rfl (by decide) ?_
        exact ⟨rfl, congrArg (fun q => some (Value.int q)) (i01_f (fun q => h19 q.2.2)).symm⟩
      · have h19' := eq_true h19
        refine J_iconst (pc := 22) (v := (nI 1)) D10_isWord_22 (by decide) ?_
        refine J_goto (pc := 23) (tgt := 27) D10_isWord_23 (by decide) ?_
        refine J_zret (pc := 27) D10_isWord_27 rfl (by decide) ?_
        exact ⟨rfl, congrArg (fun q => some (Value.int q)) (i01_t ⟨h4, h11, h19⟩).symm⟩
theorem c10_isSign {d : Nat} {s : Nat → Int32} {A : Nat → Nat → Int32} {L0 : LL} {M : Nat → MR} {x : Int32} : TR d m10_isSign [.ref 0, .int x] (modW s A L0 M) (.int (i01 (s 27 = 0 ∧ (s 25 = nI 3 ∧ s 26 = x)))) := by
  refine Tr.intro (by decide) rfl ?_
  refine J_aload_n (pc := 0) D10_isSign_0 rfl ?_
  refine J_getf (pc := 1) D10_isSign_1 fl10_193 rfl rfl ?_
  refine J_if_ne (pc := 4) (tgt := 27) D10_isSign_4 (by decide) (fun h4 => ?_) (fun h4 => ?_)
  · refine J_iconst (pc := 27) (v := (nI 0)) D10_isSign_27 (by decide) ?_
    refine J_zret (pc := 28) D10_isSign_28 rfl (by decide) ?_
    exact ⟨rfl, congrArg (fun q => some (Value.int q)) (i01_f (fun q => h4 q.1)).symm⟩
  · have h4' := eq_true h4
    refine J_aload_n (pc := 7) D10_isSign_7 rfl ?_
    refine J_getf (pc := 8) D10_isSign_8 fl10_158 rfl rfl ?_
    refine J_iconst (pc := 11) (v := (nI 3)) D10_isSign_11 (by decide) ?_
    refine J_icmp_ne (pc := 12) (tgt := 27) D10_isSign_12 (by decide) (fun h12 => ?_) (fun h12 => ?_)
    · refine J_iconst (pc := 27) (v := (nI 0)) D10_isSign_27 (by decide) ?_
      refine J_zret (pc := 28) D10_isSign_28 rfl (by decide) ?_
      exact ⟨rfl, congrArg (fun q => some (Value.int q)) (i01_f (fun q => h12 q.2.1)).symm⟩
    · have h12' := eq_true h12
      refine J_aload_n (pc := 15) D10_isSign_15 rfl ?_
      refine J_getf (pc := 16) D10_isSign_16 fl10_168 rfl rfl ?_
      refine J_iload_n (pc := 19) D10_isSign_19 rfl ?_
      refine J_icmp_ne (pc := 20) (tgt := 27) D10_isSign_20 (by decide) (fun h20 => ?_) (fun h20 => ?_)
      · refine J_iconst (pc := 27) (v := (nI 0)) D10_isSign_27 (by decide) ?_
        refine J_zret (pc := 28) D10_isSign_28 rfl (by decide) ?_
        exact ⟨rfl, congrArg (fun q => some (Value.int q)) (i01_f (fun q => h20 q.2.2)).symm⟩
      · have h20' := eq_true h20
        refine J_iconst (pc := 23) (v := (nI 1)) D10_isSign_23 (by decide) ?_
        refine J_goto (pc := 24) (tgt := 28) D10_isSign_24 (by decide) ?_
        refine J_zret (pc := 28) D10_isSign_28 rfl (by decide) ?_
        exact ⟨rfl, congrArg (fun q => some (Value.int q)) (i01_t ⟨h4, h12, h20⟩).symm⟩
theorem stepC_1 {K : TK} {L cnt : Nat} {s : Nat → Int32} {C : RC} (hK : KT K L cnt) (h : MTk K L cnt s C.1) : stepC K C = (if C.1 < cnt then C.1 + 1 else C.1, C.2) := by
  unfold stepC
  by_cases q : C.1 = cnt
  · rw [if_pos ((hK.end h.1).mpr q), if_neg (by omega)]
  · rw [if_neg (fun e => q ((hK.end h.1).mp e)), if_pos (by have := h.1; omega)]
def goC (K : TK) (C : RC) : RC := if C.2.1 = 0 then stepC K C else C
theorem tokC_l {d : Nat} {s : Nat → Int32} {A : Nat → Nat → Int32} {L0 : LL} {M : Nat → MR} {K : TK} {L cnt : Nat} (hK : KT K L cnt) (hTP : TP K.2.2.1 (A 1) L) {C : RC} (h : CRl K L cnt s C) (h0 : C.2.1 = 0) : Tr (d + 5) 0 0 m10_token [.ref 0] (modW s A L0 M) (fun r w' => r = none ∧ ∃ s', w' = modW s' A L0 M ∧ FS s s' ∧ CRl K L cnt s' (stepC K C)) := by
  obtain ⟨h1, h2, h3⟩ := h
  refine Tr.intro (by decide) rfl (J_mono (L10_tokC (d := d) hK hTP (h3 h0)) ?_)
  rintro r w' ⟨rfl, s2, rfl, a, b⟩
  refine ⟨rfl, s2, rfl, fun k hk => a k (by omega) (by omega) (by omega) (by omega), ?_⟩
  rw [stepC_1 hK (h3 h0)]
  exact ⟨(a 27 (by decide) (by decide) (by decide) (by decide)).trans h1, (a 28 (by decide) (by decide) (by decide) (by decide)).trans h2, fun _ => b⟩
theorem c10_goOn {d : Nat} {s : Nat → Int32} {A : Nat → Nat → Int32} {L0 : LL} {M : Nat → MR} {K : TK} {L cnt : Nat} (hK : KT K L cnt) (hTP : TP K.2.2.1 (A 1) L) {C : RC} (h : CRl K L cnt s C) : Tr (d + 6) 0 0 m10_goOn [.ref 0] (modW s A L0 M) (fun r w' => r = none ∧ ∃ s', w' = modW s' A L0 M ∧ FS s s' ∧ CRl K L cnt s' (goC K C)) := by
  have h1 := h.1
  refine Tr.intro (by decide) rfl ?_
  refine J_aload_n (pc := 0) D10_goOn_0 rfl ?_
  refine J_getf (pc := 1) D10_goOn_1 fl10_193 rfl rfl ?_
  rw [h1]
  refine J_if_ne (pc := 4) (tgt := 11) D10_goOn_4 (by decide) (fun h4 => ?_) (fun h4 => ?_)
  · refine J_vret (pc := 11) D10_goOn_11 rfl ?_
    exact ⟨rfl, s, rfl, FS.rf, by unfold goC; rw [if_neg h4]; exact h⟩
  · have h4' := eq_true h4
    refine J_aload_n (pc := 7) D10_goOn_7 rfl ?_
    refine J_callVT (pc := 8) (ac := []) D10_goOn_8 m10_token_v t1435 (tokC_l (d := d) hK hTP h h4) (by omega) rfl rfl rfl rfl rfl rfl rfl (fun r w' hq hl => ?_)
    obtain ⟨rfl, s2, rfl, a, b⟩ := hq
    refine J_vret (pc := 11) D10_goOn_11 rfl ?_
    exact ⟨rfl, s2, rfl, a, by unfold goC; rw [if_pos h4]; exact b⟩
theorem c10_fresher {d : Nat} {s : Nat → Int32} {A : Nat → Nat → Int32} {L0 : LL} {M : Nat → MR} {k : Nat} (hk : k < 6) : TR d m10_fresher [.ref 0, .int (nI k)] (modW s A L0 M) (.int (A 3 (6 + k))) := by
  refine Tr.intro (by decide) rfl ?_
  refine J_aload_n (pc := 0) D10_fresher_0 rfl ?_
  refine J_getf (pc := 1) D10_fresher_1 fl10_13 rfl rfl ?_
  refine J_bipush (pc := 4) (v := (nI 6)) D10_fresher_4 (by decide) ?_
  refine J_iload_n (pc := 6) D10_fresher_6 rfl ?_
  refine J_iadd (pc := 7) D10_fresher_7 ?_
  refine J_mald (pc := 8) D10_fresher_8 ma_3 (nI_add 6 k) (by omega) rfl ?_
  refine J_iret (pc := 9) D10_fresher_9 rfl ?_
  exact ⟨rfl, rfl⟩
theorem c10_reads {d : Nat} {s : Nat → Int32} {A : Nat → Nat → Int32} {L0 : LL} {M : Nat → MR} {k : Nat} {v : Int32} (hk : k < 6) : Tr d 0 0 m10_reads [.ref 0, .int (nI k), .int v] (modW s A L0 M) (fun r w' => r = none ∧ w' = modW s (upA A 3 (upd (A 3) (6 + k) v)) L0 M) := by
  refine Tr.intro (by decide) rfl ?_
  refine J_aload_n (pc := 0) D10_reads_0 rfl ?_
  refine J_getf (pc := 1) D10_reads_1 fl10_13 rfl rfl ?_
  refine J_bipush (pc := 4) (v := (nI 6)) D10_reads_4 (by decide) ?_
  refine J_iload_n (pc := 6) D10_reads_6 rfl ?_
  refine J_iadd (pc := 7) D10_reads_7 ?_
  refine J_iload_n (pc := 8) D10_reads_8 rfl ?_
  refine J_mast (pc := 9) D10_reads_9 ma_3 (nI_add 6 k) (by omega) rfl ?_
  refine J_vret (pc := 10) D10_reads_10 rfl ?_
  exact ⟨rfl, rfl⟩
