theorem kHn_0 (V : Nat → Nat → Nat) (t f p : Nat) : kHn V t f p 0 = V 0 ∧ kHn V t f p 1 = V 1 := by
  unfold kHn kH2 kH1
  split
  · exact ⟨rfl, rfl⟩
  · exact ⟨rfl, rfl⟩
theorem kSh_0 (V : Nat → Nat → Nat) (a b t : Nat) : kSh V a b t 0 = V 0 ∧ kSh V a b t 1 = V 1 := by
  unfold kSh
  split
  · exact ⟨rfl, rfl⟩
  · exact ⟨rfl, rfl⟩
theorem kSt_0 (V : Nat → Nat → Nat) (a b t : Nat) : kSt V a b t 0 = V 0 ∧ kSt V a b t 1 = V 1 := by
  unfold kSt
  rw [(kSh_0 _ a b t).1, (kSh_0 _ a b t).2]
  split
  · exact ⟨rfl, rfl⟩
  · exact kHn_0 _ _ _ _
theorem kTt_0 (V : Nat → Nat → Nat) (a b : Nat) : ∀ t, (kTt V a b t).1 0 = V 0 ∧ (kTt V a b t).1 1 = V 1
  | 0 => ⟨rfl, rfl⟩
  | t + 1 => by
    rw [kTt_s]
    dsimp only
    rw [(kSt_0 _ a b t).1, (kSt_0 _ a b t).2]
    exact kTt_0 V a b t
theorem kTk_0 (V : Nat → Nat → Nat) (a b : Nat) : (kTk V a b).1 0 = V 0 := by unfold kTk; exact (kTt_0 V a b 12).1
theorem kTk_1 (V : Nat → Nat → Nat) (a b : Nat) : (kTk V a b).1 1 = V 1 := by unfold kTk; exact (kTt_0 V a b 12).2
