theorem rA_sl {V : Nat → Nat → Nat} {S : Nat → Nat} {N : Nat} (h : rA V S N) (v : Int32) : rA (kSl V v).1 (mSleeps S v).1 N ∧ (kSl V v).2 = (mSleeps S v).2 := by
  obtain ⟨hr, hs, hI, hj, hd⟩ := h
  have q := sim_sl hr hs hI.1.2.2.1 v
  refine ⟨⟨q.1, q.2.1, mI_Sleeps hI v, ?_, ?_⟩, q.2.2⟩
  · unfold kSl
    split
    · split
      · exact hj
      · exact hj
    · exact hj
  · have h7 := hI.1.2.2.1
    unfold mSleeps
    split
    · rename_i hv
      obtain ⟨i, hi, rfl⟩ := hasN_of (by omega) hv
      rw [ix_nI (by omega)]
      split
      · intro j a b
        dsimp only
        rw [upN_n _ _ (by omega), upN_n _ _ (by omega)]
        exact hd j a b
      · exact hd
    · exact hd
theorem rA_wk {V : Nat → Nat → Nat} {S : Nat → Nat} {N : Nat} (h : rA V S N) (v : Int32) : rA (kWk V v).1 (mWakes S v).1 N ∧ (kWk V v).2 = (mWakes S v).2 := by
  obtain ⟨hr, hs, hI, hj, hd⟩ := h
  have q := sim_wk hr hs hI.1.2.2.1 v
  refine ⟨⟨q.1, q.2.1, mI_Wakes hI v, ?_, ?_⟩, q.2.2⟩
  · unfold kWk
    split
    · split
      · exact hj
      · exact hj
    · exact hj
  · have h7 := hI.1.2.2.1
    unfold mWakes
    split
    · rename_i hv
      obtain ⟨i, hi, rfl⟩ := hasN_of (by omega) hv
      rw [ix_nI (by omega)]
      split
      · intro j a b
        dsimp only
        rw [upN_n _ _ (by omega)]
        exact hd j a b
      · exact hd
    · exact hd
theorem rA_cw {V : Nat → Nat → Nat} {S : Nat → Nat} {N : Nat} (h : rA V S N) (v : Int32) : rA (kCw V v).1 (mCw S v).1 N ∧ (kCw V v).2 = (mCw S v).2 := by
  obtain ⟨hr, hs, hI, hj, hd⟩ := h
  have q := sim_cw hr hs v
  refine ⟨⟨q.1, q.2.1, ?_, ?_, ?_⟩, q.2.2⟩
  · unfold mCw
    split
    · rename_i hv
      obtain ⟨i, hi0, hi, rfl⟩ := inN_of (by decide) hv
      rw [ix_nI (by omega)]
      exact mI_upN hI (Or.inl (by omega)) (by omega) (by omega) (by omega)
    · exact hI
  · unfold kCw
    split
    · exact hj
    · exact hj
  · unfold mCw
    split
    · intro j a b
      dsimp only
      rw [upN_n _ _ (by omega)]
      exact hd j a b
    · exact hd

