theorem qBM_eq {V : Nat → Nat → Nat} {S : Nat → Nat} {N : Nat} (h : rA V S N) (v : Int32) : qBM V v = mBM S v := by
  unfold qBM mBM
  rw [qb7_eq h]
  by_cases h0 : v = 0
  · subst h0
    rw [if_pos rfl, if_pos (show inN 0 1 0 = true by decide), if_pos (Or.inl (show ix 0 = 0 by decide))]
  · rw [if_neg h0]
    by_cases h1 : v = nI 1
    · subst h1
      rw [if_pos rfl, if_pos (show inN 0 1 (nI 1) = true by decide), show ix (nI 1) = 1 by decide]
      rcases hb : (bmO S (S 0)).1 with _ | b
      · rw [if_pos (Or.inr rfl)]
        unfold fv
        rw [hb]
        rfl
      · rw [if_neg (show ¬ (1 = 0 ∨ b + 1 = 0) by omega)]
        rfl
    · rw [if_neg h1, if_neg]
      intro z
      obtain ⟨k, -, hk, rfl⟩ := inN_of (by decide) z
      rcases (show k = 0 ∨ k = 1 by omega) with rfl | rfl
      · exact h0 nI_0
      · exact h1 rfl

