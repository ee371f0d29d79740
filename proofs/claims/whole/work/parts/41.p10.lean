theorem bits_congr {p q : Nat → Bool} : ∀ n, (∀ i, i < n → p i = q i) → bits p n = bits q n
  | 0, _ => rfl
  | n + 1, h => by rw [bits_s, bits_s, bits_congr n (fun i hi => h i (by omega)), h n (by omega)]
theorem kDead_eq {V : Nat → Nat → Nat} {S : Nat → Nat} (h : rV V S) {v t : Nat} (hv : v < 7) (ht : t < 12) : kDead V v t = mDead S v t := by
  have h1 := h.2.2.1 v t hv ht
  have h2 := h.2.2.2.2 t ht
  unfold kDead mDead
  rw [rE_rum h1, h2.1]
  by_cases hz : S (225 + 84 * v + 7 * t + 0) = 1
  · rw [decide_eq_true hz, Bool.true_and]
    rcases h1 with h1 | h1 | h1
    · omega
    · rw [newer_lt (by omega) (by omega), h1.2.1]
      by_cases hA : 8 * S (225 + 84 * v + 7 * t + 1) + S (225 + 84 * v + 7 * t + 2) < 8 * S (33 + 2 * t) + S (33 + 2 * t + 1)
      · rw [decide_eq_true hA]; exact (decide_eq_true ⟨hz, rfl⟩).symm
      · rw [decide_eq_false hA]; exact (decide_eq_false (fun z => by cases z.2)).symm
    · omega
  · rw [decide_eq_false hz, Bool.false_and, decide_eq_false (fun z => hz z.1)]
theorem qDead_eq {V : Nat → Nat → Nat} {S : Nat → Nat} (h : rV V S) (h7 : S 0 ≤ 7) (v : Int32) : qDead V v = mDeads S v := by
  unfold qDead mDeads
  rw [h.1.1]
  by_cases hv : hasN (S 0) v = true
  · rw [if_pos hv, if_pos hv]
    obtain ⟨i, hi, rfl⟩ := hasN_of (by omega) hv
    rw [ix_nI (by omega)]
    exact congrArg nI (bits_congr 12 (fun t ht => kDead_eq h (by omega) ht))
  · rw [if_neg hv, if_neg hv]
theorem qUnl_eq {V : Nat → Nat → Nat} {S : Nat → Nat} (h : rV V S) (h7 : S 0 ≤ 7) (v u : Int32) : qUnl V v u = mUnlike S v u := by
  unfold qUnl mUnlike
  rw [h.1.1]
  by_cases hc : hasN (S 0) v = true ∧ hasN (S 0) u = true
  · rw [if_pos hc, if_pos hc]
    obtain ⟨hv, hu⟩ := hc
    obtain ⟨i, hi, rfl⟩ := hasN_of (by omega) hv
    obtain ⟨j, hj, rfl⟩ := hasN_of (by omega) hu
    rw [ix_nI (by omega), ix_nI (by omega)]
    exact congrArg nI (bits_congr 12 (fun t ht => by rw [mSame_eq (h.2.2.1 i t (by omega) ht) (h.2.2.1 j t (by omega) ht)]))
  · rw [if_neg hc, if_neg hc]
theorem rumT_eq {V : Nat → Nat → Nat} {S : Nat → Nat} (h : rV V S) {v : Nat} (hv : v < 7) : bits (fun t => kRum V (v * 12 + t)) 12 = mTopics S v 1 := bits_congr 12 (fun t ht => rE_rum (h.2.2.1 v t hv ht))
theorem tmbT_eq {V : Nat → Nat → Nat} {S : Nat → Nat} (h : rV V S) {v : Nat} (hv : v < 7) : bits (fun t => kTmb V (v * 12 + t)) 12 = mTopics S v 2 := bits_congr 12 (fun t ht => rE_tmb (h.2.2.1 v t hv ht))
theorem qOf_eq {V : Nat → Nat → Nat} {S : Nat → Nat} (h : rV V S) (h7 : S 0 ≤ 7) (v a : Int32) : qOf V v a = mVOf S v a := by
  unfold qOf mVOf
  rw [h.1.1]
  by_cases hc : hasN (S 0) v = true ∧ inN 0 5 a = true
  · rw [if_pos hc, if_pos hc]
    obtain ⟨hv, ha⟩ := hc
    obtain ⟨i, hi, rfl⟩ := hasN_of (by omega) hv
    obtain ⟨k, -, hk, rfl⟩ := inN_of (by decide) ha
    obtain ⟨a1, a2, a3, a4⟩ := h.2.1 i (by omega)
    rw [ix_nI (by omega), ix_nI (by omega), rumT_eq h (by omega), tmbT_eq h (by omega), a1, a2, a3, a4, h.1.2.1]
    rcases (show k = 0 ∨ k = 1 ∨ k = 2 ∨ k = 3 ∨ k = 4 ∨ k = 5 by omega) with rfl | rfl | rfl | rfl | rfl | rfl <;> rfl
  · rw [if_neg hc, if_neg hc]
theorem qEO_eq {V : Nat → Nat → Nat} {S : Nat → Nat} (h : rV V S) (h7 : S 0 ≤ 7) (v t a : Int32) : qEO V v t a = mEOf S v t a := by
  unfold qEO mEOf
  rw [h.1.1]
  by_cases hc : hasN (S 0) v = true ∧ hasN 12 t = true ∧ inN 0 7 a = true
  · rw [if_pos hc, if_pos hc]
    obtain ⟨hv, ht, ha⟩ := hc
    obtain ⟨i, hi, rfl⟩ := hasN_of (by omega) hv
    obtain ⟨j, hj, rfl⟩ := hasN_of (by decide) ht
    obtain ⟨k, -, hk, rfl⟩ := inN_of (by decide) ha
    have h1 := h.2.2.1 i j (by omega) hj
    rw [ix_nI (by omega), ix_nI (by omega), ix_nI (by omega), rE_tmb h1, kDead_eq h (by omega) hj]
    rcases h1 with ⟨q1, q2⟩ | ⟨q1, q2, q3, q4, q5, q6, q7⟩ | ⟨q1, q2, q3, q4, q5, q6, q7⟩
    · rw [if_pos q2, if_pos (Or.inl q1)]
    · rw [if_neg (by omega), q2, q5, q7, q1, show (8 * S (225 + 84 * i + 7 * j + 1) + S (225 + 84 * i + 7 * j + 2)) / 8 = S (225 + 84 * i + 7 * j + 1) by omega, show (8 * S (225 + 84 * i + 7 * j + 1) + S (225 + 84 * i + 7 * j + 2)) % 8 = S (225 + 84 * i + 7 * j + 2) by omega]
      rcases (show k = 0 ∨ k = 1 ∨ k = 2 ∨ k = 3 ∨ k = 4 ∨ k = 5 ∨ k = 6 ∨ k = 7 by omega) with rfl | rfl | rfl | rfl | rfl | rfl | rfl | rfl <;> first | (simp [mNeeds]; done) | (simp [mNeeds, bI_f]; done) | (simp [mNeeds, bI_t]; done)
    · rw [if_neg (by omega), q2, q6, q7, q1, show (8 * S (225 + 84 * i + 7 * j + 1) + S (225 + 84 * i + 7 * j + 2)) / 8 = S (225 + 84 * i + 7 * j + 1) by omega, show (8 * S (225 + 84 * i + 7 * j + 1) + S (225 + 84 * i + 7 * j + 2)) % 8 = S (225 + 84 * i + 7 * j + 2) by omega]
      rcases (show k = 0 ∨ k = 1 ∨ k = 2 ∨ k = 3 ∨ k = 4 ∨ k = 5 ∨ k = 6 ∨ k = 7 by omega) with rfl | rfl | rfl | rfl | rfl | rfl | rfl | rfl <;> first | (simp [mNeeds]; done) | (simp [mNeeds, bI_f]; done) | (simp [mNeeds, bI_t]; done)
  · rw [if_neg hc, if_neg hc]

