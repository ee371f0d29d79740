theorem mHN_lt {V : Nat → Nat → Nat} {S : Nat → Nat} {o p t : Nat} (h1 : rE V S o t) (h2 : rE V S p t) : mHN S o p t = decide (V 5 (p * 12 + t) < V 5 (o * 12 + t)) := by
  unfold mHN
  by_cases hz : S (225 + 84 * o + 7 * t + 0) = 0 ∨ S (225 + 84 * p + 7 * t + 0) = 0
  · rw [if_pos hz]
    rcases h1 with h1 | h1 | h1 <;> rcases h2 with h2 | h2 | h2 <;> first
      | (rw [decide_eq_false (by omega), decide_eq_false (by omega)])
      | (rw [decide_eq_true (by omega), decide_eq_true (by omega)])
  · rw [if_neg hz]
    rcases h1 with h1 | h1 | h1 <;> rcases h2 with h2 | h2 | h2 <;> first
      | (exfalso; omega)
      | (rw [newer_lt (by omega) (by omega), h1.2.1, h2.2.1])
theorem mSame_eq {V : Nat → Nat → Nat} {S : Nat → Nat} {o p t : Nat} (h1 : rE V S o t) (h2 : rE V S p t) : mSame S o p t = decide (V 5 (o * 12 + t) = V 5 (p * 12 + t)) := by
  unfold mSame
  rw [mHN_lt h1 h2, mHN_lt h2 h1]
  by_cases he : V 5 (o * 12 + t) = V 5 (p * 12 + t)
  · rw [decide_eq_true he, decide_eq_false (show ¬ V 5 (p * 12 + t) < V 5 (o * 12 + t) by omega), decide_eq_false (show ¬ V 5 (o * 12 + t) < V 5 (p * 12 + t) by omega)]
    rw [decide_eq_true (by rcases h1 with h1 | h1 | h1 <;> rcases h2 with h2 | h2 | h2 <;> omega)]
    rfl
  · rw [decide_eq_false he]
    rcases Nat.lt_or_gt_of_ne he with h | h
    · rw [decide_eq_true h]
      simp
    · rw [decide_eq_true h]
      simp
theorem kHand_May {V : Nat → Nat → Nat} {S : Nat → Nat} {f p t : Nat} (h : rE V S f t) (hne : S (225 + 84 * f + 7 * t + 0) ≠ 0) : kHand V t f p = mMay S f p t := by
  unfold kHand mMay mKind
  rcases h with h | h | h
  · exact absurd h.1 hne
  · obtain ⟨h1, h2, h3, h4, h5, h6, h7⟩ := h
    rw [h5, if_neg (show ¬ S (225 + 84 * f + 7 * t + 0) = 2 by omega), h2, show (8 * S (225 + 84 * f + 7 * t + 1) + S (225 + 84 * f + 7 * t + 2)) % 8 = S (225 + 84 * f + 7 * t + 2) by omega]
    rcases (show S (225 + 84 * f + 7 * t + 4) = 0 ∨ S (225 + 84 * f + 7 * t + 4) = 1 ∨ S (225 + 84 * f + 7 * t + 4) = 2 by omega) with e | e | e <;> rw [e]
    · exact (decide_eq_true (Or.inl rfl)).symm
    · rw [if_pos rfl]
      by_cases hf : S (225 + 84 * f + 7 * t + 2) = f
      · rw [decide_eq_true hf, decide_eq_true (Or.inr ⟨hf, Or.inl rfl⟩)]
      · rw [decide_eq_false hf, decide_eq_false (fun z => z.elim (by decide) (fun z => hf z.1))]
    · rw [if_neg (by decide), if_pos rfl]
      by_cases hf : S (225 + 84 * f + 7 * t + 2) = f ∧ f < p
      · rw [decide_eq_true hf, decide_eq_true (Or.inr ⟨hf.1, Or.inr hf.2⟩)]
      · rw [decide_eq_false hf, decide_eq_false (fun z => z.elim (by decide) (fun z => hf ⟨z.1, z.2.elim (fun y => absurd y (by decide)) id⟩))]
  · obtain ⟨h1, h2, h3, h4, h5, h6, h7⟩ := h
    rw [h5, if_pos h1, if_neg (by decide), if_neg (by decide), decide_eq_true (Or.inl rfl)]
/-- who gives, in both -/
theorem kGv_P {V : Nat → Nat → Nat} {S : Nat → Nat} {o p t : Nat} (h1 : rE V S o t) (h2 : rE V S p t) : kGv V o p t = if mPb S o p t = true then o + 1 else if mPb S p o t = true then p + 1 else 0 := by
  unfold kGv mPb
  rw [mHN_lt h1 h2, mHN_lt h2 h1]
  by_cases he : V 5 (o * 12 + t) = V 5 (p * 12 + t)
  · rw [if_pos he, decide_eq_false (by omega), decide_eq_false (by omega)]
    rfl
  · rw [if_neg he]
    by_cases hl : V 5 (p * 12 + t) < V 5 (o * 12 + t)
    · rw [if_pos hl, decide_eq_true hl, decide_eq_false (show ¬ V 5 (o * 12 + t) < V 5 (p * 12 + t) by omega), kHand_May h1 (by rcases h1 with h1 | h1 | h1 <;> omega), Bool.true_and, Bool.false_and]
      rfl
    · rw [if_neg hl, decide_eq_false hl, decide_eq_true (show V 5 (o * 12 + t) < V 5 (p * 12 + t) by omega), kHand_May h2 (by rcases h2 with h2 | h2 | h2 <;> omega), Bool.true_and, Bool.false_and]
      rfl
theorem sm_up (f : Nat → Nat) (p : Nat) : ∀ n, sm (upN f p (f p + 1)) n = sm f n + if p < n then 1 else 0
  | 0 => rfl
  | n + 1 => by
    rw [sm_s, sm_s, sm_up f p n]
    by_cases h : n = p
    · subst h
      rw [upN_s, if_neg (Nat.lt_irrefl n), if_pos (Nat.lt_succ_self n)]; omega
    · rw [upN_n _ _ h]
      by_cases h2 : p < n
      · rw [if_pos h2, if_pos (by omega)]; omega
      · rw [if_neg h2, if_neg (by omega)]; omega
