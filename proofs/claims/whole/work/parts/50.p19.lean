theorem kAw_in {V : Nat → Nat → Nat} {S : Nat → Nat} (h : rV V S) (h7 : S 0 ≤ 7) {i : Nat} (hi : i < S 0) : kAw V (nI i) = decide (S (5 + 4 * i + 0) = 0) := by
  rw [kAw_n (by rw [hasN_nI (by omega), h.1.1]; exact decide_eq_true hi) (ix_nI (by omega)), (h.2.1 i (by omega)).1]
theorem kAw_out {V : Nat → Nat → Nat} {S : Nat → Nat} (h : rV V S) {i : Nat} (h9 : i < 100) (hi : S 0 ≤ i) : kAw V (nI i) = false := by
  rw [kAw, hasN_nI (by omega), h.1.1, decide_eq_false (by omega)]; rfl
theorem qbS_eq {V : Nat → Nat → Nat} {S : Nat → Nat} {N o p : Nat} (h : rA V S N) (ho : o < S 0) (hp : p < S 0) (hop : o ≠ p) (x : Nat × Nat) : qbS V o p x = bmS S o p x := by
  have h7 := h.2.2.1.1.2.2.1
  unfold qbS bmS
  rw [kAw_in h.1 h7 ho, kAw_in h.1 h7 hp, kWp_eq h ho hp hop]
  simp only [decide_eq_true_eq]
theorem qbS_out {V : Nat → Nat → Nat} {S : Nat → Nat} (h : rV V S) {o p : Nat} (hp : p < 100) (hs : S 0 ≤ p) (x : Nat × Nat) : qbS V o p x = x := by
  unfold qbS
  rw [if_neg]
  rintro ⟨-, z, -⟩
  rw [kAw_out h hp hs] at z
  cases z
theorem qbS_out1 {V : Nat → Nat → Nat} {S : Nat → Nat} (h : rV V S) {o p : Nat} (ho : o < 100) (hs : S 0 ≤ o) (x : Nat × Nat) : qbS V o p x = x := by
  unfold qbS
  rw [if_neg]
  rintro ⟨z, -⟩
  rw [kAw_out h ho hs] at z
  cases z
theorem qbI_eq {V : Nat → Nat → Nat} {S : Nat → Nat} {N o : Nat} (h : rA V S N) (ho : o < S 0) (x : Nat × Nat) : ∀ k, o + 1 + k ≤ 7 → qbI V o x k = bmI S o x (if o + 1 + k ≤ S 0 then k else S 0 - (o + 1))
  | 0, _ => by
    split
    · rfl
    · rw [show S 0 - (o + 1) = 0 by omega]; rfl
  | k + 1, hk => by
    have ih := qbI_eq h ho x k (by omega)
    rw [qbI_s, ih]
    by_cases hc : o + 1 + (k + 1) ≤ S 0
    · rw [if_pos (show o + 1 + k ≤ S 0 by omega), if_pos hc, bmI_s]
      exact qbS_eq h ho (by omega) (by omega) _
    · rw [if_neg hc, qbS_out h.1 (by omega) (by omega)]
      by_cases hc2 : o + 1 + k ≤ S 0
      · rw [if_pos hc2, show S 0 - (o + 1) = k by omega]
      · rw [if_neg hc2]
theorem qbI_out {V : Nat → Nat → Nat} {S : Nat → Nat} (h : rV V S) {o : Nat} (ho : o < 100) (hs : S 0 ≤ o) (x : Nat × Nat) : ∀ k, qbI V o x k = x
  | 0 => rfl
  | k + 1 => by rw [qbI_s, qbI_out h ho hs x k]; exact qbS_out1 h ho hs x
theorem bmO_s (S : Nat → Nat) (o : Nat) : bmO S (o + 1) = bmI S o (bmO S o) (S 0 - (o + 1)) := rfl
theorem qbO_eq {V : Nat → Nat → Nat} {S : Nat → Nat} {N : Nat} (h : rA V S N) : ∀ o, o ≤ 7 → qbO V o = bmO S (if o ≤ S 0 then o else S 0)
  | 0, _ => by rw [if_pos (Nat.zero_le _)]; rfl
  | o + 1, ho => by
    have h7 := h.2.2.1.1.2.2.1
    have ih := qbO_eq h o (by omega)
    rw [qbO_s, ih]
    by_cases hc : o + 1 ≤ S 0
    · rw [if_pos (show o ≤ S 0 by omega), if_pos hc, bmO_s, qbI_eq h (by omega) _ _ (by omega)]
      by_cases hq : o + 1 + (7 - (o + 1)) ≤ S 0
      · rw [if_pos hq, show 7 - (o + 1) = S 0 - (o + 1) by omega]
      · rw [if_neg hq]
    · rw [if_neg hc, qbI_out h.1 (by omega) (by omega)]
      by_cases hq : o ≤ S 0
      · rw [if_pos hq, show o = S 0 by omega]
      · rw [if_neg hq]
theorem qb7_eq {V : Nat → Nat → Nat} {S : Nat → Nat} {N : Nat} (h : rA V S N) : qbO V 7 = bmO S (S 0) := by
  have h7 := h.2.2.1.1.2.2.1
  have e := qbO_eq h 7 (Nat.le_refl _)
  by_cases hc : 7 ≤ S 0
  · rw [if_pos hc] at e
    rw [e, show S 0 = 7 by omega]
  · rw [if_neg hc] at e
    exact e

