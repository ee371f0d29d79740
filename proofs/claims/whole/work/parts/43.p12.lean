theorem cnt_blk (p : Nat → Nat → Bool) (n m : Nat) : ∀ j, j ≤ 12 → cnt (fun k => decide (k / 12 < n) && p (k / 12) (k % 12)) (12 * m + j) = cnt (fun k => decide (k / 12 < n) && p (k / 12) (k % 12)) (12 * m) + if m < n then cnt (p m) j else 0
  | 0, _ => by
    by_cases h : m < n
    · rw [if_pos h]; rfl
    · rw [if_neg h]; rfl
  | j + 1, hj => by
    rw [← Nat.add_assoc, cnt_s, cnt_blk p n m j (by omega)]
    rw [show (12 * m + j) / 12 = m by omega, show (12 * m + j) % 12 = j by omega]
    by_cases h : m < n
    · rw [if_pos h, if_pos h, decide_eq_true h, Bool.true_and, cnt_s, Nat.add_assoc]
    · rw [if_neg h, if_neg h, decide_eq_false h, Bool.false_and, if_neg (by decide)]
theorem cnt_sm (p : Nat → Nat → Bool) (n : Nat) : ∀ m, cnt (fun k => decide (k / 12 < n) && p (k / 12) (k % 12)) (12 * m) = sm (fun v => cnt (p v) 12) (if m < n then m else n)
  | 0 => by
    by_cases h : 0 < n
    · rw [if_pos h]; rfl
    · rw [if_neg h, show n = 0 by omega]; rfl
  | m + 1 => by
    rw [show 12 * (m + 1) = 12 * m + 12 by omega, cnt_blk p n m 12 (Nat.le_refl _), cnt_sm p n m]
    by_cases h : m < n
    · rw [if_pos h, if_pos h]
      by_cases h2 : m + 1 < n
      · rw [if_pos h2, sm_s]
      · rw [if_neg h2, show n = m + 1 by omega, sm_s]
    · rw [if_neg h, if_neg h, if_neg (by omega)]; rfl
theorem sm_congr {f g : Nat → Nat} : ∀ n, (∀ i, i < n → f i = g i) → sm f n = sm g n
  | 0, _ => rfl
  | n + 1, h => by rw [sm_s, sm_s, sm_congr n (fun i hi => h i (by omega)), h n (by omega)]
theorem mEnt_sm {S : Nat → Nat} (h7 : S 0 ≤ 7) (a : Nat) : mEnt S a = sm (fun v => cnt (fun t => if a = 3 then mDead S v t else decide (S (225 + 84 * v + 7 * t + 0) = a)) 12) (S 0) := by
  have h := cnt_sm (fun v t => if a = 3 then mDead S v t else decide (S (225 + 84 * v + 7 * t + 0) = a)) (S 0) 7
  have e : (if 7 < S 0 then 7 else S 0) = S 0 := if_neg (by omega)
  rw [e] at h
  exact h
theorem qCnt_eq {V W : Nat → Nat → Nat} {S : Nat → Nat} (h : rV V S) (h7 : S 0 ≤ 7) (a : Int32) {k n : Nat} (hk : W 0 4 = k) (hn : W 0 6 = n) : qCnt V k n a = mCount W S a := by
  unfold qCnt mCount
  by_cases ha : inN 0 11 a = true
  · rw [if_pos ha, if_pos ha]
    obtain ⟨j, -, hj, rfl⟩ := inN_of (by decide) ha
    obtain ⟨b0, b1, b2, b3, b4⟩ := h.1
    have e5 : sm (fun v => cnt (fun t => kRum V (v * 12 + t)) 12) (S 0) = mEnt S 1 := by
      rw [mEnt_sm h7]
      exact sm_congr _ (fun v hv => cnt_congr 12 (fun t ht => by rw [rE_rum (h.2.2.1 v t (by omega) ht), if_neg (by decide)]))
    have e6 : sm (fun v => cnt (fun t => kTmb V (v * 12 + t)) 12) (S 0) = mEnt S 2 := by
      rw [mEnt_sm h7]
      exact sm_congr _ (fun v hv => cnt_congr 12 (fun t ht => by rw [rE_tmb (h.2.2.1 v t (by omega) ht), if_neg (by decide)]))
    have e7 : sm (fun v => cnt (fun t => kDead V v t) 12) (S 0) = mEnt S 3 := by
      rw [mEnt_sm h7]
      exact sm_congr _ (fun v hv => cnt_congr 12 (fun t ht => by rw [kDead_eq h (by omega) ht, if_pos rfl]))
    rw [ix_nI (by omega), rV_many h h7 0, rV_many h h7 1, b4, b0, b1, b2, b3, e5, e6, e7, hk, hn]
    rcases (show j = 0 ∨ j = 1 ∨ j = 2 ∨ j = 3 ∨ j = 4 ∨ j = 5 ∨ j = 6 ∨ j = 7 ∨ j = 8 ∨ j = 9 ∨ j = 10 ∨ j = 11 by omega) with rfl | rfl | rfl | rfl | rfl | rfl | rfl | rfl | rfl | rfl | rfl | rfl <;> simp
  · rw [if_neg ha, if_neg ha]

