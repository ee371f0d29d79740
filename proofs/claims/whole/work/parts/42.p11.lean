theorem bits_0 {p : Nat → Bool} : ∀ n, (∀ i, i < n → p i = false) → bits p n = 0
  | 0, _ => rfl
  | n + 1, h => by rw [bits_s, bits_0 n (fun i hi => h i (by omega)), h n (by omega), if_neg (by decide)]; rfl
theorem rE_ne {V : Nat → Nat → Nat} {S : Nat → Nat} {v t : Nat} (h : rE V S v t) : S (225 + 84 * v + 7 * t + 0) ≠ 0 ↔ V 5 (v * 12 + t) ≠ 0 := by
  rcases h with h | h | h <;> omega
theorem kHo_1 {V : Nat → Nat → Nat} {S : Nat → Nat} (h : rV V S) {t : Nat} (ht : t < 12) : ∀ n, n ≤ 7 → (mBest S t n = 0 → (kHo V t n).1 = 0) ∧ (∀ b, mBest S t n = b + 1 → b < n ∧ V 5 (b * 12 + t) ≠ 0 ∧ (kHo V t n).1 = V 5 (b * 12 + t))
  | 0, _ => ⟨fun _ => rfl, fun b hb => by cases hb⟩
  | v + 1, hv => by
    obtain ⟨h1, h2⟩ := kHo_1 h ht v (by omega)
    have hre := h.2.2.1 v t (by omega) ht
    have hne := rE_ne hre
    rw [kHo_s, mBest_s]
    dsimp only
    rcases hb : mBest S t v with _ | b
    · have hM := h1 hb
      rw [hM]
      by_cases hx : V 5 (v * 12 + t) = 0
      · rw [if_neg (show ¬ (S (225 + 84 * v + 7 * t + 0) ≠ 0 ∧ (0 = 0 ∨ mHN S v (0 - 1) t = true)) from fun z => (hne.mp z.1) hx), hx]
        exact ⟨fun _ => rfl, fun b hb => by cases hb⟩
      · rw [if_pos (show S (225 + 84 * v + 7 * t + 0) ≠ 0 ∧ (0 = 0 ∨ mHN S v (0 - 1) t = true) from ⟨hne.mpr hx, Or.inl rfl⟩)]
        refine ⟨fun z => absurd z (by omega), fun b hb => ?_⟩
        obtain rfl : b = v := by omega
        exact ⟨by omega, hx, mx_r (by omega)⟩
    · obtain ⟨hbv, hb0, hM⟩ := h2 b hb
      have hN : mHN S v (b + 1 - 1) t = decide (V 5 (b * 12 + t) < V 5 (v * 12 + t)) := by
        rw [Nat.add_sub_cancel]; exact mHN_lt hre (h.2.2.1 b t (by omega) ht)
      rw [hM]
      by_cases hx : V 5 (b * 12 + t) < V 5 (v * 12 + t)
      · rw [if_pos (show S (225 + 84 * v + 7 * t + 0) ≠ 0 ∧ (b + 1 = 0 ∨ mHN S v (b + 1 - 1) t = true) from ⟨hne.mpr (by omega), Or.inr (by rw [hN]; exact decide_eq_true hx)⟩)]
        refine ⟨fun z => absurd z (by omega), fun c hc => ?_⟩
        obtain rfl : c = v := by omega
        exact ⟨by omega, by omega, mx_r hx⟩
      · rw [if_neg (show ¬ (S (225 + 84 * v + 7 * t + 0) ≠ 0 ∧ (b + 1 = 0 ∨ mHN S v (b + 1 - 1) t = true)) from fun z => by
          rcases z.2 with z2 | z2
          · omega
          · rw [hN] at z2; exact hx (of_decide_eq_true z2))]
        refine ⟨fun z => absurd z (by omega), fun c hc => ?_⟩
        obtain rfl : c = b := by omega
        exact ⟨by omega, hb0, mx_l hx⟩
theorem kHo_m (V : Nat → Nat → Nat) (t : Nat) : ∀ n u, u < n → V 5 (u * 12 + t) ≤ (kHo V t n).1
  | 0, _, h => by omega
  | v + 1, u, h => by
    rw [kHo_s]
    dsimp only
    by_cases hu : u = v
    · subst hu; unfold mx; split <;> omega
    · have := kHo_m V t v u (by omega)
      unfold mx; split <;> omega
theorem kHo_h (V : Nat → Nat → Nat) (t : Nat) : ∀ n, (kHo V t n).2 = bits (fun u => decide (V 5 (u * 12 + t) ≠ 0 ∧ V 5 (u * 12 + t) = (kHo V t n).1)) n
  | 0 => rfl
  | v + 1 => by
    have ih := kHo_h V t v
    have hm := kHo_m V t v
    rw [kHo_s, bits_s]
    dsimp only
    by_cases hl : (kHo V t v).1 < V 5 (v * 12 + t)
    · rw [mx_r hl, if_pos ⟨by omega, by omega⟩, if_pos hl, bits_0 v (fun u hu => decide_eq_false (fun z => by have := hm u hu; omega)), if_pos (decide_eq_true ⟨by omega, rfl⟩)]
    · rw [mx_l hl, if_neg hl, ← ih]
      by_cases hx : V 5 (v * 12 + t) ≠ 0 ∧ (kHo V t v).1 ≤ V 5 (v * 12 + t)
      · rw [if_pos hx, if_pos (decide_eq_true ⟨hx.1, by omega⟩)]
      · rw [if_neg hx, if_neg (by rw [decide_eq_false (fun z => hx ⟨z.1, by omega⟩)]; decide), Nat.or_zero]
theorem qNew_eq {V : Nat → Nat → Nat} {S : Nat → Nat} (h : rV V S) (h7 : S 0 ≤ 7) (v : Int32) : qNew V v = mNewest S v := by
  unfold qNew mNewest
  by_cases hv : hasN 12 v = true
  · rw [if_pos hv, if_pos hv, h.1.1]
    obtain ⟨j, hj, rfl⟩ := hasN_of (by decide) hv
    rw [ix_nI (by omega)]
    obtain ⟨h1, h2⟩ := kHo_1 h hj (S 0) h7
    have hh := kHo_h V j (S 0)
    rcases hb : mBest S j (S 0) with _ | b
    · have hM := h1 hb
      rw [if_pos rfl, if_pos]
      rw [hh, hM]
      exact bits_0 _ (fun u hu => decide_eq_false (fun z => z.1 z.2))
    · obtain ⟨hbn, hb0, hM⟩ := h2 b hb
      rw [if_neg (show ¬ b + 1 = 0 by omega), Nat.add_sub_cancel]
      have e : (kHo V j (S 0)).2 = bits (fun u => mSame S u b j) (S 0) := by
        rw [hh, hM]
        refine bits_congr _ (fun u hu => ?_)
        rw [mSame_eq (h.2.2.1 u j (by omega) hj) (h.2.2.1 b j (by omega) hj)]
        by_cases hq : V 5 (u * 12 + j) = V 5 (b * 12 + j)
        · rw [decide_eq_true hq, decide_eq_true ⟨by omega, hq⟩]
        · rw [decide_eq_false hq, decide_eq_false (fun z => hq z.2)]
      rw [if_neg, e]
      intro z
      have hbit := bits_tb (fun u => decide (V 5 (u * 12 + j) ≠ 0 ∧ V 5 (u * 12 + j) = (kHo V j (S 0)).1)) (S 0) b
      rw [← hh, z, Nat.zero_testBit, decide_eq_true hbn, decide_eq_true ⟨hb0, hM.symm⟩] at hbit
      cases hbit
  · rw [if_neg hv, if_neg hv]

