/-! THE SIMULATION: a village of the class, a row of the reference -/
def rE (V : Nat → Nat → Nat) (S : Nat → Nat) (v t : Nat) : Prop :=
  (S (225 + 84 * v + 7 * t + 0) = 0 ∧ V 5 (v * 12 + t) = 0) ∨
  (S (225 + 84 * v + 7 * t + 0) = 1 ∧ V 5 (v * 12 + t) = 8 * S (225 + 84 * v + 7 * t + 1) + S (225 + 84 * v + 7 * t + 2) ∧ 1 ≤ S (225 + 84 * v + 7 * t + 1) ∧ S (225 + 84 * v + 7 * t + 2) < 7 ∧ V 6 (v * 12 + t) = S (225 + 84 * v + 7 * t + 4) ∧ S (225 + 84 * v + 7 * t + 4) ≤ 2 ∧ V 7 (v * 12 + t) = S (225 + 84 * v + 7 * t + 3)) ∨
  (S (225 + 84 * v + 7 * t + 0) = 2 ∧ V 5 (v * 12 + t) = 8 * S (225 + 84 * v + 7 * t + 1) + S (225 + 84 * v + 7 * t + 2) ∧ 1 ≤ S (225 + 84 * v + 7 * t + 1) ∧ S (225 + 84 * v + 7 * t + 2) < 7 ∧ V 6 (v * 12 + t) = 3 ∧ V 8 (v * 12 + t) = S (225 + 84 * v + 7 * t + 5) ∧ V 9 (v * 12 + t) = S (225 + 84 * v + 7 * t + 6))
def rV (V : Nat → Nat → Nat) (S : Nat → Nat) : Prop :=
  (V 0 0 = S 0 ∧ V 0 1 = S 1 ∧ V 0 2 = S 2 ∧ V 0 3 = S 4 ∧ sm (V 4) (V 0 0) = S 3) ∧
  (∀ v, v < 7 → V 1 v = S (5 + 4 * v + 0) ∧ V 2 v = S (5 + 4 * v + 1) ∧ V 4 v = S (5 + 4 * v + 2) ∧ V 3 v = S (5 + 4 * v + 3)) ∧
  (∀ v t, v < 7 → t < 12 → rE V S v t) ∧
  (∀ v t, v < 7 → t < 12 → V 10 (v * 12 + t) = 8 * S (57 + 24 * v + 2 * t) + S (57 + 24 * v + 2 * t + 1) ∧ S (57 + 24 * v + 2 * t + 1) < 7) ∧
  (∀ t, t < 12 → V 11 t = 8 * S (33 + 2 * t) + S (33 + 2 * t + 1) ∧ S (33 + 2 * t + 1) < 7)
/-- of the row alone: nobody's numbers are 0; a version is not above its author's clock; who has slept since not later than now; one stamp, one sort -/
def sI (S : Nat → Nat) : Prop :=
  (∀ v k, S 0 ≤ v → v < 7 → k < 4 → S (5 + 4 * v + k) = 0) ∧
  (∀ v t, v < 7 → t < 12 → S (225 + 84 * v + 7 * t + 0) ≠ 0 → S (225 + 84 * v + 7 * t + 1) ≤ S (5 + 4 * S (225 + 84 * v + 7 * t + 2) + 1)) ∧
  (∀ v, v < 7 → S (5 + 4 * v + 0) = 1 → S (5 + 4 * v + 3) ≤ S 1) ∧
  (∀ v u t, v < 7 → u < 7 → t < 12 → S (225 + 84 * v + 7 * t + 0) ≠ 0 → S (225 + 84 * u + 7 * t + 0) ≠ 0 → S (225 + 84 * v + 7 * t + 1) = S (225 + 84 * u + 7 * t + 1) → S (225 + 84 * v + 7 * t + 2) = S (225 + 84 * u + 7 * t + 2) → S (225 + 84 * v + 7 * t + 0) = S (225 + 84 * u + 7 * t + 0))
theorem rE_c {V V' : Nat → Nat → Nat} {S S' : Nat → Nat} {v t : Nat} (h : rE V S v t) (hV : ∀ k, 5 ≤ k → k ≤ 9 → V' k (v * 12 + t) = V k (v * 12 + t)) (hS : ∀ k, k < 7 → S' (225 + 84 * v + 7 * t + k) = S (225 + 84 * v + 7 * t + k)) : rE V' S' v t := by
  unfold rE at h ⊢
  rw [hV 5 (by decide) (by decide), hV 6 (by decide) (by decide), hV 7 (by decide) (by decide), hV 8 (by decide) (by decide), hV 9 (by decide) (by decide), hS 0 (by decide), hS 1 (by decide), hS 2 (by decide), hS 3 (by decide), hS 4 (by decide), hS 5 (by decide), hS 6 (by decide)]
  exact h
theorem rV_many {V : Nat → Nat → Nat} {S : Nat → Nat} (h : rV V S) (h7 : S 0 ≤ 7) (a : Nat) : kMany V a = mMany S a := by
  unfold kMany mMany
  rw [h.1.1]
  exact cnt_congr _ (fun i hi => by rw [(h.2.1 i (by omega)).1])
/-- only the numbers of villagers are changed -/
theorem rV_num {V V' : Nat → Nat → Nat} {S S' : Nat → Nat} (h : rV V S) (h0 : V' 0 0 = S' 0 ∧ V' 0 1 = S' 1 ∧ V' 0 2 = S' 2 ∧ V' 0 3 = S' 4 ∧ sm (V' 4) (V' 0 0) = S' 3) (h1 : ∀ v, v < 7 → V' 1 v = S' (5 + 4 * v + 0) ∧ V' 2 v = S' (5 + 4 * v + 1) ∧ V' 4 v = S' (5 + 4 * v + 2) ∧ V' 3 v = S' (5 + 4 * v + 3)) (hV : ∀ k, 5 ≤ k → k ≤ 11 → V' k = V k) (hS : ∀ j, 33 ≤ j → S' j = S j) : rV V' S' := by
  refine ⟨h0, h1, fun v t hv ht => rE_c (h.2.2.1 v t hv ht) (fun k a b => by rw [hV k a (by omega)]) (fun k hk => hS _ (by omega)), fun v t hv ht => ?_, fun t ht => ?_⟩
  · rw [hV 10 (by decide) (by decide), hS _ (by omega), hS _ (by omega)]
    exact h.2.2.2.1 v t hv ht
  · rw [hV 11 (by decide) (by decide), hS _ (by omega), hS _ (by omega)]
    exact h.2.2.2.2 t ht
theorem sI_num {S S' : Nat → Nat} (h : sI S) (h0 : ∀ v k, S' 0 ≤ v → v < 7 → k < 4 → S' (5 + 4 * v + k) = 0) (hc : ∀ v, v < 7 → S (5 + 4 * v + 1) ≤ S' (5 + 4 * v + 1)) (ha : ∀ v t, v < 7 → t < 12 → S (225 + 84 * v + 7 * t + 0) ≠ 0 → S (225 + 84 * v + 7 * t + 2) < 7) (hs : ∀ v, v < 7 → S' (5 + 4 * v + 0) = 1 → S' (5 + 4 * v + 3) ≤ S' 1) (hS : ∀ j, 225 ≤ j → S' j = S j) : sI S' := by
  refine ⟨h0, fun v t hv ht hne => ?_, hs, fun v u t hv hu ht => ?_⟩
  · rw [hS _ (by omega)] at hne
    rw [hS (225 + 84 * v + 7 * t + 1) (by omega), hS (225 + 84 * v + 7 * t + 2) (by omega)]
    exact Nat.le_trans (h.2.1 v t hv ht hne) (hc _ (ha v t hv ht hne))
  · rw [hS _ (by omega), hS _ (by omega), hS _ (by omega), hS _ (by omega), hS _ (by omega), hS _ (by omega)]
    exact h.2.2.2 v u t hv hu ht
theorem rV_au {V : Nat → Nat → Nat} {S : Nat → Nat} (h : rV V S) : ∀ v t, v < 7 → t < 12 → S (225 + 84 * v + 7 * t + 0) ≠ 0 → S (225 + 84 * v + 7 * t + 2) < 7 := by
  intro v t hv ht hne
  rcases h.2.2.1 v t hv ht with h1 | h1 | h1
  · exact absurd h1.1 hne
  · exact h1.2.2.2.1
  · exact h1.2.2.2.1
/-- what an order must keep: the two states, the row's own, the answers -/
def sim (x : (Nat → Nat → Nat) × Int32) (y : (Nat → Nat) × Int32) : Prop := rV x.1 y.1 ∧ sI y.1 ∧ x.2 = y.2
theorem upN_at (f : Nat → Nat) (k x j : Nat) : upN f k x j = if j = k then x else f j := rfl
theorem vU_at (V : Nat → Nat → Nat) (k i x b j : Nat) : vU V k i x b j = if b = k then (if j = i then x else V b j) else V b j := by
  unfold vU vA upN
  by_cases h : b = k
  · subst h; simp only [if_true]
  · simp only [if_neg h]
theorem sim_sl {V : Nat → Nat → Nat} {S : Nat → Nat} (h : rV V S) (hs : sI S) (h7 : S 0 ≤ 7) (v : Int32) : sim (kSl V v) (mSleeps S v) := by
  unfold kSl mSleeps
  rw [h.1.1]
  by_cases hv : hasN (S 0) v = true
  · rw [if_pos hv, if_pos hv]
    obtain ⟨i, hi, rfl⟩ := hasN_of (by omega) hv
    rw [ix_nI (by omega), (h.2.1 i (by omega)).1]
    by_cases hz : S (5 + 4 * i + 0) = 0
    · rw [if_pos hz, if_pos hz]
      have hr : rV (vU (vU V 1 i 1) 3 i (V 0 1)) (upN (upN S (5 + 4 * i + 0) 1) (5 + 4 * i + 3) (S 1)) := by
        refine rV_num h ?_ (fun u hu => ?_) (fun k a b => ?_) (fun j hj => ?_)
        · (simp only [upN_at, vU_at]; repeat first | rw [if_pos trivial] | rw [if_pos (by omega)] | rw [if_neg (by omega)])
          exact h.1
        · obtain ⟨a1, a2, a3, a4⟩ := h.2.1 u hu
          have a0 := h.1.2.1
          by_cases hui : u = i
          · subst hui
            refine ⟨?_, ?_, ?_, ?_⟩ <;> (simp only [upN_at, vU_at]; repeat first | rw [if_pos trivial] | rw [if_pos (by omega)] | rw [if_neg (by omega)]) <;> assumption
          · refine ⟨?_, ?_, ?_, ?_⟩ <;> (simp only [upN_at, vU_at]; repeat first | rw [if_pos trivial] | rw [if_pos (by omega)] | rw [if_neg (by omega)]) <;> assumption
        · rw [vU_n _ _ _ (by omega), vU_n _ _ _ (by omega)]
        · rw [upN_n _ _ (by omega), upN_n _ _ (by omega)]
      have e0 : (upN (upN S (5 + 4 * i + 0) 1) (5 + 4 * i + 3) (S 1)) 0 = S 0 := by (simp only [upN_at, vU_at]; repeat first | rw [if_pos trivial] | rw [if_pos (by omega)] | rw [if_neg (by omega)])
      refine ⟨hr, ?_, ?_⟩
      · show sI (upN (upN S (5 + 4 * i + 0) 1) (5 + 4 * i + 3) (S 1))
        refine sI_num hs (fun u k a b c => ?_) (fun u hu => ?_) (rV_au h) (fun u hu hq => ?_) (fun j hj => ?_)
        · rw [e0] at a
          (simp only [upN_at, vU_at]; repeat first | rw [if_pos trivial] | rw [if_pos (by omega)] | rw [if_neg (by omega)])
          exact hs.1 u k a b c
        · (simp only [upN_at, vU_at]; repeat first | rw [if_pos trivial] | rw [if_pos (by omega)] | rw [if_neg (by omega)])
          exact Nat.le_refl _
        · by_cases hui : u = i
          · subst hui
            (simp only [upN_at, vU_at]; repeat first | rw [if_pos trivial] | rw [if_pos (by omega)] | rw [if_neg (by omega)])
            exact Nat.le_refl _
          · have hq2 : S (5 + 4 * u + 0) = 1 := by
              rw [upN_n _ _ (by omega), upN_n _ _ (by omega)] at hq
              exact hq
            (simp only [upN_at, vU_at]; repeat first | rw [if_pos trivial] | rw [if_pos (by omega)] | rw [if_neg (by omega)])
            exact hs.2.2.1 u hu hq2
        · rw [upN_n _ _ (by omega), upN_n _ _ (by omega)]
      · exact congrArg nI (rV_many hr (by (simp only [upN_at, vU_at]; repeat first | rw [if_pos trivial] | rw [if_pos (by omega)] | rw [if_neg (by omega)]); exact h7) 0)
    · rw [if_neg hz, if_neg hz]
      exact ⟨h, hs, rfl⟩
  · rw [if_neg hv, if_neg hv]
    exact ⟨h, hs, rfl⟩
