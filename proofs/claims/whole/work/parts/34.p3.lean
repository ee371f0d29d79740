theorem zE_n (S : Nat → Nat) {v j : Nat} (h : j < 225 + 84 * v ∨ 225 + 84 * v + 84 ≤ j ∨ (j - 225 - 84 * v) % 7 ≠ 0) : zE S v 12 j = S j := if_neg (by omega)
theorem zE_z (S : Nat → Nat) {v t : Nat} (ht : t < 12) : zE S v 12 (225 + 84 * v + 7 * t + 0) = 0 := if_pos (by omega)
theorem kZ_5 (V : Nat → Nat → Nat) (v n j : Nat) : kZ V v n 5 j = if v * 12 ≤ j ∧ j < v * 12 + n then 0 else V 5 j := by unfold kZ; rw [vA_s]
theorem kZ_n (V : Nat → Nat → Nat) (v n : Nat) {k : Nat} (h : k ≠ 5) : kZ V v n k = V k := vA_n _ _ h
def mLvP (S : Nat → Nat) (v : Int32) : (Nat → Nat) × Int32 := (mLeaveS S v, mLeave S v)
theorem sim_lv {V : Nat → Nat → Nat} {S : Nat → Nat} (h : rV V S) (hs : sI S) (h7 : S 0 ≤ 7) (v : Int32) : sim (kLv V v) (mLvP S v) := by
  unfold kLv mLvP mLeaveS mLeave
  rw [h.1.1]
  by_cases hv : hasN (S 0) v = true
  · rw [if_pos hv, if_pos hv, if_pos hv]
    obtain ⟨i, hi, rfl⟩ := hasN_of (by omega) hv
    rw [ix_nI (by omega), (h.2.1 i (by omega)).1]
    by_cases hz : S (5 + 4 * i + 0) = 2
    · rw [if_pos hz, if_pos hz, if_pos hz]
      exact ⟨h, hs, rfl⟩
    · rw [if_neg hz, if_neg hz, if_neg hz]
      have hl : ∀ j, j < 225 → mLv S i j = upN S (5 + 4 * i + 0) 2 j := fun j hj => zE_n _ (Or.inl (by omega))
      have hr : rV (kGo V i) (mLv S i) := by
        refine ⟨?_, fun u hu => ?_, fun u t hu ht => ?_, fun u t hu ht => ?_, fun t ht => ?_⟩
        · rw [hl 0 (by omega), hl 1 (by omega), hl 2 (by omega), hl 3 (by omega), hl 4 (by omega), upN_n _ _ (by omega), upN_n _ _ (by omega), upN_n _ _ (by omega), upN_n _ _ (by omega), upN_n _ _ (by omega)]
          exact h.1
        · obtain ⟨a1, a2, a3, a4⟩ := h.2.1 u hu
          rw [hl _ (by omega), hl _ (by omega), hl _ (by omega), hl _ (by omega)]
          unfold kGo
          rw [kZ_n _ _ _ (by decide), kZ_n _ _ _ (by decide), kZ_n _ _ _ (by decide), kZ_n _ _ _ (by decide)]
          by_cases hui : u = i
          · subst hui
            refine ⟨?_, ?_, ?_, ?_⟩ <;> (simp only [upN_at, vU_at]; repeat first | rw [if_pos trivial] | rw [if_pos (by omega)] | rw [if_neg (by omega)]) <;> assumption
          · refine ⟨?_, ?_, ?_, ?_⟩ <;> (simp only [upN_at, vU_at]; repeat first | rw [if_pos trivial] | rw [if_pos (by omega)] | rw [if_neg (by omega)]) <;> assumption
        · by_cases hui : u = i
          · subst hui
            refine Or.inl ⟨zE_z _ ht, ?_⟩
            unfold kGo
            rw [kZ_5, if_pos (by omega)]
          · refine rE_c (h.2.2.1 u t hu ht) (fun k a b => ?_) (fun k hk => ?_)
            · unfold kGo
              by_cases h5 : k = 5
              · subst h5
                rw [kZ_5, if_neg (by omega)]; rfl
              · rw [kZ_n _ _ _ h5, vU_n _ _ _ (by omega)]
            · unfold mLv
              rw [zE_n _ (by omega), upN_n _ _ (by omega)]
        · rw [hl _ (by omega), hl _ (by omega), upN_n _ _ (by omega), upN_n _ _ (by omega)]
          exact h.2.2.2.1 u t hu ht
        · rw [hl _ (by omega), hl _ (by omega), upN_n _ _ (by omega), upN_n _ _ (by omega)]
          exact h.2.2.2.2 t ht
      have e0 : mLv S i 0 = S 0 := by rw [hl 0 (by omega), upN_n _ _ (by omega)]
      have hne : ∀ u t, u < 7 → t < 12 → mLv S i (225 + 84 * u + 7 * t + 0) ≠ 0 → u ≠ i := by
        intro u t hu ht hz hui
        subst hui
        exact hz (zE_z _ ht)
      have hE : ∀ u t k, u ≠ i → t < 12 → k < 7 → mLv S i (225 + 84 * u + 7 * t + k) = S (225 + 84 * u + 7 * t + k) := by
        intro u t k hui ht hk
        unfold mLv
        rw [zE_n _ (by omega), upN_n _ _ (by omega)]
      refine ⟨hr, ⟨fun u k a b c => ?_, fun u t hu ht hq => ?_, fun u hu hq => ?_, fun u w t hu hw ht hq hq2 => ?_⟩, ?_⟩
      · dsimp only at a ⊢
        rw [e0] at a
        rw [hl _ (by omega), upN_n _ _ (by omega)]
        exact hs.1 u k a b c
      · dsimp only at hq ⊢
        have hui := hne u t hu ht hq
        rw [hE u t 0 hui ht (by decide)] at hq
        rw [hE u t 1 hui ht (by decide), hE u t 2 hui ht (by decide)]
        have hau := rV_au h u t hu ht hq
        rw [hl _ (by omega), upN_n _ _ (by omega)]
        exact hs.2.1 u t hu ht hq
      · dsimp only at hq ⊢
        rw [hl _ (by omega)] at hq ⊢
        rw [hl _ (by omega), upN_n _ _ (by omega), upN_n _ _ (by omega)]
        by_cases hui : u = i
        · subst hui
          rw [upN_s] at hq
          exact absurd hq (by decide)
        · rw [upN_n _ _ (by omega)] at hq
          exact hs.2.2.1 u hu hq
      · dsimp only at hq hq2 ⊢
        have h1 := hne u t hu ht hq
        have h2 := hne w t hw ht hq2
        rw [hE u t 0 h1 ht (by decide)] at hq ⊢
        rw [hE w t 0 h2 ht (by decide)] at hq2 ⊢
        rw [hE u t 1 h1 ht (by decide), hE u t 2 h1 ht (by decide), hE w t 1 h2 ht (by decide), hE w t 2 h2 ht (by decide)]
        exact hs.2.2.2 u w t hu hw ht hq hq2
      · dsimp only
        rw [rV_many hr (by rw [e0]; exact h7) 0, rV_many hr (by rw [e0]; exact h7) 1]
  · rw [if_neg hv, if_neg hv, if_neg hv]
    exact ⟨h, hs, rfl⟩
theorem sI_Make {S : Nat → Nat} (hs : sI S) (hau : ∀ v t, v < 7 → t < 12 → S (225 + 84 * v + 7 * t + 0) ≠ 0 → S (225 + 84 * v + 7 * t + 2) < 7) {i t a b c : Nat} (hi : i < S 0) (h7 : S 0 ≤ 7) (ht : t < 12) (ha : a ≠ 0) : sI (mMake S i t a b c) := by
  have e0 : mMake S i t a b c 0 = S 0 := mMake_n S (by omega) (Or.inl (by omega))
  have e1 : mMake S i t a b c 1 = S 1 := mMake_n S (by omega) (Or.inl (by omega))
  obtain ⟨m0, m1, m2, m3, m4, m5, m6⟩ := mMake_e S (v := i) (t := t) (a := a) (b := b) (c := c) (by omega)
  have hc : ∀ u, u < 7 → S (5 + 4 * u + 1) ≤ mMake S i t a b c (5 + 4 * u + 1) := by
    intro u hu
    by_cases hui : u = i
    · subst hui; rw [mMake_c S hu]; omega
    · rw [mMake_n S (by omega) (Or.inl (by omega))]; exact Nat.le_refl _
  have hE : ∀ u t' k, ¬ (u = i ∧ t' = t) → t' < 12 → k < 7 → mMake S i t a b c (225 + 84 * u + 7 * t' + k) = S (225 + 84 * u + 7 * t' + k) := by
    intro u t' k hne ht' hk
    exact mMake_n S (by omega) (by omega)
  refine ⟨fun u k h1 h2 h3 => ?_, fun u t' hu ht' hq => ?_, fun u hu hq => ?_, fun u w t' hu hw ht' hq hq2 e3 e4 => ?_⟩
  · rw [e0] at h1
    rw [mMake_n S (by omega) (Or.inl (by omega))]
    exact hs.1 u k h1 h2 h3
  · by_cases hut : u = i ∧ t' = t
    · obtain ⟨rfl, rfl⟩ := hut
      rw [m1, m2, mMake_c S hu]
      exact Nat.le_refl _
    · rw [hE u t' 0 hut ht' (by decide)] at hq
      rw [hE u t' 1 hut ht' (by decide), hE u t' 2 hut ht' (by decide)]
      exact Nat.le_trans (hs.2.1 u t' hu ht' hq) (hc _ (hau u t' hu ht' hq))
  · rw [mMake_n S (by omega) (Or.inl (by omega))] at hq
    rw [mMake_n S (by omega) (Or.inl (by omega)), e1]
    exact hs.2.2.1 u hu hq
  · by_cases h1 : u = i ∧ t' = t
    · obtain ⟨rfl, rfl⟩ := h1
      by_cases h2 : w = u ∧ t' = t'
      · rw [h2.1]
      · rw [hE w t' 0 h2 ht' (by decide)] at hq2
        rw [m1, hE w t' 1 h2 ht' (by decide)] at e3
        rw [m2, hE w t' 2 h2 ht' (by decide)] at e4
        have := hs.2.1 w t' hw ht' hq2
        rw [← e4] at this
        omega
    · by_cases h2 : w = i ∧ t' = t
      · obtain ⟨rfl, rfl⟩ := h2
        rw [hE u t' 0 h1 ht' (by decide)] at hq
        rw [m1, hE u t' 1 h1 ht' (by decide)] at e3
        rw [m2, hE u t' 2 h1 ht' (by decide)] at e4
        have := hs.2.1 u t' hu ht' hq
        rw [e4] at this
        omega
      · rw [hE u t' 0 h1 ht' (by decide)] at hq ⊢
        rw [hE w t' 0 h2 ht' (by decide)] at hq2 ⊢
        rw [hE u t' 1 h1 ht' (by decide), hE w t' 1 h2 ht' (by decide)] at e3
        rw [hE u t' 2 h1 ht' (by decide), hE w t' 2 h2 ht' (by decide)] at e4
        exact hs.2.2.2 u w t' hu hw ht' hq hq2 e3 e4
