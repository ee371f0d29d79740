theorem rE_rum {V : Nat → Nat → Nat} {S : Nat → Nat} {v t : Nat} (h : rE V S v t) : kRum V (v * 12 + t) = decide (S (225 + 84 * v + 7 * t + 0) = 1) := by
  unfold kRum
  rcases h with h | h | h
  · rw [decide_eq_false (by omega), decide_eq_false (by omega)]
  · rw [decide_eq_true (by omega), decide_eq_true (by omega)]
  · rw [decide_eq_false (by omega), decide_eq_false (by omega)]
theorem rE_tmb {V : Nat → Nat → Nat} {S : Nat → Nat} {v t : Nat} (h : rE V S v t) : kTmb V (v * 12 + t) = decide (S (225 + 84 * v + 7 * t + 0) = 2) := by
  unfold kTmb
  rcases h with h | h | h
  · rw [decide_eq_false (by omega), decide_eq_false (by omega)]
  · rw [decide_eq_false (by omega), decide_eq_false (by omega)]
  · rw [decide_eq_true (by omega), decide_eq_true (by omega)]
theorem rV_Make {V V' : Nat → Nat → Nat} {S : Nat → Nat} (h : rV V S) {i t a b c : Nat} (hi : i < 7) (ht : t < 12) (v0 : V' 0 = V 0) (v1 : V' 1 = V 1) (v2 : V' 2 = upN (V 2) i (V 2 i + 1)) (v3 : V' 3 = V 3) (v4 : V' 4 = V 4) (v10 : V' 10 = V 10) (v11 : V' 11 = V 11) (hq : ∀ k q, 5 ≤ k → k ≤ 9 → q ≠ i * 12 + t → V' k q = V k q) (he : rE V' (mMake S i t a b c) i t) : rV V' (mMake S i t a b c) := by
  refine ⟨?_, fun u hu => ?_, fun u t' hu ht' => ?_, fun u t' hu ht' => ?_, fun t' ht' => ?_⟩
  · rw [v0, v4, mMake_n S (j := 0) (by omega) (Or.inl (by omega)), mMake_n S (j := 1) (by omega) (Or.inl (by omega)), mMake_n S (j := 2) (by omega) (Or.inl (by omega)), mMake_n S (j := 3) (by omega) (Or.inl (by omega)), mMake_n S (j := 4) (by omega) (Or.inl (by omega))]
    exact h.1
  · obtain ⟨a1, a2, a3, a4⟩ := h.2.1 u hu
    rw [v1, v2, v3, v4, mMake_n S (j := 5 + 4 * u + 0) (by omega) (Or.inl (by omega)), mMake_n S (j := 5 + 4 * u + 2) (by omega) (Or.inl (by omega)), mMake_n S (j := 5 + 4 * u + 3) (by omega) (Or.inl (by omega))]
    refine ⟨a1, ?_, a3, a4⟩
    by_cases hui : u = i
    · subst hui
      rw [upN_s, mMake_c S hu, a2]
    · rw [upN_n _ _ hui, mMake_n S (by omega) (Or.inl (by omega))]
      exact a2
  · by_cases hut : u = i ∧ t' = t
    · obtain ⟨rfl, rfl⟩ := hut; exact he
    · exact rE_c (h.2.2.1 u t' hu ht') (fun k x y => hq k _ x y (by omega)) (fun k hk => mMake_n S (by omega) (by omega))
  · rw [v10, mMake_n S (by omega) (Or.inl (by omega)), mMake_n S (by omega) (Or.inl (by omega))]
    exact h.2.2.2.1 u t' hu ht'
  · rw [v11, mMake_n S (by omega) (Or.inl (by omega)), mMake_n S (by omega) (Or.inl (by omega))]
    exact h.2.2.2.2 t' ht'
theorem sim_mr {V : Nat → Nat → Nat} {S : Nat → Nat} (h : rV V S) (hs : sI S) (h7 : S 0 ≤ 7) (v t a k : Int32) : sim (kMR V v t a k) (mTells S v t a k) := by
  unfold kMR mTells
  rw [h.1.1]
  by_cases hc : hasN (S 0) v = true ∧ hasN 12 t = true ∧ inN 0 99 a = true ∧ inN 0 2 k = true
  · rw [if_pos hc, if_pos hc]
    obtain ⟨hv, ht, ha, hk⟩ := hc
    obtain ⟨i, hi, rfl⟩ := hasN_of (by omega) hv
    obtain ⟨j, hj, rfl⟩ := hasN_of (by decide) ht
    obtain ⟨x, -, hx, rfl⟩ := inN_of (by decide) ha
    obtain ⟨y, -, hy, rfl⟩ := inN_of (by decide) hk
    rw [ix_nI (by omega), ix_nI (by omega), ix_nI (by omega), ix_nI (by omega), (h.2.1 i (by omega)).1]
    by_cases hz : S (5 + 4 * i + 0) = 0
    · rw [if_pos hz, if_pos hz]
      obtain ⟨m0, m1, m2, m3, m4, m5, m6⟩ := mMake_e S (v := i) (t := j) (a := 1) (b := x) (c := y) (by omega)
      have a2 := (h.2.1 i (by omega)).2.1
      refine ⟨?_, ?_, ?_⟩
      · show rV (vU (kWr V i (i * 12 + j) y) 7 (i * 12 + j) x) (mMake S i j 1 x y)
        refine rV_Make h (by omega) hj rfl rfl rfl rfl rfl rfl rfl (fun k q h1 h2 h3 => ?_) (Or.inr (Or.inl ⟨m0, ?_, by omega, by omega, ?_, by omega, ?_⟩))
        · unfold kWr
          rw [vU_at, vU_at, vU_at, vU_at]
          repeat first | rw [if_neg h3] | rw [ite_self] | rw [if_neg (by omega)]
        · show upN (V 5) (i * 12 + j) ((V 2 i + 1) * 8 + i) (i * 12 + j) = _
          rw [upN_s, m1, m2, a2]; omega
        · show upN (V 6) (i * 12 + j) y (i * 12 + j) = _
          rw [upN_s, m4]
        · show upN (V 7) (i * 12 + j) x (i * 12 + j) = _
          rw [upN_s, m3]
      · exact sI_Make hs (rV_au h) hi h7 hj (by decide)
      · show nI (V 2 i + 1) = nI (mMake S i j 1 x y (5 + 4 * i + 1))
        rw [mMake_c S (by omega), a2]
    · rw [if_neg hz, if_neg hz]
      exact ⟨h, hs, rfl⟩
  · rw [if_neg hc, if_neg hc]
    exact ⟨h, hs, rfl⟩
