theorem rA_meet {V : Nat → Nat → Nat} {S : Nat → Nat} {N : Nat} (h : rA V S N) (v u : Int32) : rA (kMeet V v u).1 (mMeets1 S v u).1 N ∧ (kMeet V v u).2 = (mMeets1 S v u).2 := by
  have h7 := h.2.2.1.1.2.2.1
  have q := sim_meet h.1 h.2.1 h7 v u
  refine ⟨?_, q.2.2⟩
  have hk : kTwo V v u = true ↔ hasN (S 0) v = true ∧ hasN (S 0) u = true ∧ v ≠ u := by
    unfold kTwo
    rw [h.1.1.1, Bool.and_eq_true, Bool.and_eq_true, decide_eq_true_eq]
  unfold kMeet mMeets1
  by_cases hc : hasN (S 0) v = true ∧ hasN (S 0) u = true ∧ v ≠ u
  · rw [if_pos hc, if_pos (hk.mpr hc)]
    obtain ⟨hv, hu, hne⟩ := hc
    obtain ⟨i, hi, rfl⟩ := hasN_of (by omega) hv
    obtain ⟨j, hj, rfl⟩ := hasN_of (by omega) hu
    have hij : i ≠ j := fun z => hne (by rw [z])
    rw [ix_nI (by omega), ix_nI (by omega), (h.1.2.1 i (by omega)).1, (h.1.2.1 j (by omega)).1]
    by_cases hz : S (5 + 4 * i + 0) = 0 ∧ S (5 + 4 * j + 0) = 0
    · rw [if_pos hz, if_pos hz]
      dsimp only
      exact (rA_tk h hi hj hij).1
    · rw [if_neg hz, if_neg hz]
      exact h
  · rw [if_neg hc, if_neg (fun z => hc (hk.mp z))]
    exact h
theorem rA_mt {V : Nat → Nat → Nat} {S : Nat → Nat} {N : Nat} (h : rA V S N) (hN : N + 1 < 2 ^ 30) (v t : Int32) : rA (kMT V v t).1 (mBuries S v t).1 (N + 1) ∧ (kMT V v t).2 = (mBuries S v t).2 := by
  obtain ⟨hr, hs, hI, hj, hd⟩ := h
  have h7 := hI.1.2.2.1
  have q := sim_mt hr hs h7 v t
  refine ⟨⟨q.1, q.2.1, mI_Buries hI hN v t, ?_, ?_⟩, q.2.2⟩
  · unfold kMT
    rw [hr.1.1]
    split
    · rename_i hc
      obtain ⟨hv, ht⟩ := hc
      obtain ⟨i, hi, rfl⟩ := hasN_of (by omega) hv
      rw [ix_nI (i := i) (by omega)]
      split
      · intro p hp
        obtain ⟨j1, j2, j3, j4⟩ := hj p hp
        have p7 : 2 ^ i < 128 := Nat.pow_lt_pow_right (m := i) (n := 7) (by decide) (by omega)
        refine ⟨?_, j2, ?_, ?_⟩
        · show upN (V 6) _ 3 p ≤ 3
          unfold upN
          split
          · decide
          · exact j1
        · show upN (V 8) _ (V 0 1) p ≤ V 0 1
          unfold upN
          split
          · exact Nat.le_refl _
          · exact j3
        · show upN (V 9) _ (2 ^ i) p < 128
          unfold upN
          split
          · exact p7
          · exact j4
      · exact hj
    · exact hj
  · have hd2 : dI S (N + 1) := fun j a b => by have := hd j a b; omega
    unfold mBuries
    split
    · rename_i hc
      obtain ⟨hv, ht⟩ := hc
      obtain ⟨i, hi, rfl⟩ := hasN_of (by omega) hv
      obtain ⟨k, hk, rfl⟩ := hasN_of (by decide) ht
      rw [ix_nI (by omega), ix_nI (by omega)]
      split
      · intro j a b
        dsimp only
        have hm : mMake S i k 2 0 0 j = S j := mMake_n S (by omega) (Or.inl (by omega))
        have hc := hI.2.2.1 i (by omega)
        have h9 := hd j a b
        unfold mBury
        split
        · unfold upN
          split
          · omega
          · split
            · rw [mMake_c S (by omega)]; omega
            · split
              · omega
              · rw [hm]; omega
        · rw [upN_n _ _ (by omega), hm]; omega
      · exact hd2
    · exact hd2

