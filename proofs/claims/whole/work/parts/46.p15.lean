theorem rA_mr {V : Nat → Nat → Nat} {S : Nat → Nat} {N : Nat} (h : rA V S N) (hN : N + 1 < 2 ^ 30) (v t a k : Int32) : rA (kMR V v t a k).1 (mTells S v t a k).1 (N + 1) ∧ (kMR V v t a k).2 = (mTells S v t a k).2 := by
  obtain ⟨hr, hs, hI, hj, hd⟩ := h
  have h7 := hI.1.2.2.1
  have q := sim_mr hr hs h7 v t a k
  refine ⟨⟨q.1, q.2.1, mI_Tells hI hN v t a k, ?_, ?_⟩, q.2.2⟩
  · unfold kMR
    split
    · rename_i hc
      obtain ⟨hv, ht, ha, hk⟩ := hc
      obtain ⟨x, -, hx, rfl⟩ := inN_of (by decide) ha
      obtain ⟨y, -, hy, rfl⟩ := inN_of (by decide) hk
      rw [ix_nI (i := x) (by omega), ix_nI (i := y) (by omega)]
      split
      · intro p hp
        obtain ⟨j1, j2, j3, j4⟩ := hj p hp
        refine ⟨?_, ?_, j3, j4⟩
        · show upN (V 6) _ y p ≤ 3
          unfold upN
          split
          · omega
          · exact j1
        · show upN (V 7) _ x p ≤ 99
          unfold upN
          split
          · omega
          · exact j2
      · exact hj
    · exact hj
  · unfold mTells
    split
    · rename_i hc
      obtain ⟨hv, ht, ha, hk⟩ := hc
      obtain ⟨i, hi, rfl⟩ := hasN_of (by omega) hv
      rw [ix_nI (by omega)]
      split
      · intro j a b
        dsimp only
        rw [mMake_n S (by omega) (Or.inl (by omega))]
        have := hd j a b
        omega
      · intro j a b
        have := hd j a b
        dsimp only
        omega
    · intro j a b
      have := hd j a b
      dsimp only
      omega
theorem rA_add {V : Nat → Nat → Nat} {S : Nat → Nat} {N : Nat} (h : rA V S N) : rA (kAdd V).1 (mAdd S).1 N ∧ (kAdd V).2 = (mAdd S).2 := by
  obtain ⟨hr, hs, hI, hj, hd⟩ := h
  have h7 := hI.1.2.2.1
  have q := sim_add hr hs h7
  refine ⟨⟨q.1, q.2.1, ?_, ?_, ?_⟩, q.2.2⟩
  · unfold mAdd
    split
    · exact hI
    · unfold mNew
      rw [zS_id hs (by omega)]
      obtain ⟨⟨b1, b2, b3, b4, b5⟩, hW, hc, h1⟩ := hI
      refine ⟨⟨fun j a b => ?_, fun v k a b c => ?_, ?_, ?_, ?_⟩, fun v t a b => ?_, fun v a => ?_, ?_⟩
      · dsimp only; rw [upN_n _ _ (by omega)]; exact b1 j a b
      · dsimp only; rw [upN_n _ _ (by omega)]; exact b2 v k a b c
      · dsimp only; rw [upN_s]; omega
      · dsimp only; rw [upN_n _ _ (by omega)]; exact b4
      · dsimp only; rw [upN_n _ _ (by omega)]; exact b5
      · dsimp only; rw [upN_n _ _ (by omega), upN_n _ _ (by omega)]; exact hW v t a b
      · dsimp only; rw [upN_n _ _ (by omega)]; exact hc v a
      · dsimp only; rw [upN_n _ _ (by omega)]; exact h1
  · unfold kAdd
    split
    · exact hj
    · exact hj
  · unfold mAdd
    split
    · exact hd
    · unfold mNew
      rw [zS_id hs (by omega)]
      intro j a b
      dsimp only
      rw [upN_n _ _ (by omega)]
      exact hd j a b

