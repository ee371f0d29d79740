theorem mBury_n (S : Nat → Nat) {v t q : Nat} (ht : t < 12) (h4 : q ≠ 4) (h : q < 33 ∨ 57 ≤ q) : mBury S v t q = mMake S v t 2 0 0 q := by
  unfold mBury
  split
  · rw [upN_n _ _ (by omega), upN_n _ _ (by omega), upN_n _ _ h4]
  · rw [upN_n _ _ h4]
theorem mBury_4 (S : Nat → Nat) {v t : Nat} : mBury S v t 4 = mMake S v t 2 0 0 4 + 1 := by
  unfold mBury
  split
  · rw [upN_n _ _ (by omega), upN_n _ _ (by omega), upN_s]
  · rw [upN_s]
theorem newer_lt {a b c d : Nat} (hb : b < 8) (hd : d < 8) : mNewer a b c d = decide (8 * c + d < 8 * a + b) := by
  unfold mNewer
  by_cases h : 8 * c + d < 8 * a + b
  · rw [decide_eq_true h, decide_eq_true (by omega)]
  · rw [decide_eq_false h, decide_eq_false (by omega)]
theorem mBury_t {S : Nat → Nat} {v t : Nat} (hv : v < 7) (ht : t < 12) (h6 : S (33 + 2 * t + 1) < 7) : 8 * mBury S v t (33 + 2 * t) + mBury S v t (33 + 2 * t + 1) = mx (8 * S (33 + 2 * t) + S (33 + 2 * t + 1)) (8 * (S (5 + 4 * v + 1) + 1) + v) ∧ mBury S v t (33 + 2 * t + 1) < 7 := by
  have a1 : mMake S v t 2 0 0 (33 + 2 * t) = S (33 + 2 * t) := mMake_n S (by omega) (Or.inl (by omega))
  have a2 : mMake S v t 2 0 0 (33 + 2 * t + 1) = S (33 + 2 * t + 1) := mMake_n S (by omega) (Or.inl (by omega))
  unfold mBury
  rw [upN_n _ _ (show 33 + 2 * t ≠ 4 by omega), upN_n _ _ (show 33 + 2 * t + 1 ≠ 4 by omega), a1, a2, mMake_c S hv, newer_lt (by omega) (by omega)]
  unfold mx
  by_cases h : 8 * S (33 + 2 * t) + S (33 + 2 * t + 1) < 8 * (S (5 + 4 * v + 1) + 1) + v
  · rw [if_pos (decide_eq_true h), if_pos h, upN_n _ _ (by omega), upN_s, upN_s]
    exact ⟨rfl, hv⟩
  · rw [if_neg (by rw [decide_eq_false h]; decide), if_neg h, upN_n _ _ (by omega), upN_n _ _ (by omega), a1, a2]
    exact ⟨rfl, h6⟩
theorem mBury_o (S : Nat → Nat) {v t t' : Nat} (hv : v < 7) (ht : t < 12) (ht' : t' < 12) (h : t' ≠ t) : mBury S v t (33 + 2 * t') = S (33 + 2 * t') ∧ mBury S v t (33 + 2 * t' + 1) = S (33 + 2 * t' + 1) := by
  have a1 : mMake S v t 2 0 0 (33 + 2 * t') = S (33 + 2 * t') := mMake_n S (by omega) (Or.inl (by omega))
  have a2 : mMake S v t 2 0 0 (33 + 2 * t' + 1) = S (33 + 2 * t' + 1) := mMake_n S (by omega) (Or.inl (by omega))
  unfold mBury
  split
  · rw [upN_n _ _ (by omega), upN_n _ _ (by omega), upN_n _ _ (by omega), a1, upN_n _ _ (by omega), upN_n _ _ (by omega), upN_n _ _ (by omega), a2]
    exact ⟨rfl, rfl⟩
  · rw [upN_n _ _ (by omega), a1, upN_n _ _ (by omega), a2]
    exact ⟨rfl, rfl⟩
theorem sim_mt {V : Nat → Nat → Nat} {S : Nat → Nat} (h : rV V S) (hs : sI S) (h7 : S 0 ≤ 7) (v t : Int32) : sim (kMT V v t) (mBuries S v t) := by
  unfold kMT mBuries
  rw [h.1.1]
  by_cases hc : hasN (S 0) v = true ∧ hasN 12 t = true
  · rw [if_pos hc, if_pos hc]
    obtain ⟨hv, ht⟩ := hc
    obtain ⟨i, hi, rfl⟩ := hasN_of (by omega) hv
    obtain ⟨j, hj, rfl⟩ := hasN_of (by decide) ht
    have hre := h.2.2.1 i j (by omega) hj
    rw [ix_nI (by omega), ix_nI (by omega), (h.2.1 i (by omega)).1, rE_rum hre]
    simp only [decide_eq_true_eq]
    by_cases hz : S (5 + 4 * i + 0) = 0 ∧ S (225 + 84 * i + 7 * j + 0) = 1
    · rw [if_pos hz, if_pos hz]
      obtain ⟨m0, m1, m2, m3, m4, m5, m6⟩ := mMake_e S (v := i) (t := j) (a := 2) (b := 0) (c := 0) (by omega)
      have a2 := (h.2.1 i (by omega)).2.1
      have hr1 : rV (vU (vU (kWr V i (i * 12 + j) 3) 8 (i * 12 + j) (V 0 1)) 9 (i * 12 + j) (2 ^ i)) (mMake S i j 2 0 0) := by
        refine rV_Make h (by omega) hj rfl rfl rfl rfl rfl rfl rfl (fun k q h1 h2 h3 => ?_) (Or.inr (Or.inr ⟨m0, ?_, by omega, by omega, ?_, ?_, ?_⟩))
        · unfold kWr
          rw [vU_at, vU_at, vU_at, vU_at, vU_at]
          repeat first | rw [if_neg h3] | rw [ite_self] | rw [if_neg (by omega)]
        · show upN (V 5) (i * 12 + j) ((V 2 i + 1) * 8 + i) (i * 12 + j) = _
          rw [upN_s, m1, m2, a2]; omega
        · show upN (V 6) (i * 12 + j) 3 (i * 12 + j) = _
          rw [upN_s]
        · show upN (V 8) (i * 12 + j) (V 0 1) (i * 12 + j) = _
          rw [upN_s, m5, h.1.2.1]
        · show upN (V 9) (i * 12 + j) (2 ^ i) (i * 12 + j) = _
          rw [upN_s, m6]
      have hs1 := sI_Make (a := 2) (b := 0) (c := 0) hs (rV_au h) hi h7 hj (by decide)
      obtain ⟨b0, b1, b2, b3, b4⟩ := hr1.1
      have ht6 := h.2.2.2.2 j hj
      have hbt := mBury_t (S := S) (v := i) (t := j) (by omega) hj ht6.2
      have hr : rV (kTb V i j) (mBury S i j) := by
        refine ⟨⟨?_, ?_, ?_, ?_, ?_⟩, fun u hu => ?_, fun u t' hu ht' => ?_, fun u t' hu ht' => ?_, fun t' ht' => ?_⟩
        · rw [mBury_n S hj (by decide) (by omega)]; exact b0
        · rw [mBury_n S hj (by decide) (by omega)]; exact b1
        · rw [mBury_n S hj (by decide) (by omega)]; exact b2
        · rw [mBury_4, ← b3]; rfl
        · rw [mBury_n S hj (by decide) (by omega)]; exact b4
        · rw [mBury_n S hj (by omega) (by omega), mBury_n S hj (by omega) (by omega), mBury_n S hj (by omega) (by omega), mBury_n S hj (by omega) (by omega)]
          exact hr1.2.1 u hu
        · refine rE_c (hr1.2.2.1 u t' hu ht') (fun k x y => ?_) (fun k hk => mBury_n S hj (by omega) (by omega))
          unfold kTb
          rw [vU_n _ _ _ (by omega), vU_n _ _ _ (by omega)]
        · rw [mBury_n S hj (by omega) (by omega), mBury_n S hj (by omega) (by omega)]
          exact hr1.2.2.2.1 u t' hu ht'
        · by_cases htt : t' = j
          · subst htt
            refine ⟨?_, hbt.2⟩
            rw [hbt.1, ← ht6.1, ← a2]
            show upN (V 11) t' (mx (V 11 t') ((V 2 i + 1) * 8 + i)) t' = _
            rw [upN_s, Nat.mul_comm]
          · obtain ⟨c1, c2⟩ := mBury_o S (v := i) (by omega) hj ht' htt
            rw [c1, c2]
            have := h.2.2.2.2 t' ht'
            refine ⟨?_, this.2⟩
            rw [← this.1]
            show upN (V 11) j (mx (V 11 j) ((V 2 i + 1) * 8 + i)) t' = _
            rw [upN_n _ _ htt]
      refine ⟨hr, ?_, ?_⟩
      · show sI (mBury S i j)
        refine sI_num hs1 (fun u k a b c => ?_) (fun u hu => ?_) (rV_au hr1) (fun u hu hq => ?_) (fun q hq => mBury_n S hj (by omega) (by omega))
        · rw [mBury_n S hj (by decide) (by omega)] at a
          rw [mBury_n S hj (by omega) (by omega)]
          exact hs1.1 u k a b c
        · rw [mBury_n S hj (by omega) (by omega)]; exact Nat.le_refl _
        · rw [mBury_n S hj (by omega) (by omega)] at hq
          rw [mBury_n S hj (by omega) (by omega), mBury_n S hj (by decide) (by omega)]
          exact hs1.2.2.1 u hu hq
      · show nI (V 2 i + 1) = nI (mMake S i j 2 0 0 (5 + 4 * i + 1))
        rw [mMake_c S (by omega), a2]
    · rw [if_neg hz, if_neg hz]
      exact ⟨h, hs, rfl⟩
  · rw [if_neg hc, if_neg hc]
    exact ⟨h, hs, rfl⟩
