theorem sim_wk {V : Nat → Nat → Nat} {S : Nat → Nat} (h : rV V S) (hs : sI S) (h7 : S 0 ≤ 7) (v : Int32) : sim (kWk V v) (mWakes S v) := by
  unfold kWk mWakes
  rw [h.1.1]
  by_cases hv : hasN (S 0) v = true
  · rw [if_pos hv, if_pos hv]
    obtain ⟨i, hi, rfl⟩ := hasN_of (by omega) hv
    rw [ix_nI (by omega), (h.2.1 i (by omega)).1]
    by_cases hz : S (5 + 4 * i + 0) = 1
    · rw [if_pos hz, if_pos hz]
      have hr : rV (vU V 1 i 0) (upN S (5 + 4 * i + 0) 0) := by
        refine rV_num h ?_ (fun u hu => ?_) (fun k a b => ?_) (fun j hj => ?_)
        · (simp only [upN_at, vU_at]; repeat first | rw [if_pos trivial] | rw [if_pos (by omega)] | rw [if_neg (by omega)])
          exact h.1
        · obtain ⟨a1, a2, a3, a4⟩ := h.2.1 u hu
          by_cases hui : u = i
          · subst hui
            refine ⟨?_, ?_, ?_, ?_⟩ <;> (simp only [upN_at, vU_at]; repeat first | rw [if_pos trivial] | rw [if_pos (by omega)] | rw [if_neg (by omega)]) <;> assumption
          · refine ⟨?_, ?_, ?_, ?_⟩ <;> (simp only [upN_at, vU_at]; repeat first | rw [if_pos trivial] | rw [if_pos (by omega)] | rw [if_neg (by omega)]) <;> assumption
        · rw [vU_n _ _ _ (by omega)]
        · rw [upN_n _ _ (by omega)]
      have e0 : (upN S (5 + 4 * i + 0) 0) 0 = S 0 := by (simp only [upN_at, vU_at]; repeat first | rw [if_pos trivial] | rw [if_pos (by omega)] | rw [if_neg (by omega)])
      refine ⟨hr, ?_, ?_⟩
      · show sI (upN S (5 + 4 * i + 0) 0)
        refine sI_num hs (fun u k a b c => ?_) (fun u hu => ?_) (rV_au h) (fun u hu hq => ?_) (fun j hj => ?_)
        · rw [e0] at a
          (simp only [upN_at, vU_at]; repeat first | rw [if_pos trivial] | rw [if_pos (by omega)] | rw [if_neg (by omega)])
          exact hs.1 u k a b c
        · (simp only [upN_at, vU_at]; repeat first | rw [if_pos trivial] | rw [if_pos (by omega)] | rw [if_neg (by omega)])
          exact Nat.le_refl _
        · by_cases hui : u = i
          · subst hui
            rw [upN_s] at hq
            exact absurd hq (by decide)
          · have hq2 : S (5 + 4 * u + 0) = 1 := by
              rw [upN_n _ _ (by omega)] at hq
              exact hq
            (simp only [upN_at, vU_at]; repeat first | rw [if_pos trivial] | rw [if_pos (by omega)] | rw [if_neg (by omega)])
            exact hs.2.2.1 u hu hq2
        · rw [upN_n _ _ (by omega)]
      · show nI (V 0 1) - nI (V 3 i) = nI (S 1) - nI (S (5 + 4 * i + 3))
        rw [h.1.2.1, (h.2.1 i (by omega)).2.2.2]
    · rw [if_neg hz, if_neg hz]
      exact ⟨h, hs, rfl⟩
  · rw [if_neg hv, if_neg hv]
    exact ⟨h, hs, rfl⟩
theorem zS_id {S : Nat → Nat} (hs : sI S) (h : S 0 < 7) : zS S (S 0) 4 = S := by
  funext j
  unfold zS
  split
  · have := hs.1 (S 0) (j - (5 + 4 * S 0)) (Nat.le_refl _) h (by omega)
    rw [show 5 + 4 * S 0 + (j - (5 + 4 * S 0)) = j by omega] at this
    exact this.symm
  · rfl
theorem sm_s (f : Nat → Nat) (n : Nat) : sm f (n + 1) = sm f n + f n := rfl
def mAdd (S : Nat → Nat) : (Nat → Nat) × Int32 := if S 0 = 7 then (S, -1000003) else (mNew S, nI (S 0))
theorem sim_add {V : Nat → Nat → Nat} {S : Nat → Nat} (h : rV V S) (hs : sI S) (h7 : S 0 ≤ 7) : sim (kAdd V) (mAdd S) := by
  unfold kAdd mAdd
  rw [h.1.1]
  by_cases hz : S 0 = 7
  · rw [if_neg (by omega), if_pos hz]
    exact ⟨h, hs, rfl⟩
  · rw [if_pos (by omega), if_neg hz]
    unfold mNew
    rw [zS_id hs (by omega)]
    refine ⟨?_, ?_, rfl⟩
    · show rV (vU V 0 0 (S 0 + 1)) (upN S 0 (S 0 + 1))
      refine rV_num h ?_ (fun u hu => ?_) (fun k a b => ?_) (fun j hj => ?_)
      · obtain ⟨a1, a2, a3, a4, a5⟩ := h.1
        refine ⟨?_, ?_, ?_, ?_, ?_⟩
        · (simp only [upN_at, vU_at]; repeat first | rw [if_pos trivial] | rw [if_pos (by omega)] | rw [if_neg (by omega)])
        · (simp only [upN_at, vU_at]; repeat first | rw [if_pos trivial] | rw [if_pos (by omega)] | rw [if_neg (by omega)]); assumption
        · (simp only [upN_at, vU_at]; repeat first | rw [if_pos trivial] | rw [if_pos (by omega)] | rw [if_neg (by omega)]); assumption
        · (simp only [upN_at, vU_at]; repeat first | rw [if_pos trivial] | rw [if_pos (by omega)] | rw [if_neg (by omega)]); assumption
        · rw [show vU V 0 0 (S 0 + 1) 4 = V 4 from rfl, show vU V 0 0 (S 0 + 1) 0 0 = S 0 + 1 from rfl, sm_s, upN_n _ _ (by decide), (h.2.1 (S 0) (by omega)).2.2.1, hs.1 (S 0) 2 (Nat.le_refl _) (by omega) (by decide), ← a5, a1]
          rfl
      · obtain ⟨a1, a2, a3, a4⟩ := h.2.1 u hu
        refine ⟨?_, ?_, ?_, ?_⟩ <;> (simp only [upN_at, vU_at]; repeat first | rw [if_pos trivial] | rw [if_pos (by omega)] | rw [if_neg (by omega)]) <;> assumption
      · rw [vU_n _ _ _ (by omega)]
      · rw [upN_n _ _ (by omega)]
    · show sI (upN S 0 (S 0 + 1))
      refine sI_num hs (fun u k a b c => ?_) (fun u hu => ?_) (rV_au h) (fun u hu hq => ?_) (fun j hj => ?_)
      · rw [upN_s] at a
        (simp only [upN_at, vU_at]; repeat first | rw [if_pos trivial] | rw [if_pos (by omega)] | rw [if_neg (by omega)])
        exact hs.1 u k (by omega) b c
      · (simp only [upN_at, vU_at]; repeat first | rw [if_pos trivial] | rw [if_pos (by omega)] | rw [if_neg (by omega)])
        exact Nat.le_refl _
      · have hq2 : S (5 + 4 * u + 0) = 1 := by
          rw [upN_n _ _ (by omega)] at hq
          exact hq
        (simp only [upN_at, vU_at]; repeat first | rw [if_pos trivial] | rw [if_pos (by omega)] | rw [if_neg (by omega)])
        exact hs.2.2.1 u hu hq2
      · rw [upN_n _ _ (by omega)]
def mCw (S : Nat → Nat) (v : Int32) : (Nat → Nat) × Int32 := if inN 1 60 v = true then (upN S 2 (ix v), nI (S 2)) else (S, -1000001)
theorem sim_cw {V : Nat → Nat → Nat} {S : Nat → Nat} (h : rV V S) (hs : sI S) (v : Int32) : sim (kCw V v) (mCw S v) := by
  unfold kCw mCw
  by_cases hv : inN 1 60 v = true
  · rw [if_pos hv, if_pos hv]
    refine ⟨?_, ?_, congrArg nI h.1.2.2.1⟩
    · show rV (vU V 0 2 (ix v)) (upN S 2 (ix v))
      refine rV_num h ?_ (fun u hu => ?_) (fun k a b => ?_) (fun j hj => ?_)
      · obtain ⟨a1, a2, a3, a4, a5⟩ := h.1
        refine ⟨?_, ?_, ?_, ?_, a5⟩ <;> (simp only [upN_at, vU_at]; repeat first | rw [if_pos trivial] | rw [if_pos (by omega)] | rw [if_neg (by omega)]) <;> first | assumption | rfl
      · obtain ⟨a1, a2, a3, a4⟩ := h.2.1 u hu
        refine ⟨?_, ?_, ?_, ?_⟩ <;> (simp only [upN_at, vU_at]; repeat first | rw [if_pos trivial] | rw [if_pos (by omega)] | rw [if_neg (by omega)]) <;> assumption
      · rw [vU_n _ _ _ (by omega)]
      · rw [upN_n _ _ (by omega)]
    · show sI (upN S 2 (ix v))
      refine sI_num hs (fun u k a b c => ?_) (fun u hu => ?_) (rV_au h) (fun u hu hq => ?_) (fun j hj => ?_)
      · rw [upN_n _ _ (by decide)] at a
        (simp only [upN_at, vU_at]; repeat first | rw [if_pos trivial] | rw [if_pos (by omega)] | rw [if_neg (by omega)])
        exact hs.1 u k a b c
      · (simp only [upN_at, vU_at]; repeat first | rw [if_pos trivial] | rw [if_pos (by omega)] | rw [if_neg (by omega)])
        exact Nat.le_refl _
      · have hq2 : S (5 + 4 * u + 0) = 1 := by
          rw [upN_n _ _ (by omega)] at hq
          exact hq
        (simp only [upN_at, vU_at]; repeat first | rw [if_pos trivial] | rw [if_pos (by omega)] | rw [if_neg (by omega)])
        exact hs.2.2.1 u hu hq2
      · rw [upN_n _ _ (by omega)]
  · rw [if_neg hv, if_neg hv]
    exact ⟨h, hs, rfl⟩
