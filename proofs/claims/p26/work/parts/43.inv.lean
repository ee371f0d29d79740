/-! what the calls do to a village, and that J stays -/
theorem vUe (V : Nat → Nat → Nat) (k i x j : Nat) : vU V k i x k j = if j = i then x else V k j := by
  rw [vU_s]
  rfl
theorem J_le {V : Nat → Nat → Nat} {N N' G G' : Nat} (h : J V N G) (hN : N ≤ N') (hG : G ≤ G') : J V N' G' := by
  obtain ⟨h0, h1, h2, h3, h4, h5, h6, h7⟩ := h
  refine ⟨h0, by omega, h2, by omega, fun i hi => ?_, h5, fun p hp => ?_, fun t ht => ?_⟩
  · obtain ⟨a, b, c, d, e⟩ := h4 i hi
    exact ⟨a, by omega, c, by omega, e⟩
  · obtain ⟨a, b, c, d, e⟩ := h6 p hp
    exact ⟨a, b, c, d, by omega⟩
  · have := h7 t ht
    omega
theorem pl_inj {i v t s : Nat} (ht : t < 12) (hs : s < 12) : i * 12 + t = v * 12 + s ↔ i = v ∧ t = s := by omega
/-- a new rumor -/
def kMr (V : Nat → Nat → Nat) (v t a k : Nat) : Nat → Nat → Nat := vU (kWr V v (v * 12 + t) k) 7 (v * 12 + t) a
theorem J_Mr {V : Nat → Nat → Nat} {N G v t a k : Nat} (h : J V N G) (hv : v < 7) (ht : t < 12) (ha : a ≤ 99) (hk : k ≤ 2) (h0 : V 1 v ≠ 2) : J (kMr V v t a k) (N + 1) G := by
  have e0 : kMr V v t a k 0 = V 0 := by unfold kMr kWr; simp (disch := decide) only [vU_n]
  have e1 : kMr V v t a k 1 = V 1 := by unfold kMr kWr; simp (disch := decide) only [vU_n]
  have e2 : ∀ j, kMr V v t a k 2 j = if j = v then V 2 v + 1 else V 2 j := fun j => by unfold kMr kWr; simp (disch := decide) only [vU_n, vUe]
  have e3 : kMr V v t a k 3 = V 3 := by unfold kMr kWr; simp (disch := decide) only [vU_n]
  have e4 : kMr V v t a k 4 = V 4 := by unfold kMr kWr; simp (disch := decide) only [vU_n]
  have e5 : ∀ j, kMr V v t a k 5 j = if j = v * 12 + t then (V 2 v + 1) * 8 + v else V 5 j := fun j => by unfold kMr kWr; simp (disch := decide) only [vU_n, vUe]
  have e6 : ∀ j, kMr V v t a k 6 j = if j = v * 12 + t then k else V 6 j := fun j => by unfold kMr kWr; simp (disch := decide) only [vU_n, vUe]
  have e7 : ∀ j, kMr V v t a k 7 j = if j = v * 12 + t then a else V 7 j := fun j => by unfold kMr kWr; simp (disch := decide) only [vU_n, vUe]
  have e8 : kMr V v t a k 8 = V 8 := by unfold kMr kWr; simp (disch := decide) only [vU_n]
  have e9 : kMr V v t a k 9 = V 9 := by unfold kMr kWr; simp (disch := decide) only [vU_n]
  have e10 : kMr V v t a k 10 = V 10 := by unfold kMr kWr; simp (disch := decide) only [vU_n]
  have e11 : kMr V v t a k 11 = V 11 := by unfold kMr kWr; simp (disch := decide) only [vU_n]
  generalize kMr V v t a k = V' at *
  obtain ⟨h0', h1, h2, h3, h4, h5, h6, h7⟩ := h
  refine ⟨by rw [e0]; exact h0', by rw [e0]; omega, by rw [e0]; exact h2, by rw [e0]; omega, fun i hi => ?_, fun i s hi hs hne => ?_, fun p hp => ?_, fun s hs => ?_⟩
  · obtain ⟨a1, a2, a3, a4, a5⟩ := h4 i hi
    have av := (h4 v hv).2.1
    rw [e0, e1, e2, e3, e4]
    refine ⟨a1, by split <;> omega, a3, a4, fun z s hs => ?_⟩
    rw [e5, if_neg (fun q => by have := (pl_inj hs ht).mp q; exact h0 (by rw [← this.1]; exact z))]
    exact a5 z s hs
  · rw [e5] at hne ⊢
    rw [e2, e6, e9]
    by_cases hq : i * 12 + s = v * 12 + t
    · have hq' := (pl_inj hs ht).mp hq
      rw [if_pos hq, if_pos hq, if_pos hq'.1]
      refine ⟨by omega, by omega, by omega, fun z => by omega⟩
    · rw [if_neg hq] at hne ⊢
      rw [if_neg hq]
      obtain ⟨b1, b2, b3, b4⟩ := h5 i s hi hs hne
      refine ⟨b1, ?_, b3, b4⟩
      split
      · rename_i z; subst z; omega
      · exact b2
  · obtain ⟨c1, c2, c3, c4, c5⟩ := h6 p hp
    rw [e0, e6, e7, e8, e9, e10]
    refine ⟨by split <;> omega, by split <;> omega, c3, c4, by omega⟩
  · have := h7 s hs
    rw [e11]
    omega
theorem J_Tb {V : Nat → Nat → Nat} {N G v t : Nat} (h : J V N G) (hv : v < 7) (ht : t < 12) (h0 : V 1 v ≠ 2) : J (kTb V v t) (N + 1) G := by
  have e00 : ∀ j, kTb V v t 0 j = if j = 3 then V 0 3 + 1 else V 0 j := fun j => by unfold kTb kWr; simp (disch := decide) only [vU_n, vUe]
  have e1 : kTb V v t 1 = V 1 := by unfold kTb kWr; simp (disch := decide) only [vU_n]
  have e2 : ∀ j, kTb V v t 2 j = if j = v then V 2 v + 1 else V 2 j := fun j => by unfold kTb kWr; simp (disch := decide) only [vU_n, vUe]
  have e3 : kTb V v t 3 = V 3 := by unfold kTb kWr; simp (disch := decide) only [vU_n]
  have e4 : kTb V v t 4 = V 4 := by unfold kTb kWr; simp (disch := decide) only [vU_n]
  have e5 : ∀ j, kTb V v t 5 j = if j = v * 12 + t then (V 2 v + 1) * 8 + v else V 5 j := fun j => by unfold kTb kWr; simp (disch := decide) only [vU_n, vUe]
  have e6 : ∀ j, kTb V v t 6 j = if j = v * 12 + t then 3 else V 6 j := fun j => by unfold kTb kWr; simp (disch := decide) only [vU_n, vUe]
  have e7 : kTb V v t 7 = V 7 := by unfold kTb kWr; simp (disch := decide) only [vU_n]
  have e8 : ∀ j, kTb V v t 8 j = if j = v * 12 + t then V 0 1 else V 8 j := fun j => by unfold kTb kWr; simp (disch := decide) only [vU_n, vUe]
  have e9 : ∀ j, kTb V v t 9 j = if j = v * 12 + t then 2 ^ v else V 9 j := fun j => by unfold kTb kWr; simp (disch := decide) only [vU_n, vUe]
  have e10 : kTb V v t 10 = V 10 := by unfold kTb kWr; simp (disch := decide) only [vU_n]
  have e11 : ∀ j, kTb V v t 11 j = if j = t then mx (V 11 t) ((V 2 v + 1) * 8 + v) else V 11 j := fun j => by unfold kTb kWr; simp (disch := decide) only [vU_n, vUe]
  generalize kTb V v t = V' at *
  have e0 : V' 0 0 = V 0 0 ∧ V' 0 1 = V 0 1 ∧ V' 0 2 = V 0 2 ∧ V' 0 3 = V 0 3 + 1 := ⟨by rw [e00]; rfl, by rw [e00]; rfl, by rw [e00]; rfl, by rw [e00]; rfl⟩
  obtain ⟨h0', h1, h2, h3, h4, h5, h6, h7⟩ := h
  have av := (h4 v hv).2.1
  have hp7 : 2 ^ v < 128 := Nat.lt_of_lt_of_le (Nat.pow_lt_pow_right (by decide) hv) (by decide)
  refine ⟨by rw [e0.1]; exact h0', by rw [e0.2.1]; omega, by rw [e0.2.2.1]; exact h2, by rw [e0.2.2.2]; omega, fun i hi => ?_, fun i s hi hs hne => ?_, fun p hp => ?_, fun s hs => ?_⟩
  · obtain ⟨a1, a2, a3, a4, a5⟩ := h4 i hi
    rw [e0.2.1, e1, e2, e3, e4]
    refine ⟨a1, by split <;> omega, a3, a4, fun z s hs => ?_⟩
    rw [e5, if_neg (fun q => by have := (pl_inj hs ht).mp q; exact h0 (by rw [← this.1]; exact z))]
    exact a5 z s hs
  · rw [e5] at hne ⊢
    rw [e2, e6, e9]
    by_cases hq : i * 12 + s = v * 12 + t
    · have hq' := (pl_inj hs ht).mp hq
      rw [if_pos hq, if_pos hq, if_pos hq, if_pos hq'.1]
      refine ⟨by omega, by omega, by omega, fun _ => ?_⟩
      have hm : ((V 2 v + 1) * 8 + v) % 8 = v := by omega
      rw [hm, hq'.1]
      exact ⟨Nat.testBit_two_pow_self, Nat.testBit_two_pow_self⟩
    · rw [if_neg hq] at hne ⊢
      rw [if_neg hq, if_neg hq]
      obtain ⟨b1, b2, b3, b4⟩ := h5 i s hi hs hne
      refine ⟨b1, ?_, b3, b4⟩
      split
      · rename_i z; subst z; omega
      · exact b2
  · obtain ⟨c1, c2, c3, c4, c5⟩ := h6 p hp
    rw [e0.2.1, e6, e7, e8, e9, e10]
    refine ⟨by split <;> omega, c2, by split <;> omega, by split <;> omega, by omega⟩
  · have := h7 s hs
    have := h7 t ht
    rw [e11]
    unfold mx
    (repeat' split) <;> omega
theorem J_sl {V : Nat → Nat → Nat} {N G v : Nat} (h : J V N G) : J (vU (vU V 1 v 1) 3 v (V 0 1)) N G := by
  have e0 : vU (vU V 1 v 1) 3 v (V 0 1) 0 = V 0 := by simp (disch := decide) only [vU_n]
  have e1 : ∀ j, vU (vU V 1 v 1) 3 v (V 0 1) 1 j = if j = v then 1 else V 1 j := fun j => by simp (disch := decide) only [vU_n, vUe]
  have e3 : ∀ j, vU (vU V 1 v 1) 3 v (V 0 1) 3 j = if j = v then V 0 1 else V 3 j := fun j => by simp (disch := decide) only [vU_n, vUe]
  have en : ∀ k, k ≠ 1 → k ≠ 3 → vU (vU V 1 v 1) 3 v (V 0 1) k = V k := fun k a b => by rw [vU_n _ _ _ b, vU_n _ _ _ a]
  generalize vU (vU V 1 v 1) 3 v (V 0 1) = V' at *
  obtain ⟨h0', h1, h2, h3, h4, h5, h6, h7⟩ := h
  rw [J, e0, en 2 (by decide) (by decide), en 4 (by decide) (by decide), en 5 (by decide) (by decide), en 6 (by decide) (by decide), en 7 (by decide) (by decide), en 8 (by decide) (by decide), en 9 (by decide) (by decide), en 10 (by decide) (by decide), en 11 (by decide) (by decide)]
  refine ⟨h0', h1, h2, h3, fun i hi => ?_, h5, h6, h7⟩
  obtain ⟨a1, a2, a3, a4, a5⟩ := h4 i hi
  rw [e1, e3]
  by_cases hq : i = v
  · rw [if_pos hq, if_pos hq]
    exact ⟨by decide, a2, Nat.le_refl _, a4, fun z => absurd z (by decide)⟩
  · rw [if_neg hq, if_neg hq]
    exact ⟨a1, a2, a3, a4, a5⟩
theorem J_wk {V : Nat → Nat → Nat} {N G v : Nat} (h : J V N G) : J (vU V 1 v 0) N G := by
  have e1 : ∀ j, vU V 1 v 0 1 j = if j = v then 0 else V 1 j := fun j => by simp (disch := decide) only [vUe]
  have en : ∀ k, k ≠ 1 → vU V 1 v 0 k = V k := fun k a => by rw [vU_n _ _ _ a]
  generalize vU V 1 v 0 = V' at *
  obtain ⟨h0', h1, h2, h3, h4, h5, h6, h7⟩ := h
  rw [J, en 0 (by decide), en 2 (by decide), en 3 (by decide), en 4 (by decide), en 5 (by decide), en 6 (by decide), en 7 (by decide), en 8 (by decide), en 9 (by decide), en 10 (by decide), en 11 (by decide)]
  refine ⟨h0', h1, h2, h3, fun i hi => ?_, h5, h6, h7⟩
  obtain ⟨a1, a2, a3, a4, a5⟩ := h4 i hi
  rw [e1]
  by_cases hq : i = v
  · rw [if_pos hq]
    exact ⟨by decide, a2, a3, a4, fun z => absurd z (by decide)⟩
  · rw [if_neg hq]
    exact ⟨a1, a2, a3, a4, a5⟩
theorem kGo_5 (V : Nat → Nat → Nat) (v j : Nat) : kGo V v 5 j = if v * 12 ≤ j ∧ j < v * 12 + 12 then 0 else V 5 j := by
  unfold kGo kZ
  rw [vA_s, vU_n _ _ _ (by decide)]
theorem kGo_1 (V : Nat → Nat → Nat) (v j : Nat) : kGo V v 1 j = if j = v then 2 else V 1 j := by
  unfold kGo kZ
  rw [vA_n _ _ (by decide), vUe]
theorem kGo_n (V : Nat → Nat → Nat) (v : Nat) {k : Nat} (h1 : k ≠ 1) (h5 : k ≠ 5) : kGo V v k = V k := by
  unfold kGo kZ
  rw [vA_n _ _ h5, vU_n _ _ _ h1]
theorem J_go {V : Nat → Nat → Nat} {N G v : Nat} (h : J V N G) : J (kGo V v) N G := by
  have e1 := kGo_1 V v
  have e5 := kGo_5 V v
  have en : ∀ k, k ≠ 1 → k ≠ 5 → kGo V v k = V k := fun k a b => kGo_n V v a b
  generalize kGo V v = V' at *
  obtain ⟨h0', h1, h2, h3, h4, h5, h6, h7⟩ := h
  rw [J, en 0 (by decide) (by decide), en 2 (by decide) (by decide), en 3 (by decide) (by decide), en 4 (by decide) (by decide), en 6 (by decide) (by decide), en 7 (by decide) (by decide), en 8 (by decide) (by decide), en 9 (by decide) (by decide), en 10 (by decide) (by decide), en 11 (by decide) (by decide)]
  refine ⟨h0', h1, h2, h3, fun i hi => ?_, fun i s hi hs hne => ?_, h6, h7⟩
  · obtain ⟨a1, a2, a3, a4, a5⟩ := h4 i hi
    rw [e1]
    by_cases hq : i = v
    · rw [if_pos hq]
      refine ⟨by decide, a2, a3, a4, fun z s hs => ?_⟩
      rw [e5, if_pos (by omega)]
    · rw [if_neg hq]
      refine ⟨a1, a2, a3, a4, fun z s hs => ?_⟩
      rw [e5]
      split
      · rfl
      · exact a5 z s hs
  · rw [e5] at hne ⊢
    by_cases hq : v * 12 ≤ i * 12 + s ∧ i * 12 + s < v * 12 + 12
    · rw [if_pos hq] at hne
      exact absurd rfl hne
    · rw [if_neg hq] at hne ⊢
      exact h5 i s hi hs hne
theorem J_cw {V : Nat → Nat → Nat} {N G x : Nat} (h : J V N G) (hx : 1 ≤ x ∧ x ≤ 30) : J (vU V 0 2 x) N G := by
  have e0 : ∀ j, vU V 0 2 x 0 j = if j = 2 then x else V 0 j := fun j => by simp (disch := decide) only [vUe]
  have en : ∀ k, k ≠ 0 → vU V 0 2 x k = V k := fun k a => by rw [vU_n _ _ _ a]
  generalize vU V 0 2 x = V' at *
  obtain ⟨h0', h1, h2, h3, h4, h5, h6, h7⟩ := h
  rw [J, e0 0, e0 1, e0 2, e0 3, en 1 (by decide), en 2 (by decide), en 3 (by decide), en 4 (by decide), en 5 (by decide), en 6 (by decide), en 7 (by decide), en 8 (by decide), en 9 (by decide), en 10 (by decide), en 11 (by decide)]
  exact ⟨h0', h1, hx, h3, h4, h5, h6, h7⟩
theorem J_add {V : Nat → Nat → Nat} {N G : Nat} (h : J V N G) (hx : V 0 0 < 7) : J (vU V 0 0 (V 0 0 + 1)) N G := by
  have e0 : ∀ j, vU V 0 0 (V 0 0 + 1) 0 j = if j = 0 then V 0 0 + 1 else V 0 j := fun j => by simp (disch := decide) only [vUe]
  have en : ∀ k, k ≠ 0 → vU V 0 0 (V 0 0 + 1) k = V k := fun k a => by rw [vU_n _ _ _ a]
  generalize vU V 0 0 (V 0 0 + 1) = V' at *
  obtain ⟨h0', h1, h2, h3, h4, h5, h6, h7⟩ := h
  rw [J, e0 0, e0 1, e0 2, e0 3, en 1 (by decide), en 2 (by decide), en 3 (by decide), en 4 (by decide), en 5 (by decide), en 6 (by decide), en 7 (by decide), en 8 (by decide), en 9 (by decide), en 10 (by decide), en 11 (by decide)]
  exact ⟨hx, h1, h2, h3, h4, h5, h6, h7⟩
