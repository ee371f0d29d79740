theorem rA_lv {V : Nat → Nat → Nat} {S : Nat → Nat} {N : Nat} (h : rA V S N) (v : Int32) : rA (kLv V v).1 (mLvP S v).1 N ∧ (kLv V v).2 = (mLvP S v).2 := by
  obtain ⟨hr, hs, hI, hj, hd⟩ := h
  have h7 := hI.1.2.2.1
  have q := sim_lv hr hs h7 v
  refine ⟨⟨q.1, q.2.1, ?_, ?_, ?_⟩, q.2.2⟩
  · unfold mLvP mLeaveS
    dsimp only
    split
    · rename_i hv
      obtain ⟨i, hi, rfl⟩ := hasN_of (by omega) hv
      rw [ix_nI (by omega)]
      split
      · exact hI
      · obtain ⟨hB, hW, hc, h1⟩ := mI_upN (j := 5 + 4 * i + 0) (x := 2) hI (Or.inl (by decide)) (by omega) (by omega) (by omega)
        have lo : ∀ j, j < 225 → mLv S i j = upN S (5 + 4 * i + 0) 2 j := fun j hj => zE_n _ (Or.inl (by omega))
        refine ⟨bS_le hB (fun j => zE_le _ _ _ _), fun u t a b => ?_, fun u a => ?_, ?_⟩
        · rw [lo 1 (by decide)]
          exact Nat.le_trans (zE_le _ _ _ _) (hW u t a b)
        · rw [lo _ (by omega)]; exact hc u a
        · rw [lo 1 (by decide)]; exact h1
    · exact hI
  · unfold kLv
    split
    · split
      · exact hj
      · exact hj
    · exact hj
  · unfold mLvP mLeaveS
    dsimp only
    split
    · rename_i hv
      obtain ⟨i, hi, rfl⟩ := hasN_of (by omega) hv
      rw [ix_nI (by omega)]
      split
      · exact hd
      · intro j a b
        have lo : mLv S i j = upN S (5 + 4 * i + 0) 2 j := zE_n _ (Or.inl (by omega))
        rw [lo, upN_n _ _ (by omega)]
        exact hd j a b
    · exact hd
theorem jV_H2 {V : Nat → Nat → Nat} (h : jV V) {f p : Nat} (hf : f < 84) : jV (kH2 V f p) := by
  intro q hq
  obtain ⟨a1, a2, a3, a4⟩ := h q hq
  obtain ⟨b1, b2, b3, b4⟩ := h f hf
  refine ⟨?_, ?_, ?_, ?_⟩
  · show upN (V 6) p (V 6 f) q ≤ 3
    unfold upN; split <;> assumption
  · show upN (V 7) p (V 7 f) q ≤ 99
    unfold upN; split <;> assumption
  · show upN (V 8) p (V 8 f) q ≤ V 0 1
    unfold upN; split <;> assumption
  · show upN (V 9) p (V 9 f) q < 128
    unfold upN; split <;> assumption
theorem jV_Hn {V : Nat → Nat → Nat} (h : jV V) {t f : Nat} (p : Nat) (ht : t < 12) (hf : f < 7) : jV (kHn V t f p) := by
  unfold kHn
  refine jV_H2 ?_ (by omega)
  unfold kH1
  split
  · exact h
  · exact h
theorem jV_Sh {V : Nat → Nat → Nat} (h : jV V) {a b t : Nat} (ha : a < 7) (hb : b < 7) (ht : t < 12) : jV (kSh V a b t) := by
  unfold kSh
  split
  · have hk : kBoth V a b t < 2 ^ 7 := by
      have p7 : ∀ x, x < 7 → 2 ^ x < 2 ^ 7 := fun x hx => Nat.pow_lt_pow_right (by decide) hx
      exact Nat.or_lt_two_pow (Nat.or_lt_two_pow (Nat.or_lt_two_pow (h _ (by omega)).2.2.2 (h _ (by omega)).2.2.2) (p7 a ha)) (p7 b hb)
    intro q hq
    obtain ⟨a1, a2, a3, a4⟩ := h q hq
    refine ⟨a1, a2, a3, ?_⟩
    show upN (upN (V 9) (a * 12 + t) (kBoth V a b t)) (b * 12 + t) (kBoth V a b t) q < 128
    unfold upN
    split
    · exact hk
    · split
      · exact hk
      · exact a4
  · exact h
theorem jV_Tt {V : Nat → Nat → Nat} (h : jV V) {a b : Nat} (ha : a < 7) (hb : b < 7) : ∀ t, t ≤ 12 → jV (kTt V a b t).1
  | 0, _ => h
  | t + 1, ht => by
    have ih := jV_Tt h ha hb t (by omega)
    rw [kTt_s]
    dsimp only
    unfold kSt
    refine jV_Sh ?_ ha hb (by omega)
    rcases hG : kGv (kTt V a b t).1 a b t with _ | e
    · rw [if_pos rfl]; exact ih
    · rw [if_neg (show ¬ e + 1 = 0 by omega), Nat.add_sub_cancel]
      have := kGv_ab hG
      exact jV_Hn ih _ (by omega) (by omega)
theorem rA_tk {V : Nat → Nat → Nat} {S : Nat → Nat} {N o p : Nat} (h : rA V S N) (ho : o < S 0) (hp : p < S 0) (hop : o ≠ p) : rA (kTk V o p).1 (mMeet S o p).1 N ∧ (kTk V o p).2 = (mMeet S o p).2 := by
  obtain ⟨hr, hs, hI, hj, hd⟩ := h
  have h7 := hI.1.2.2.1
  obtain ⟨q1, q2, q3⟩ := sim_tk hr hs h7 ho hp hop
  refine ⟨⟨q1, q2, mI_Meet hI (by omega) (by omega), ?_, fun j a b => ?_⟩, q3⟩
  · unfold kTk
    exact jV_Tt hj (by omega) (by omega) 12 (Nat.le_refl _)
  · rw [mMeet_lo S (by omega) (by omega) b (by omega) (by omega)]
    exact hd j a b

